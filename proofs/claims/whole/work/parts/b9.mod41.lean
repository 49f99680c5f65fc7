theorem run_zero {D : List Nat} : ∀ {n : Nat}, run (fun x => decide (x = 0)) D 0 = n → ∀ q, q < n → D.getD q 0 = 0 := by
  have h : ∀ (d k : Nat), D.length - k = d → ∀ q, k ≤ q → q < k + run (fun x => decide (x = 0)) D k → D.getD q 0 = 0 := by
    intro d
    induction d with
    | zero =>
      intro k hk q h1 h2
      rw [run_0 (by omega)] at h2
      omega
    | succ d ih =>
      intro k hk q h1 h2
      by_cases c : decide (D.getD k 0 = 0) = true
      · rw [run_s (by omega) c] at h2
        by_cases e : q = k
        · rw [e]; exact of_decide_eq_true c
        · exact ih (k + 1) (by omega) q (by omega) (by omega)
      · rw [run_e (by omega) c] at h2
        omega
  intro n hn q hq
  exact h (D.length - 0) 0 rfl q (by omega) (by omega)

/-- the zeros ahead of the 1: so far -/
def ZRd (D : List Nat) (n j : Nat) (v : Int) : Prop := (v = 1 ∧ D.getD n 0 = 1 ∧ ∀ q, q < j → D.getD q 0 = 0) ∨ (v = 0 ∧ ¬ (D.getD n 0 = 1 ∧ ∀ q, q < j → D.getD q 0 = 0))
theorem ZRd.r {D : List Nat} {n j : Nat} {v : Int} (h : ZRd D n j v) : v = 0 ∨ v = 1 := by
  rcases h with ⟨h, -⟩ | ⟨h, -⟩
  · exact Or.inr h
  · exact Or.inl h
theorem ZRd.y {D : List Nat} {n : Nat} (h : D.getD n 0 = 1) : ZRd D n 0 1 := Or.inl ⟨rfl, h, fun q hq => absurd hq (by omega)⟩
theorem ZRd.n {D : List Nat} {n : Nat} (h : D.getD n 0 ≠ 1) : ZRd D n 0 0 := Or.inr ⟨rfl, fun q => h q.1⟩
theorem ZRd.s1 {D : List Nat} {n j : Nat} {v : Int} (h : ZRd D n j v) (hv : v ≠ 0) (e : D.getD j 0 = 0) : ZRd D n (j + 1) 1 := by
  rcases h with ⟨h, g1, g2⟩ | ⟨h, g⟩
  · refine Or.inl ⟨rfl, g1, fun q hq => ?_⟩
    by_cases c : q = j
    · rw [c]; exact e
    · exact g2 q (by omega)
  · exact absurd h hv
theorem ZRd.s0 {D : List Nat} {n j : Nat} {v : Int} (h : ZRd D n j v) (hv : v = 0) : ZRd D n (j + 1) 0 := by
  rcases h with ⟨h, g⟩ | ⟨h, g⟩
  · rw [h] at hv; exact absurd hv (by decide)
  · exact Or.inr ⟨rfl, fun q => g ⟨q.1, fun x hx => q.2 x (by omega)⟩⟩
theorem ZRd.sn {D : List Nat} {n j : Nat} (e : D.getD j 0 ≠ 0) : ZRd D n (j + 1) 0 := Or.inr ⟨rfl, fun q => e (q.2 j (by omega))⟩
theorem zrd_tf {D : List Nat} {n : Nat} {v : Int} (h : ZRd D n n v) (hn : n < D.length) : tf v (run (fun x => decide (x = 0)) D 0 = n ∧ D.getD n 0 = 1) := by
  have e : (D.getD n 0 = 1 ∧ ∀ q, q < n → D.getD q 0 = 0) ↔ (run (fun x => decide (x = 0)) D 0 = n ∧ D.getD n 0 = 1) := by
    constructor
    · intro ⟨g1, g2⟩
      refine ⟨run_eq (by omega) (fun q _ hq => by simpa using g2 q (by omega)) (Or.inr ?_), g1⟩
      rw [Nat.zero_add, g1]
      decide
    · intro ⟨g1, g2⟩
      exact ⟨g2, run_zero g1⟩
  rcases h with ⟨h, g⟩ | ⟨h, g⟩
  · exact Or.inl ⟨h, e.mp g⟩
  · exact Or.inr ⟨h, fun q => g (e.mpr q)⟩

theorem taste_seg {h : Int} {r : Nat} {F : List Nat} (hF : rB r ≤ F.length) (hE : hl h + 1 ≤ rB r) : (F.drop (F.length - rB r)).take (rB r - hl h - 1) = tasteX h r F ∧ ((F.drop (F.length - rB r)).drop (rB r - hl h - 1)).take (hl h) = tasteS h r F := by
  refine ⟨rfl, ?_⟩
  unfold tasteS
  rw [List.drop_drop]
theorem crs_t0 {G M : List Nat} {n : Nat} (hn : n ≤ G.length) : crs G 0 n M = mix (G.take n) M ++ G.drop n := by
  have e := crs_0 (B := G.take n) (C := G.drop n) (M := M) (n := n) (by rw [List.length_take]; omega)
  rw [List.take_append_drop] at e
  exact e

set_option maxHeartbeats 16000000 in
set_option maxRecDepth 100000 in
theorem c_X8_taste [Gh] (l : Launch) (w : Wl) (σ : St) (hk0 : w.2 13 0) (hw19 : ∀ q, w.2 19 q → q < 4096) (A : Ab) (hM : HM σ A) (p0 : Int) (hp0 : rI p0) (p1 : Int) (hp1 : rI p1) (p2 : Int) (hp2 : rI p2) (p3 : Int) (hp3 : rI p3) (p4 : Int) (hp4 : rI p4) : Cz l yX8_taste cX8_taste 13 (Option.some Jvm.ClassFile.FieldType.int) 7 177 (kap σ * 10360) (kap σ * 103600) wI [.ref (w.1 13 0), .int (iI (p0)), .int (iI (p1)), .int (iI (p2)), .int (iI (p3)), .int (iI (p4))] w σ (fun a σ' => ∃ A', f_taste A p0 p1 p2 p3 p4 = (σ' 10 0 0, a, A') ∧ HM σ' A' ∧ FC σ σ') := by
  refine Cz.of (own := RX8) (lv := [(0, .ref (w.1 13 0)), (1, .int (iI (p0))), (2, .int (iI (p1))), (3, .int (iI (p2))), (4, .int (iI (p3))), (5, .int (iI (p4)))]) (by decide +kernel) rfl (Nat.le_of_ble_eq_true rfl) rfl (fun X hX hxl hR hcl hret => ?_)
  subst hxl
  have hQ : ∀ q, (14, q) ∈ mn σ 13 0 → w.2 14 q := fun q h => hcl 13 0 hk0 (14, q) h
  have hQ5 : ∀ q, (14, q) ∈ mn σ 13 0 → w.2 15 q := fun q h => hcl 14 q (hQ q h) (15, q) (by simp [mn, tp])
  have hQ16 : ∀ q, (16, q) ∈ mn σ 13 0 → w.2 16 q := fun q h => hcl 13 0 hk0 (16, q) h
  have hp0a := hp0.1
  have hp0b := hp0.2
  have hp1a := hp1.1
  have hp1b := hp1.2
  have hp2a := hp2.1
  have hp2b := hp2.2
  have hp3a := hp3.1
  have hp3b := hp3.2
  have hp4a := hp4.1
  have hp4b := hp4.2
  refine v_aload_n hX 0 rfl (atL dAX8_taste_0 0 rfl) ?_
  refine v_iload_n hX 3 rfl (atL dAX8_taste_0 1 rfl) ?_
  refine v_iload hX 4 rfl (atL dAX8_taste_0 2 rfl) ?_
  refine v_iload hX 4 rfl (atL dAX8_taste_0 3 rfl) ?_
  refine v_callV hX (As := [.int (iI (p2)), .int (iI (p3)), .int (iI (p3))]) (rest := []) (c_X8_are (xl X) w σ hk0 p2 hp2 p3 hp3 p3 hp3) lk_X8_240 hk0 (fun _ => rfl) rfl rfl rfl (by rw [hR]; exact ⟨Nat.le_of_ble_eq_true rfl, Nat.le_of_ble_eq_true rfl⟩) (by rw [hR]; exact (ZI.z : ZI (kap σ) (0, 0) σ).b) rfl (Nat.le_of_ble_eq_true rfl) (atL dAX8_taste_0 4 rfl) (fun r1 s1 g1 => ?_)
  obtain ⟨gs1, ht1, hG1, hA1, hD1⟩ := are_use g1 FG.rf hM.2.1 hM.2.2
  have gd1 : r1 = 0 ∨ r1 = 1 := by rcases gs1 with q | q <;> omega
  have hz1 := (ZI.z : ZI (kap σ) (0, 0) σ).k (t := s1) (are_4 g1)
  show V X _ w _ _ s1 [.int (iI (r1))]
  refine v_if_eq hX ⟨by omega, by omega⟩ (tgt := 54) (atL dAX8_taste_0 5 rfl) (by decide) (fun h9 => ?_) (fun h9 => ?_)
  · refine v_iconst hX (atL dAX8_taste_0 26 rfl) ?_
    exact v_iret hX (atL dAX8_taste_0 27 rfl) ((hret _ _ ⟨A, by rw [show s1 10 0 0 = 1 by omega]; unfold f_taste; rw [if_pos (by omega)], hM.same hG1 hA1 hD1, hG1.fc⟩ _ hz1))
  · refine v_aload_n hX 0 rfl (atL dAX8_taste_0 6 rfl) ?_
    refine v_iload_n hX 1 rfl (atL dAX8_taste_0 7 rfl) ?_
    refine v_callV hX (As := [.int (iI (p0))]) (rest := []) (c_X8_isKey (xl X) w s1 hk0 p0 hp0 A.2.1 (hM.1.fg hG1).2.2.1 hM.1.2.2.2.1) lk_X8_370 hk0 (fun _ => rfl) rfl rfl rfl (by rw [hR]; exact ⟨Nat.le_of_ble_eq_true rfl, Nat.le_of_ble_eq_true rfl⟩) (by rw [hR]; exact hz1.b) rfl (Nat.le_of_ble_eq_true rfl) (atL dAX8_taste_0 8 rfl) (fun r2 s2 g2 => ?_)
    obtain ⟨gs2, ht2, hG2, hA2, hD2⟩ := iss_use g2 (by omega) hG1 hA1 hD1
    have gd2 : r2 = 0 ∨ r2 = 1 := by rcases gs2 with q | q <;> omega
    have hz2 := hz1.k (t := s2) (iss_4 g2)
    show V X _ w _ _ s2 [.int (iI (r2))]
    refine v_if_eq hX ⟨by omega, by omega⟩ (tgt := 54) (atL dAX8_taste_0 9 rfl) (by decide) (fun h17 => ?_) (fun h17 => ?_)
    · refine v_iconst hX (atL dAX8_taste_0 26 rfl) ?_
      exact v_iret hX (atL dAX8_taste_0 27 rfl) ((hret _ _ ⟨A, by rw [show s2 10 0 0 = 1 by omega]; unfold f_taste; rw [if_pos (by omega)], hM.same hG2 hA2 hD2, hG2.fc⟩ _ hz2))
    · obtain ⟨sp2, rfl⟩ : ∃ q : Nat, p2 = (q : Int) := ⟨p2.toNat, by omega⟩
      obtain ⟨sp3, rfl⟩ : ∃ q : Nat, p3 = (q : Int) := ⟨p3.toNat, by omega⟩
      obtain ⟨lsp2, hlsp2⟩ : ∃ q, (A.1 sp2).length = q := ⟨_, rfl⟩
      have hqsp2 : lsp2 ≤ 256 := by rw [← hlsp2]; exact hM.1.len (by omega)
      have hbvsp2 : lb (rv (A.1 sp2)) 128 := rv_lb (hM.1.by (by omega)) (hM.1.len (by omega))
      obtain ⟨lsp3, hlsp3⟩ : ∃ q, (A.1 sp3).length = q := ⟨_, rfl⟩
      have hqsp3 : lsp3 ≤ 256 := by rw [← hlsp3]; exact hM.1.len (by omega)
      have hbvsp3 : lb (rv (A.1 sp3)) 128 := rv_lb (hM.1.by (by omega)) (hM.1.len (by omega))
      obtain ⟨kx, rfl⟩ : ∃ q : Nat, p0 = (q : Int) := ⟨p0.toNat, by omega⟩
      obtain ⟨P, hPe⟩ : ∃ q, A.2.2.1 kx = q := ⟨_, rfl⟩
      obtain ⟨K, hKe⟩ : ∃ q, A.2.2.2 kx = q := ⟨_, rfl⟩
      have hK : KM σ kx P K := by rw [← hPe, ← hKe]; exact hM.1.2.2.2.2 kx (by omega)
      have hk16 := hM.1.2.2.2.1
      have hPP := hK.1
      have hkb : ∀ j, j < P → lb (K j) 64 := fun j hj => by have := (hK.2.2.1 j hj).2.1; exact nby_lb this
      have hK0 := hK.2.2.2
      have hKn := (hK.2.2.1 0 (by omega)).2.1
      have hKn1 := nby_pos hK0
      have hKnb : nby (K 0) = (blen (K 0) + 7) / 8 := rfl
      have hblK := blen_pos hK0
      obtain ⟨rr, hrr⟩ : ∃ q, blen (K 0) - 1 = q := ⟨_, rfl⟩
      obtain ⟨E, hE⟩ : ∃ q, rB rr = q := ⟨_, rfl⟩
      have hE2 : (rr + 7) / 8 = E := hE
      have hrS : rS rr = 8 * E - rr := by unfold rS; rw [hE]
      have hrS8 := rS_lt rr
      have hbK2 : blen (K 0) ≤ 1024 := by have := hKn; unfold nby at this; omega
      refine v_aload_n hX 0 rfl (atL dAX8_taste_0 10 rfl) ?_
      refine v_iload_n hX 2 rfl (atL dAX8_taste_0 11 rfl) ?_
      refine v_if_lt hX ⟨by omega, by omega⟩ (tgt := 43) (atL dAX8_taste_0 12 rfl) (by decide) (fun h22 => ?_) (fun h22 => ?_)
      · refine v_iconst hX (atL dAX8_taste_0 21 rfl) ?_
        refine v_goto hX (tgt := 48) (atL dAX8_taste_0 22 rfl) (by decide) ?_
        refine v_callV hX (As := [.int (iI (1))]) (rest := []) (c_X8_bad (xl X) w s2 hk0 1 (by decide)) lk_X8_244 hk0 (fun _ => rfl) rfl rfl rfl (by rw [hR]; exact ⟨Nat.le_of_ble_eq_true rfl, Nat.le_of_ble_eq_true rfl⟩) (by rw [hR]; exact hz2.b) rfl (Nat.le_of_ble_eq_true rfl) (atL dAX8_taste_0 24 rfl) (fun r3 s3 g3 => ?_)
        obtain ⟨gs3, ht3, hG3, hA3, hD3⟩ := bad_use g3 (by omega) hG2 hA2 hD2
        have hz3 := hz2.k (t := s3) (bad_4 g3)
        subst gs3
        show V X _ w _ _ s3 [.int (iI (1))]
        refine v_if_eq hX ⟨by omega, by omega⟩ (tgt := 56) (atL dAX8_taste_0 25 rfl) (by decide) (fun h51 => absurd h51 (by omega)) (fun h51 => ?_)
        refine v_iconst hX (atL dAX8_taste_0 26 rfl) ?_
        exact v_iret hX (atL dAX8_taste_0 27 rfl) ((hret _ _ ⟨A, by rw [show s3 10 0 0 = 2 by omega]; unfold f_taste; rw [if_neg (by omega), if_pos (by omega)], hM.same hG3 hA3 hD3, hG3.fc⟩ _ hz3))
      · refine v_iload_n hX 2 rfl (atL dAX8_taste_0 13 rfl) ?_
        refine v_iconst hX (atL dAX8_taste_0 14 rfl) ?_
        refine v_icmp_gt hX ⟨by omega, by omega⟩ ⟨by omega, by omega⟩ (tgt := 43) (atL dAX8_taste_0 15 rfl) (by decide) (fun h27 => ?_) (fun h27 => ?_)
        · refine v_iconst hX (atL dAX8_taste_0 21 rfl) ?_
          refine v_goto hX (tgt := 48) (atL dAX8_taste_0 22 rfl) (by decide) ?_
          refine v_callV hX (As := [.int (iI (1))]) (rest := []) (c_X8_bad (xl X) w s2 hk0 1 (by decide)) lk_X8_244 hk0 (fun _ => rfl) rfl rfl rfl (by rw [hR]; exact ⟨Nat.le_of_ble_eq_true rfl, Nat.le_of_ble_eq_true rfl⟩) (by rw [hR]; exact hz2.b) rfl (Nat.le_of_ble_eq_true rfl) (atL dAX8_taste_0 24 rfl) (fun r4 s4 g4 => ?_)
          obtain ⟨gs4, ht4, hG4, hA4, hD4⟩ := bad_use g4 (by omega) hG2 hA2 hD2
          have hz4 := hz2.k (t := s4) (bad_4 g4)
          subst gs4
          show V X _ w _ _ s4 [.int (iI (1))]
          refine v_if_eq hX ⟨by omega, by omega⟩ (tgt := 56) (atL dAX8_taste_0 25 rfl) (by decide) (fun h51 => absurd h51 (by omega)) (fun h51 => ?_)
          refine v_iconst hX (atL dAX8_taste_0 26 rfl) ?_
          exact v_iret hX (atL dAX8_taste_0 27 rfl) ((hret _ _ ⟨A, by rw [show s4 10 0 0 = 2 by omega]; unfold f_taste; rw [if_neg (by omega), if_pos (by omega)], hM.same hG4 hA4 hD4, hG4.fc⟩ _ hz4))
        · refine v_iload hX 5 rfl (atL dAX8_taste_0 16 rfl) ?_
          refine v_if_lt hX ⟨by omega, by omega⟩ (tgt := 43) (atL dAX8_taste_0 17 rfl) (by decide) (fun h32 => ?_) (fun h32 => ?_)
          · refine v_iconst hX (atL dAX8_taste_0 21 rfl) ?_
            refine v_goto hX (tgt := 48) (atL dAX8_taste_0 22 rfl) (by decide) ?_
            refine v_callV hX (As := [.int (iI (1))]) (rest := []) (c_X8_bad (xl X) w s2 hk0 1 (by decide)) lk_X8_244 hk0 (fun _ => rfl) rfl rfl rfl (by rw [hR]; exact ⟨Nat.le_of_ble_eq_true rfl, Nat.le_of_ble_eq_true rfl⟩) (by rw [hR]; exact hz2.b) rfl (Nat.le_of_ble_eq_true rfl) (atL dAX8_taste_0 24 rfl) (fun r5 s5 g5 => ?_)
            obtain ⟨gs5, ht5, hG5, hA5, hD5⟩ := bad_use g5 (by omega) hG2 hA2 hD2
            have hz5 := hz2.k (t := s5) (bad_4 g5)
            subst gs5
            show V X _ w _ _ s5 [.int (iI (1))]
            refine v_if_eq hX ⟨by omega, by omega⟩ (tgt := 56) (atL dAX8_taste_0 25 rfl) (by decide) (fun h51 => absurd h51 (by omega)) (fun h51 => ?_)
            refine v_iconst hX (atL dAX8_taste_0 26 rfl) ?_
            exact v_iret hX (atL dAX8_taste_0 27 rfl) ((hret _ _ ⟨A, by rw [show s5 10 0 0 = 2 by omega]; unfold f_taste; rw [if_neg (by omega), if_pos (by omega)], hM.same hG5 hA5 hD5, hG5.fc⟩ _ hz5))
          · refine v_iload hX 5 rfl (atL dAX8_taste_0 18 rfl) ?_
            refine v_sipush hX (by decide +kernel) (atL dAX8_taste_0 19 rfl) ?_
            refine v_icmp_le hX ⟨by omega, by omega⟩ ⟨by omega, by omega⟩ (tgt := 47) (atL dAX8_taste_0 20 rfl) (by decide) (fun h40 => ?_) (fun h40 => ?_)
            · refine v_iconst hX (atL dAX8_taste_0 23 rfl) ?_
              refine v_callV hX (As := [.int (iI (0))]) (rest := []) (c_X8_bad (xl X) w s2 hk0 0 (by decide)) lk_X8_244 hk0 (fun _ => rfl) rfl rfl rfl (by rw [hR]; exact ⟨Nat.le_of_ble_eq_true rfl, Nat.le_of_ble_eq_true rfl⟩) (by rw [hR]; exact hz2.b) rfl (Nat.le_of_ble_eq_true rfl) (atL dAX8_taste_0 24 rfl) (fun r6 s6 g6 => ?_)
              obtain ⟨gs6, ht6, hG6, hA6, hD6⟩ := bad_use g6 (by omega) hG2 hA2 hD2
              have hz6 := hz2.k (t := s6) (bad_4 g6)
              subst gs6
              show V X _ w _ _ s6 [.int (iI (0))]
              refine v_if_eq hX ⟨by omega, by omega⟩ (tgt := 56) (atL dAX8_taste_0 25 rfl) (by decide) (fun h51 => ?_) (fun h51 => absurd h51 (by omega))
              have hh : isH p1 := by omega
              have hhr : rI p1 := hp1
              have hlg := hl_ge p1
              have hl3 := hl_32 p1
              obtain ⟨i4, rfl⟩ : ∃ q : Nat, p4 = (q : Int) := ⟨p4.toNat, by omega⟩
              refine v_aload_n hX 0 rfl (atL dAX8_taste_0 28 rfl) ?_
              refine v_iload_n hX 1 rfl (atL dAX8_taste_0 29 rfl) ?_
              refine v_callV hX (As := [.int (iI ((kx : Int)))]) (rest := []) (c_X8_lengthOf (xl X) w s6 hk0 hA6 kx (by omega) P K (hK.fg hG6)) lk_X8_380 hk0 (fun _ => rfl) rfl rfl rfl (by rw [hR]; exact ⟨Nat.le_of_ble_eq_true rfl, Nat.le_of_ble_eq_true rfl⟩) (by rw [hR]; exact hz6.b) rfl (Nat.le_of_ble_eq_true rfl) (atL dAX8_taste_0 30 rfl) (fun r7 s7 e7 => ?_)
              obtain ⟨ga7, hw7, hf7⟩ := e7
              subst ga7
              have hA7 := hA6.one hf7 hw7
              have hG7 := hG6.fr hf7 rfl (by decide)
              have hD7 := hD6.fr hf7 (by decide) (by decide) (by decide)
              have ht7 : s7 10 0 0 = 0 := by rw [hf7 10 0 (by decide)]; omega
              have hz7 := hz6.k (t := s7) (by rw [hf7 10 0 (by decide)])
              show V X _ w _ _ s7 [.int (iI (((nby (K 0) : Nat) : Int)))]
              refine v_istore hX (lv' := [(6, .int (iI (((nby (K 0) : Nat) : Int)))), (0, .ref (w.1 13 0)), (1, .int (iI ((kx : Int)))), (2, .int (iI (p1))), (3, .int (iI ((sp2 : Int)))), (4, .int (iI ((sp3 : Int)))), (5, .int (iI ((i4 : Int))))]) (Nat.le_of_ble_eq_true rfl) rfl (atL dAX8_taste_0 31 rfl) ?_
              refine v_iload_n hX 3 rfl (atL dAX8_taste_0 32 rfl) ?_
              refine v_callS hX (As := [.int (iI (p1))]) (rest := []) (c_X8_long0 (xl X) w s7 p1 hhr) lk_X8_351 rfl (by rw [hR]; exact ⟨Nat.le_of_ble_eq_true rfl, Nat.le_of_ble_eq_true rfl⟩) (by rw [hR]; exact hz7.b) rfl (Nat.le_of_ble_eq_true rfl) (atL dAX8_taste_0 33 rfl) (fun r8 z8 g8 => ?_)
              obtain ⟨ga8, gb8⟩ := g8
              rw [gb8]
              subst ga8
              show V X _ w _ _ s7 [.int (iI ((hl p1 : Int)))]
              refine v_istore hX (lv' := [(7, .int (iI ((hl p1 : Int)))), (6, .int (iI (((nby (K 0) : Nat) : Int)))), (0, .ref (w.1 13 0)), (1, .int (iI ((kx : Int)))), (2, .int (iI (p1))), (3, .int (iI ((sp2 : Int)))), (4, .int (iI ((sp3 : Int)))), (5, .int (iI ((i4 : Int))))]) (Nat.le_of_ble_eq_true rfl) rfl (atL dAX8_taste_0 34 rfl) ?_
              refine v_aload_n hX 2 rfl (atL dAX8_taste_0 35 rfl) ?_
              refine gf_X8_126 hX hk0 (atL dAX8_taste_0 36 rfl) ?_
              refine v_callN hX (As := []) (rest := []) (c_X7_bits (xl X) w s7 23 (K 0) (hQ 23 (by simp [mn, tp])) hw7) lk_X8_167 (hQ 23 (by simp [mn, tp])) (fun _ => rfl) rfl rfl rfl (by rw [hR]; exact ⟨Nat.le_of_ble_eq_true rfl, Nat.le_of_ble_eq_true rfl⟩) (by rw [hR]; exact hz7.b) rfl (Nat.le_of_ble_eq_true rfl) (atL dAX8_taste_0 37 rfl) (fun r9 z9 g9 => ?_)
              obtain ⟨ga9, gb9⟩ := g9
              rw [gb9]
              subst ga9
              have hbl9 : blen (K 0) ≤ 4320 := blen_le (NN.le hw7)
              have hby9 : nby (K 0) = (blen (K 0) + 7) / 8 := rfl
              show V X _ w _ _ s7 [.int (iI (((blen (K 0) : Nat) : Int)))]
              refine v_iconst hX (atL dAX8_taste_0 38 rfl) ?_
              refine v_isub hX (iI_sub _ _) (atL dAX8_taste_0 39 rfl) ?_
              rw [show ((((blen (K 0) : Nat) : Int)) - 1) = (rr : Int) from (by omega)]
              refine v_istore hX (lv' := [(8, .int (iI ((rr : Int)))), (7, .int (iI ((hl p1 : Int)))), (6, .int (iI (((nby (K 0) : Nat) : Int)))), (0, .ref (w.1 13 0)), (1, .int (iI ((kx : Int)))), (2, .int (iI (p1))), (3, .int (iI ((sp2 : Int)))), (4, .int (iI ((sp3 : Int)))), (5, .int (iI ((i4 : Int))))]) (Nat.le_of_ble_eq_true rfl) rfl (atL dAX8_taste_0 40 rfl) ?_
              refine v_iload hX 0 rfl (atL dAX8_taste_0 41 rfl) ?_
              refine v_bipush hX (by decide +kernel) (atL dAX8_taste_0 42 rfl) ?_
              refine v_iadd hX (iI_add _ _) (atL dAX8_taste_0 43 rfl) ?_
              refine v_bipush hX (by decide +kernel) (atL dAX8_taste_0 44 rfl) ?_
              refine v_idiv hX (fun e0 => absurd ((iI_eq (b := 0) ⟨by omega, by omega⟩ ⟨by omega, by omega⟩).mp e0) (by omega)) (iI_div (by omega) (by omega) (by omega) (by omega)) (atL dAX8_taste_0 45 rfl) ?_
              rw [show ((((rr : Int)) + 7) / 8) = (E : Int) from (by omega)]
              refine v_istore hX (lv' := [(9, .int (iI ((E : Int)))), (8, .int (iI ((rr : Int)))), (7, .int (iI ((hl p1 : Int)))), (6, .int (iI (((nby (K 0) : Nat) : Int)))), (0, .ref (w.1 13 0)), (1, .int (iI ((kx : Int)))), (2, .int (iI (p1))), (3, .int (iI ((sp2 : Int)))), (4, .int (iI ((sp3 : Int)))), (5, .int (iI ((i4 : Int))))]) (Nat.le_of_ble_eq_true rfl) rfl (atL dAX8_taste_0 46 rfl) ?_
              refine v_aload_n hX 4 rfl (atL dAX8_taste_0 47 rfl) ?_
              refine v_iload_n hX 5 rfl (atL dAX8_taste_0 48 rfl) ?_
              refine v_iconst hX (atL dAX8_taste_0 49 rfl) ?_
              refine v_iload hX 8 rfl (atL dAX8_taste_0 50 rfl) ?_
              refine v_callV hX (As := [.int (iI ((kx : Int))), .int (iI (1)), .int (iI ((sp3 : Int)))]) (rest := []) (c_X8_opened (xl X) w s7 hk0 A (hM.same hG7 hA7 hD7) (by omega) kx (by omega) P K (hK.fg hG7) 0 (by omega) sp3 (by omega)) lk_X8_391 hk0 (fun _ => rfl) rfl rfl rfl (by rw [hR]; exact ⟨Nat.le_of_ble_eq_true rfl, Nat.le_of_ble_eq_true rfl⟩) (by rw [hR]; exact hz7.b) rfl (Nat.le_of_ble_eq_true rfl) (atL dAX8_taste_0 51 rfl) (fun r10 s10 e10 => ?_)
              obtain ⟨gc10, hA10, hO10⟩ := e10
              have gd10 : r10 = 0 ∨ r10 = 1 := by rcases gc10 with q | q <;> omega
              have hG10 := FO.fg hG7 hO10
              have hD10 := FO.dg hD7 hO10
              have ht10 : s10 10 0 0 = 0 := by rw [hO10.2 0 (by decide)]; omega
              have hz10 := hz7.k (t := s10) (hO10.2 4 (by decide))
              show V X _ w _ _ s10 [.int (iI (r10))]
              refine v_if_eq hX ⟨by omega, by omega⟩ (tgt := 113) (atL dAX8_taste_0 52 rfl) (by decide) (fun h98 => ?_) (fun h98 => ?_)
              · refine v_iconst hX (atL dAX8_taste_1 0 rfl) ?_
                exact v_iret hX (atL dAX8_taste_1 1 rfl) ((hret _ _ ⟨A, by rw [show s10 10 0 0 = 0 by omega]; unfold f_taste; simp only [Int.toNat_natCast, hPe, hKe, hrr, hE]; rw [if_neg (by omega), if_neg (by omega), if_neg (fun q => (gc10.resolve_left (fun q => by omega)).2 q.1.2)], hM.same hG10 hA10 hD10, hG10.fc⟩ _ hz10))
              · refine v_iload hX 0 rfl (atL dAX8_taste_0 53 rfl) ?_
                refine v_iload hX 2 rfl (atL dAX8_taste_0 54 rfl) ?_
                refine v_iload hX 9 rfl (atL dAX8_taste_0 55 rfl) ?_
                refine v_iadd hX (iI_add _ _) (atL dAX8_taste_0 56 rfl) ?_
                refine v_iconst hX (atL dAX8_taste_0 57 rfl) ?_
                refine v_iadd hX (iI_add _ _) (atL dAX8_taste_0 58 rfl) ?_
                refine v_icmp_ge hX ⟨by omega, by omega⟩ ⟨by omega, by omega⟩ (tgt := 115) (atL dAX8_taste_0 59 rfl) (by decide) (fun h110 => ?_) (fun h110 => ?_)
                · obtain ⟨-, hwr, hAW⟩ := gc10.resolve_right (fun q => by omega)
                  obtain ⟨F, hF⟩ : ∃ q, tn K 0 (A.1 sp3) = q := ⟨_, rfl⟩
                  rw [hF] at hAW
                  have hFl : F.length = nby (K 0) := by rw [← hF]; exact tn_len
                  have hFb : BY F := by rw [← hF]; exact be_by
                  have hrBK : E ≤ nby (K 0) := by omega
                  have hEF : E ≤ F.length := by omega
                  obtain ⟨G, hG⟩ : ∃ q, F.drop (F.length - E) = q := ⟨_, rfl⟩
                  have hGl : G.length = E := by rw [← hG, List.length_drop]; omega
                  have hGb : BY G := by rw [← hG]; exact hFb.drop
                  obtain ⟨hTX, hTS⟩ := taste_seg (h := p1) (r := rr) (F := F) (by omega) (by omega)
                  rw [hE, hG] at hTX hTS
                  have tail : (E < F.length → F.getD 0 0 = 0) → ∀ (z9 : Nat × Nat) (t9 : St), FG σ t9 → AN t9 → DG t9 → ZI (kap σ) z9 t9 → t9 10 0 0 = 0 → AW (t9 13 13) 0 G → V X z9 w 165 [(9, .int (iI ((E : Int)))), (8, .int (iI ((rr : Int)))), (7, .int (iI ((hl p1 : Int)))), (6, .int (iI (((nby (K 0) : Nat) : Int)))), (0, .ref (w.1 13 0)), (1, .int (iI ((kx : Int)))), (2, .int (iI (p1))), (3, .int (iI ((sp2 : Int)))), (4, .int (iI ((sp3 : Int)))), (5, .int (iI ((i4 : Int))))] t9 [] := by
                    intro hfirst z9 t9 hG9 hA9 hD9 hz9 ht9 hp9
                    obtain ⟨n0, hn0⟩ : ∃ q, E - hl p1 - 1 - i4 - 1 = q := ⟨_, rfl⟩
                    have hlast : F.getD (F.length - 1) 0 = G.getD (E - 1) 0 := by rw [← hG, gD_drop]; congr 1; omega
                    have hGX : G.getD 0 0 = (tasteX p1 rr F).getD 0 0 := by rw [← hTX, gD_take, if_pos (by omega)]
                    obtain ⟨g0, hg0⟩ : ∃ q, G.getD 0 0 = q := ⟨_, rfl⟩
                    have hg0l : g0 < 256 := by rw [← hg0]; exact hGb.get 0
                    have hpg0 := hp9.get (j := 0) (by omega)
                    rw [hg0] at hpg0
                    obtain ⟨W, hW⟩ : ∃ q, 2 ^ (8 - rS rr) = q := ⟨_, rfl⟩
                    have hWp : 0 < W := by rw [← hW]; exact Nat.two_pow_pos _
                    refine v_sipush hX (by decide +kernel) (atL dAX8_taste_1 29 rfl) ?_
                    refine v_bipush hX (by decide +kernel) (atL dAX8_taste_1 30 rfl) ?_
                    refine v_iload hX 0 rfl (atL dAX8_taste_1 31 rfl) ?_
                    refine v_imul hX (iI_mul _ _) (atL dAX8_taste_1 32 rfl) ?_
                    refine v_iload hX 1 rfl (atL dAX8_taste_1 33 rfl) ?_
                    refine v_isub hX (iI_sub _ _) (atL dAX8_taste_1 34 rfl) ?_
                    rw [show ((8 * ((E : Int))) - ((rr : Int))) = ((rS rr : Nat) : Int) from (by omega)]
                    refine v_ishr hX (r := iI (((255 / 2 ^ rS rr : Nat) : Int))) (kshr (rS rr) hrS8) (atL dAX8_taste_1 35 rfl) ?_
                    refine v_istore hX (lv' := [(10, .int (iI (((255 / 2 ^ rS rr : Nat) : Int)))), (9, .int (iI ((E : Int)))), (8, .int (iI ((rr : Int)))), (7, .int (iI ((hl p1 : Int)))), (6, .int (iI (((nby (K 0) : Nat) : Int)))), (0, .ref (w.1 13 0)), (1, .int (iI ((kx : Int)))), (2, .int (iI (p1))), (3, .int (iI ((sp2 : Int)))), (4, .int (iI ((sp3 : Int)))), (5, .int (iI ((i4 : Int))))]) (Nat.le_of_ble_eq_true rfl) rfl (atL dAX8_taste_1 36 rfl) ?_
                    refine v_aload_n hX 5 rfl (atL dAX8_taste_1 37 rfl) ?_
                    refine gf_X8_147 hX hk0 (atL dAX8_taste_1 38 rfl) ?_
                    refine v_iload hX 1 rfl (atL dAX8_taste_1 39 rfl) ?_
                    refine v_iconst hX (atL dAX8_taste_1 40 rfl) ?_
                    refine v_isub hX (iI_sub _ _) (atL dAX8_taste_1 41 rfl) ?_
                    have hpe := hp9.get (j := E - 1) (by omega)
                    have hpeb := hGb.get (E - 1)
                    refine v_iald hX (r := iI (((G.getD (E - 1) 0 : Nat) : Int))) ((E - 1)) (hQ16 13 (by simp [mn, tp])) (fun _ => rfl) (by omega) (show E - 1 < 600 by omega) (by decide) (congrArg iI hpe) (atL dAX8_taste_1 42 rfl) ?_
                    refine v_sipush hX (by decide +kernel) (atL dAX8_taste_1 43 rfl) ?_
                    refine v_icmp_ne hX ⟨by omega, by omega⟩ ⟨by omega, by omega⟩ (tgt := 208) (atL dAX8_taste_1 44 rfl) (by decide) (fun h191 => ?_) (fun h191 => ?_)
                    · refine v_iconst hX (atL dAX8_taste_1 54 rfl) ?_
                      exact v_iret hX (atL dAX8_taste_1 55 rfl) ((hret _ _ ⟨A, by rw [show t9 10 0 0 = 0 by omega]; unfold f_taste; simp only [Int.toNat_natCast, hPe, hKe, hrr, hE, hF]; rw [if_neg (by omega), if_neg (by omega), if_neg (fun q => absurd q.2.2.1 (by rw [hlast]; omega))], hM.same hG9 hA9 hD9, hG9.fc⟩ _ hz9))
                    · refine v_aload_n hX 5 rfl (atL dAX8_taste_1 45 rfl) ?_
                      refine gf_X8_147 hX hk0 (atL dAX8_taste_1 46 rfl) ?_
                      refine v_iconst hX (atL dAX8_taste_1 47 rfl) ?_
                      refine v_iald hX (r := iI (((g0 : Nat) : Int))) 0 (hQ16 13 (by simp [mn, tp])) (fun _ => rfl) rfl (show 0 < 600 by omega) (by decide) (congrArg iI hpg0) (atL dAX8_taste_1 48 rfl) ?_
                      refine v_iload hX 0 rfl (atL dAX8_taste_1 49 rfl) ?_
                      refine v_iconst hX (atL dAX8_taste_1 50 rfl) ?_
                      refine v_ixor hX (r := (iI (((255 / 2 ^ rS rr : Nat) : Int))) ^^^ (iI ((-1)))) rfl (atL dAX8_taste_1 51 rfl) ?_
                      have hdm : g0 / W * W ≤ g0 := Nat.div_mul_le_self _ _
                      refine v_iand hX (r := iI (((g0 / W * W : Nat) : Int))) ((knot (rS rr) hrS8 g0 hg0l).trans (by rw [hW])) (atL dAX8_taste_1 52 rfl) ?_
                      refine v_if_eq hX ⟨by omega, by omega⟩ (tgt := 210) (atL dAX8_taste_1 53 rfl) (by decide) (fun h205 => ?_) (fun h205 => ?_)
                      · have hgW : g0 < W := by rcases Nat.lt_or_ge g0 W with c | c; exact c; have h9 := Nat.mul_pos (Nat.div_pos c hWp) hWp; omega
                        refine v_aload_n hX 5 rfl (atL dAX8_taste_1 56 rfl) ?_
                        refine v_iload_n hX 7 rfl (atL dAX8_taste_1 57 rfl) ?_
                        refine v_aload_n hX 5 rfl (atL dAX8_taste_1 58 rfl) ?_
                        refine gf_X8_147 hX hk0 (atL dAX8_taste_1 59 rfl) ?_
                        refine v_iload hX 1 rfl (atL dAX8_taste_2 0 rfl) ?_
                        refine v_iload hX 3 rfl (atL dAX8_taste_2 1 rfl) ?_
                        refine v_isub hX (iI_sub _ _) (atL dAX8_taste_2 2 rfl) ?_
                        refine v_iconst hX (atL dAX8_taste_2 3 rfl) ?_
                        refine v_isub hX (iI_sub _ _) (atL dAX8_taste_2 4 rfl) ?_
                        rw [show ((((E : Int)) - ((hl p1 : Int))) - 1) = ((E - hl p1 - 1 : Nat) : Int) from (by omega)]
                        refine v_iload hX 3 rfl (atL dAX8_taste_2 5 rfl) ?_
                        refine v_iload hX 1 rfl (atL dAX8_taste_2 6 rfl) ?_
                        refine v_iload hX 3 rfl (atL dAX8_taste_2 7 rfl) ?_
                        refine v_isub hX (iI_sub _ _) (atL dAX8_taste_2 8 rfl) ?_
                        refine v_iconst hX (atL dAX8_taste_2 9 rfl) ?_
                        refine v_isub hX (iI_sub _ _) (atL dAX8_taste_2 10 rfl) ?_
                        rw [show ((((E : Int)) - ((hl p1 : Int))) - 1) = ((E - hl p1 - 1 : Nat) : Int) from (by omega)]
                        refine v_callVM hX (As := [.int (iI (p1)), .ref (w.1 16 13), .int (iI (((E - hl p1 - 1 : Nat) : Int))), .int (iI ((hl p1 : Int))), .int (iI (((E - hl p1 - 1 : Nat) : Int)))]) (rest := []) (c_X8_masks (xl X) w t9 hk0 hw19 hD9 p1 hh 13 (hQ16 13 (by simp [mn, tp])) (by decide) (tasteS p1 rr F) ((E - hl p1 - 1)) (hl p1) (by rw [← hTS, List.length_take, List.length_drop, hGl]; omega) (by rw [← hTS]; exact (by have h9 := hp9.sub (o := E - hl p1 - 1) (n := hl p1) (by omega); exact h9)) (by show _ ≤ 600; omega) (by omega) (E - hl p1 - 1) (by omega)) lk_X8_354 hk0 (fun _ => rfl) rfl rfl rfl (by rw [hR]; exact ⟨Nat.le_of_ble_eq_true rfl, Nat.le_of_ble_eq_true rfl⟩) (by rw [hR]; exact hz9) rfl (Nat.le_of_ble_eq_true rfl) (atL dAX8_taste_2 11 rfl) (fun _ s11 e11 => ?_)
                        obtain ⟨hm11, hD11, hck11, hg11⟩ := e11
                        have hz11 := hz9.d (hck11.resolve_left (by omega))
                        generalize (z9.1 + kap t9 * 10360, z9.2 + kap t9 * 103600) = z11 at hz11 ⊢
                        have hal11_13 : AW (s11 13 13) 0 G := by rw [hg11.1 13 13 (by decide)]; exact hp9
                        have hG11 := FMk.fg hG9 hg11
                        have hA11 := hA9.fp hg11.1 rfl
                        have ht11 : s11 10 0 0 = 0 := by rw [hg11.2 0 (by decide) (by decide)]; omega
                        show V X _ w _ _ s11 []
                        refine v_aload_n hX 5 rfl (atL dAX8_taste_2 12 rfl) ?_
                        refine v_iconst hX (atL dAX8_taste_2 13 rfl) ?_
                        refine v_iload hX 1 rfl (atL dAX8_taste_2 14 rfl) ?_
                        refine v_iload hX 3 rfl (atL dAX8_taste_2 15 rfl) ?_
                        refine v_isub hX (iI_sub _ _) (atL dAX8_taste_2 16 rfl) ?_
                        refine v_iconst hX (atL dAX8_taste_2 17 rfl) ?_
                        refine v_isub hX (iI_sub _ _) (atL dAX8_taste_2 18 rfl) ?_
                        rw [show ((((E : Int)) - ((hl p1 : Int))) - 1) = ((E - hl p1 - 1 : Nat) : Int) from (by omega)]
                        refine v_callV hX (As := [.int (iI (0)), .int (iI (((E - hl p1 - 1 : Nat) : Int)))]) (rest := []) (c_X8_crosses (xl X) w s11 hk0 G (msk p1 (tasteS p1 rr F) (E - hl p1 - 1)) hal11_13 hGb hm11 (msk_by : BY (msk p1 (tasteS p1 rr F) (E - hl p1 - 1))) 0 (E - hl p1 - 1) (by rw [hGl]; omega) (by rw [(msk_len : (msk p1 (tasteS p1 rr F) (E - hl p1 - 1)).length = E - hl p1 - 1)]; omega) (by rw [hGl]; omega) (by rw [(msk_len : (msk p1 (tasteS p1 rr F) (E - hl p1 - 1)).length = E - hl p1 - 1)]; omega)) lk_X8_383 hk0 (fun _ => rfl) rfl rfl rfl (by rw [hR]; exact ⟨Nat.le_of_ble_eq_true rfl, Nat.le_of_ble_eq_true rfl⟩) (by rw [hR]; exact hz11.b) rfl (Nat.le_of_ble_eq_true rfl) (atL dAX8_taste_2 19 rfl) (fun _ s12 e12 => ?_)
                        obtain ⟨hcr12, hf12⟩ := e12
                        have hcl12 : (crs G 0 (E - hl p1 - 1) (msk p1 (tasteS p1 rr F) (E - hl p1 - 1))).length = E := by rw [crs_len (by rw [hGl]; omega), hGl]
                        have hA12 := hA11.fp hf12 rfl
                        have hG12 := hG11.fr hf12 rfl (by decide)
                        have hD12 := hD11.fr hf12 (by decide) (by decide) (by decide)
                        have ht12 : s12 10 0 0 = 0 := by rw [hf12 10 0 (by decide)]; omega
                        have hal12_10 : AW (s12 13 10) 0 (msk p1 (tasteS p1 rr F) (E - hl p1 - 1)) := by rw [hf12 13 10 (by decide)]; exact hm11
                        have hc412 : s12 10 0 4 = 1 := Eq.trans (by rw [hf12 10 0 (by decide)]) (hck11.resolve_left (by omega)).1
                        have hz12 := hz11.k (t := s12) (by rw [hf12 10 0 (by decide)])
                        show V X _ w _ _ s12 []
                        have hcA := crs_t0 (G := G) (M := msk p1 (tasteS p1 rr F) (E - hl p1 - 1)) (n := E - hl p1 - 1) (by omega)
                        rw [hTX] at hcA
                        have hAW1 := hcr12
                        have hl91 := hcl12
                        have hb91 : BY (crs G 0 (E - hl p1 - 1) (msk p1 (tasteS p1 rr F) (E - hl p1 - 1))) := (crs_by hGb (msk_by : BY (msk p1 (tasteS p1 rr F) (E - hl p1 - 1))))
                        rw [hcA] at hAW1 hl91 hb91
                        have hXl : (tasteX p1 rr F).length = E - hl p1 - 1 := by rw [← hTX, List.length_take]; omega
                        have hml : (mix (tasteX p1 rr F) (msk p1 (tasteS p1 rr F) (E - hl p1 - 1))).length = E - hl p1 - 1 := by rw [mix_len, hXl]
                        obtain ⟨x0, hx0⟩ : ∃ q, (mix (tasteX p1 rr F) (msk p1 (tasteS p1 rr F) (E - hl p1 - 1)) ++ G.drop (E - hl p1 - 1)).getD 0 0 = q := ⟨_, rfl⟩
                        have hx0l : x0 < 256 := by rw [← hx0]; exact hb91.get 0
                        have hp0 := hAW1.get (j := 0) (by rw [hl91]; omega)
                        rw [hx0] at hp0
                        refine v_aload_n hX 5 rfl (atL dAX8_taste_2 20 rfl) ?_
                        refine gf_X8_147 hX hk0 (atL dAX8_taste_2 21 rfl) ?_
                        refine v_iconst hX (atL dAX8_taste_2 22 rfl) ?_
                        refine v_dup2 hX rfl rfl (atL dAX8_taste_2 23 rfl) ?_
                        refine v_iald hX (r := iI (((x0 : Nat) : Int))) 0 (hQ16 13 (by simp [mn, tp])) (fun _ => rfl) rfl (show 0 < 600 by omega) (by decide) (congrArg iI hp0) (atL dAX8_taste_2 24 rfl) ?_
                        refine v_iload hX 0 rfl (atL dAX8_taste_2 25 rfl) ?_
                        refine v_iand hX (r := iI (((x0 % 2 ^ (8 - rS rr) : Nat) : Int))) (kand (rS rr) hrS8 x0 hx0l) (atL dAX8_taste_2 26 rfl) ?_
                        refine v_iast hX (c := 13) 0 (hQ16 13 (by simp [mn, tp])) (by decide) (fun _ _ => rfl) rfl (show 0 < 600 by omega) (by decide) (atL dAX8_taste_2 27 rfl) ?_
                        obtain ⟨b13, hb13⟩ : ∃ q, q = (su s12 13 13 0 (((x0 % 2 ^ (8 - rS rr) : Nat) : Int))) := ⟨_, rfl⟩
                        rw [← hb13]
                        have hA13 : AN b13 := by rw [hb13]; exact (hA12.s1 (by decide))
                        have hG13 : FG σ b13 := by rw [hb13]; exact (hG12.sa rfl)
                        have hD13 : DG b13 := by rw [hb13]; exact (hD12.sa (by decide) (by decide))
                        have ht13 : b13 10 0 0 = 0 := by rw [hb13, su_c (by decide)]; omega
                        have hal13_10 : AW (b13 13 10) 0 (msk p1 (tasteS p1 rr F) (E - hl p1 - 1)) := by rw [hb13, su_ri (by decide)]; exact hal12_10
                        have hc413 : b13 10 0 4 = 1 := Eq.trans (by rw [hb13, su_c (by decide)]) hc412
                        have hz13 := hz12.k (t := b13) (by rw [hb13, su_c (by decide)])
                        have hSLe : (mix (tasteX p1 rr F) (msk p1 (tasteS p1 rr F) (E - hl p1 - 1)) ++ G.drop (E - hl p1 - 1)).set 0 (x0 % 2 ^ (8 - rS rr)) = tasteD p1 rr F ++ G.drop (E - hl p1 - 1) := by rw [← hx0, kept_app (by omega)]; unfold tasteD; rw [hE]
                        have hAW2 : AW (b13 13 13) 0 (tasteD p1 rr F ++ G.drop (E - hl p1 - 1)) := by rw [hb13, ← hSLe]; exact AW.set0 hAW1 (by rw [hl91]; omega)
                        have hl92 : (tasteD p1 rr F ++ G.drop (E - hl p1 - 1)).length = E := by rw [← hSLe, List.length_set]; exact hl91
                        have hb92 : BY (tasteD p1 rr F ++ G.drop (E - hl p1 - 1)) := by rw [← hSLe]; exact BY_set hb91 (pmod (rS rr) hrS8 _)
                        have hTDl : (tasteD p1 rr F).length = E - hl p1 - 1 := by unfold tasteD; rw [kept_len, hE, hml]
                        have hTDb : BY (tasteD p1 rr F) := fun x hx => hb92 x (List.mem_append_left _ hx)
                        have hpn := (hAW2.app).1 n0 (by rw [hTDl]; omega)
                        rw [Nat.zero_add] at hpn
                        have hpnb := hTDb.get n0
                        have loop14 : ∀ (d j : Nat) (fl : Int), j + d = n0 → ZRd (tasteD p1 rr F) n0 j fl → V X z11 w 287 [(11, .int (iI (fl))), (12, .int (iI ((j : Int)))), (10, .int (iI (((255 / 2 ^ rS rr : Nat) : Int)))), (9, .int (iI ((E : Int)))), (8, .int (iI ((rr : Int)))), (7, .int (iI ((hl p1 : Int)))), (6, .int (iI (((nby (K 0) : Nat) : Int)))), (0, .ref (w.1 13 0)), (1, .int (iI ((kx : Int)))), (2, .int (iI (p1))), (3, .int (iI ((sp2 : Int)))), (4, .int (iI ((sp3 : Int)))), (5, .int (iI ((i4 : Int))))] b13 [] := by
                          intro d
                          induction d with
                          | zero =>
                            intro j fl hj hi
                            have hjN : j = n0 := by omega
                            subst j
                            have hfl := hi.r
                            have htz := zrd_tf hi (by omega)
                            refine v_iload hX 1 rfl (atL dAX8_taste_2 46 rfl) ?_
                            refine v_iload hX 3 rfl (atL dAX8_taste_2 47 rfl) ?_
                            refine v_iload hX 5 rfl (atL dAX8_taste_2 48 rfl) ?_
                            refine v_isub hX (iI_sub _ _) (atL dAX8_taste_2 49 rfl) ?_
                            refine v_iload hX 12 rfl (atL dAX8_taste_2 50 rfl) ?_
                            refine v_isub hX (iI_sub _ _) (atL dAX8_taste_2 51 rfl) ?_
                            refine v_iconst hX (atL dAX8_taste_2 52 rfl) ?_
                            refine v_isub hX (iI_sub _ _) (atL dAX8_taste_2 53 rfl) ?_
                            refine v_icmp_ge hX ⟨by omega, by omega⟩ ⟨by omega, by omega⟩ (tgt := 330) (atL dAX8_taste_2 54 rfl) (by decide) (fun h299 => ?_) (fun h299 => absurd h299 (by omega))
                            refine v_iload hX 0 rfl (atL dAX8_taste_3 8 rfl) ?_
                            refine v_if_ne hX ⟨by omega, by omega⟩ (tgt := 337) (atL dAX8_taste_3 9 rfl) (by decide) (fun h332 => ?_) (fun h332 => ?_)
                            · have hgood := htz.t h332
                              refine v_aload_n hX 7 rfl (atL dAX8_taste_3 12 rfl) ?_
                              refine v_iload_n hX 9 rfl (atL dAX8_taste_3 13 rfl) ?_
                              refine v_iload_n hX 10 rfl (atL dAX8_taste_3 14 rfl) ?_
                              refine v_aload_n hX 7 rfl (atL dAX8_taste_3 15 rfl) ?_
                              refine gf_X8_147 hX hk0 (atL dAX8_taste_3 16 rfl) ?_
                              refine v_iload hX 3 rfl (atL dAX8_taste_3 17 rfl) ?_
                              refine v_iload hX 5 rfl (atL dAX8_taste_3 18 rfl) ?_
                              refine v_isub hX (iI_sub _ _) (atL dAX8_taste_3 19 rfl) ?_
                              refine v_iconst hX (atL dAX8_taste_3 20 rfl) ?_
                              refine v_isub hX (iI_sub _ _) (atL dAX8_taste_3 21 rfl) ?_
                              refine v_iload hX 12 rfl (atL dAX8_taste_3 22 rfl) ?_
                              refine v_isub hX (iI_sub _ _) (atL dAX8_taste_3 23 rfl) ?_
                              rw [show (((((E : Int)) - ((hl p1 : Int))) - 1) - ((i4 : Int))) = ((E - hl p1 - 1 - i4 : Nat) : Int) from (by omega)]
                              refine v_iload hX 12 rfl (atL dAX8_taste_3 24 rfl) ?_
                              refine v_callVM hX (As := [.int (iI (p1)), .int (iI ((sp2 : Int))), .ref (w.1 16 13), .int (iI (((E - hl p1 - 1 - i4 : Nat) : Int))), .int (iI ((i4 : Int)))]) (rest := []) (c_X8_salts (xl X) w b13 hk0 hw19 A (hM.same hG13 hA13 hD13) (by omega) p1 hh sp2 (by omega) 13 (hQ16 13 (by simp [mn, tp])) (by decide) (((tasteD p1 rr F).drop (n0 + 1)).take i4) ((E - hl p1 - 1 - i4)) i4 (by rw [List.length_take, List.length_drop, hTDl]; omega) (by have h9 := (hAW2).app.1; have h8 := h9.sub (o := n0 + 1) (n := i4) (by rw [hTDl]; omega); rw [show n0 + 1 = E - hl p1 - 1 - i4 by omega] at h8 ⊢; exact h8) (by show _ ≤ 600; omega) (by omega)) lk_X8_408 hk0 (fun _ => rfl) rfl rfl rfl (by rw [hR]; exact ⟨Nat.le_of_ble_eq_true rfl, Nat.le_of_ble_eq_true rfl⟩) (by rw [hR]; exact hz13) rfl (Nat.le_of_ble_eq_true rfl) (atL dAX8_taste_3 25 rfl) (fun _ s15 e15 => ?_)
                              obtain ⟨hpd15, h1315, hg15, hA15, hD15, hc415, ht15⟩ := e15
                              have hG15 := hG13.tr hg15
                              have hz15 := hz13.d4 hc415
                              generalize (z11.1 + kap b13 * 10360, z11.2 + kap b13 * 103600) = z15 at hz15 ⊢
                              have hal15_13 : AW (s15 13 13) 0 (tasteD p1 rr F ++ G.drop (E - hl p1 - 1)) := by rw [h1315]; exact hAW2
                              show V X _ w _ _ s15 []
                              refine v_iconst hX (atL dAX8_taste_3 26 rfl) ?_
                              refine v_istore hX (lv' := [(12, .int (iI (0))), (11, .int (iI (fl))), (10, .int (iI (((255 / 2 ^ rS rr : Nat) : Int)))), (9, .int (iI ((E : Int)))), (8, .int (iI ((rr : Int)))), (7, .int (iI ((hl p1 : Int)))), (6, .int (iI (((nby (K 0) : Nat) : Int)))), (0, .ref (w.1 13 0)), (1, .int (iI ((kx : Int)))), (2, .int (iI (p1))), (3, .int (iI ((sp2 : Int)))), (4, .int (iI ((sp3 : Int)))), (5, .int (iI ((i4 : Int))))]) (Nat.le_of_ble_eq_true rfl) rfl (atL dAX8_taste_3 27 rfl) ?_
                              have hSD : AW (s15 13 13) (E - hl p1 - 1) (tasteS p1 rr F) := by have h9 := (hal15_13).app.2; rw [hTDl, Nat.zero_add] at h9; rw [← hTS]; exact (fun j hj => by rw [List.length_take, List.length_drop] at hj; rw [h9 j (by rw [List.length_drop]; omega), gD_take, if_pos (by omega)])
                              have loop16 : ∀ (d j : Nat) (fl : Int), j + d = hl p1 → EQd (tasteS p1 rr F) (prf p1 (A.1 sp2) (((tasteD p1 rr F).drop (n0 + 1)).take i4)) j fl → V X z15 w 362 [(11, .int (iI (fl))), (12, .int (iI ((j : Int)))), (10, .int (iI (((255 / 2 ^ rS rr : Nat) : Int)))), (9, .int (iI ((E : Int)))), (8, .int (iI ((rr : Int)))), (7, .int (iI ((hl p1 : Int)))), (6, .int (iI (((nby (K 0) : Nat) : Int)))), (0, .ref (w.1 13 0)), (1, .int (iI ((kx : Int)))), (2, .int (iI (p1))), (3, .int (iI ((sp2 : Int)))), (4, .int (iI ((sp3 : Int)))), (5, .int (iI ((i4 : Int))))] s15 [] := by
                                intro d
                                induction d with
                                | zero =>
                                  intro j fl hj hi
                                  have hjN : j = hl p1 := by omega
                                  subst j
                                  have hfl := hi.r
                                  have hTSl : (tasteS p1 rr F).length = hl p1 := by rw [← hTS, List.length_take, List.length_drop, hGl]; omega
                                  have hte := hi.tf hTSl (prf_len : (prf p1 (A.1 sp2) (((tasteD p1 rr F).drop (n0 + 1)).take i4)).length = hl p1)
                                  refine v_iload hX 1 rfl (atL dAX8_taste_3 28 rfl) ?_
                                  refine v_iload hX 5 rfl (atL dAX8_taste_3 29 rfl) ?_
                                  refine v_icmp_ge hX ⟨by omega, by omega⟩ ⟨by omega, by omega⟩ (tgt := 412) (atL dAX8_taste_3 30 rfl) (by decide) (fun h366 => ?_) (fun h366 => absurd h366 (by omega))
                                  refine v_iload hX 0 rfl (atL dAX8_taste_3 54 rfl) ?_
                                  refine v_if_eq hX ⟨by omega, by omega⟩ (tgt := 421) (atL dAX8_taste_3 55 rfl) (by decide) (fun h414 => ?_) (fun h414 => ?_)
                                  · refine v_iconst hX (atL dAX8_taste_3 58 rfl) ?_
                                    exact v_iret hX (atL dAX8_taste_3 59 rfl) ((hret _ _ ⟨A, by rw [show s15 10 0 0 = 0 by omega]; unfold f_taste; simp only [Int.toNat_natCast, hPe, hKe, hrr, hE, hF]; rw [if_neg (by omega), if_neg (by omega), if_neg (fun q => hte.f h414 (by have := q.2.2.2.2.2.2; rw [hE, hn0] at this; exact this))], hM.same hG15 hA15 hD15, hG15.fc⟩ _ hz15))
                                  · refine v_iconst hX (atL dAX8_taste_3 56 rfl) ?_
                                    refine v_goto hX (tgt := 422) (atL dAX8_taste_3 57 rfl) (by decide) ?_
                                    exact v_iret hX (atL dAX8_taste_3 59 rfl) ((hret _ _ ⟨A, by rw [show s15 10 0 0 = 0 by omega]; unfold f_taste; simp only [Int.toNat_natCast, hPe, hKe, hrr, hE, hF]; rw [if_neg (by omega), if_neg (by omega), if_pos ⟨⟨by omega, hwr⟩, ⟨by rw [hE]; exact hfirst, by omega, by rw [hW, ← hGX, hg0]; exact hgW, by rw [hE, hn0]; exact hgood.1, by rw [hE, hn0]; exact hgood.2, by rw [hE, hn0]; exact hte.t h414⟩⟩], hM.same hG15 hA15 hD15, hG15.fc⟩ _ hz15))
                                | succ d ih =>
                                  intro j fl hj hi
                                  have hfl := hi.r
                                  refine v_iload hX 1 rfl (atL dAX8_taste_3 28 rfl) ?_
                                  refine v_iload hX 5 rfl (atL dAX8_taste_3 29 rfl) ?_
                                  refine v_icmp_ge hX ⟨by omega, by omega⟩ ⟨by omega, by omega⟩ (tgt := 412) (atL dAX8_taste_3 30 rfl) (by decide) (fun h366 => absurd h366 (by omega)) (fun h366 => ?_)
                                  refine v_iload hX 0 rfl (atL dAX8_taste_3 31 rfl) ?_
                                  refine v_if_eq hX ⟨by omega, by omega⟩ (tgt := 403) (atL dAX8_taste_3 32 rfl) (by decide) (fun h371 => ?_) (fun h371 => ?_)
                                  · refine v_iconst hX (atL dAX8_taste_3 50 rfl) ?_
                                    refine v_istore hX (lv' := [(11, .int (iI (0))), (12, .int (iI ((j : Int)))), (10, .int (iI (((255 / 2 ^ rS rr : Nat) : Int)))), (9, .int (iI ((E : Int)))), (8, .int (iI ((rr : Int)))), (7, .int (iI ((hl p1 : Int)))), (6, .int (iI (((nby (K 0) : Nat) : Int)))), (0, .ref (w.1 13 0)), (1, .int (iI ((kx : Int)))), (2, .int (iI (p1))), (3, .int (iI ((sp2 : Int)))), (4, .int (iI ((sp3 : Int)))), (5, .int (iI ((i4 : Int))))]) (Nat.le_of_ble_eq_true rfl) rfl (atL dAX8_taste_3 51 rfl) ?_
                                    refine v_iinc hX (lv' := [(12, .int (iI (((j : Int)) + 1))), (11, .int (iI (0))), (10, .int (iI (((255 / 2 ^ rS rr : Nat) : Int)))), (9, .int (iI ((E : Int)))), (8, .int (iI ((rr : Int)))), (7, .int (iI ((hl p1 : Int)))), (6, .int (iI (((nby (K 0) : Nat) : Int)))), (0, .ref (w.1 13 0)), (1, .int (iI ((kx : Int)))), (2, .int (iI (p1))), (3, .int (iI ((sp2 : Int)))), (4, .int (iI ((sp3 : Int)))), (5, .int (iI ((i4 : Int))))]) 1 rfl (iI_add _ _) (Nat.le_of_ble_eq_true rfl) rfl (atL dAX8_taste_3 52 rfl) ?_
                                    refine v_goto hX (tgt := 362) (atL dAX8_taste_3 53 rfl) (by decide) ?_
                                    refine v_sub (lv' := [(11, .int (iI (0))), (12, .int (iI (((j : Int)) + 1))), (10, .int (iI (((255 / 2 ^ rS rr : Nat) : Int)))), (9, .int (iI ((E : Int)))), (8, .int (iI ((rr : Int)))), (7, .int (iI ((hl p1 : Int)))), (6, .int (iI (((nby (K 0) : Nat) : Int)))), (0, .ref (w.1 13 0)), (1, .int (iI ((kx : Int)))), (2, .int (iI (p1))), (3, .int (iI ((sp2 : Int)))), (4, .int (iI ((sp3 : Int)))), (5, .int (iI ((i4 : Int))))]) [1, 0, 2, 3, 4, 5, 6, 7, 8, 9, 10, 11, 12] rfl ?_
                                    rw [show (j : Int) + 1 = ((j + 1 : Nat) : Int) by omega]
                                    exact ih (j + 1) _ (by omega) (hi.s0 (by omega))
                                  · refine v_aload_n hX 7 rfl (atL dAX8_taste_3 33 rfl) ?_
                                    refine gf_X8_147 hX hk0 (atL dAX8_taste_3 34 rfl) ?_
                                    refine v_iload hX 3 rfl (atL dAX8_taste_3 35 rfl) ?_
                                    refine v_iload hX 5 rfl (atL dAX8_taste_3 36 rfl) ?_
                                    refine v_isub hX (iI_sub _ _) (atL dAX8_taste_3 37 rfl) ?_
                                    refine v_iconst hX (atL dAX8_taste_3 38 rfl) ?_
                                    refine v_isub hX (iI_sub _ _) (atL dAX8_taste_3 39 rfl) ?_
                                    refine v_iload hX 1 rfl (atL dAX8_taste_3 40 rfl) ?_
                                    refine v_iadd hX (iI_add _ _) (atL dAX8_taste_3 41 rfl) ?_
                                    have hpv := hSD j (by rw [← hTS, List.length_take, List.length_drop, hGl]; omega)
                                    have hpb : (tasteS p1 rr F).getD j 0 < 256 := by rw [← hTS]; exact hGb.drop.take.get j
                                    refine v_iald hX (r := iI ((((tasteS p1 rr F).getD j 0 : Nat) : Int))) ((E - hl p1 - 1 + j)) (hQ16 13 (by simp [mn, tp])) (fun _ => rfl) (by omega) (show E - hl p1 - 1 + j < 600 by omega) (by decide) (congrArg iI hpv) (atL dAX8_taste_3 42 rfl) ?_
                                    refine v_aload_n hX 7 rfl (atL dAX8_taste_3 43 rfl) ?_
                                    refine gf_X8_98 hX hk0 (atL dAX8_taste_3 44 rfl) ?_
                                    refine v_iload hX 1 rfl (atL dAX8_taste_3 45 rfl) ?_
                                    have hpv17 := hpd15.get (j := j) (by rw [(prf_len : (prf p1 (A.1 sp2) (((tasteD p1 rr F).drop (n0 + 1)).take i4)).length = hl p1)]; omega)
                                    have hpb17 := (show BY (prf p1 (A.1 sp2) (((tasteD p1 rr F).drop (n0 + 1)).take i4)) from sha_lt).get j
                                    refine v_iald hX (r := iI ((((prf p1 (A.1 sp2) (((tasteD p1 rr F).drop (n0 + 1)).take i4)).getD j 0 : Nat) : Int))) ((j)) (hQ16 5 (by simp [mn, tp])) (fun _ => rfl) (by omega) (show j < 32 by omega) (by decide) (congrArg iI hpv17) (atL dAX8_taste_3 46 rfl) ?_
                                    refine v_icmp_ne hX ⟨by omega, by omega⟩ ⟨by omega, by omega⟩ (tgt := 403) (atL dAX8_taste_3 47 rfl) (by decide) (fun h396 => ?_) (fun h396 => ?_)
                                    · refine v_iconst hX (atL dAX8_taste_3 50 rfl) ?_
                                      refine v_istore hX (lv' := [(11, .int (iI (0))), (12, .int (iI ((j : Int)))), (10, .int (iI (((255 / 2 ^ rS rr : Nat) : Int)))), (9, .int (iI ((E : Int)))), (8, .int (iI ((rr : Int)))), (7, .int (iI ((hl p1 : Int)))), (6, .int (iI (((nby (K 0) : Nat) : Int)))), (0, .ref (w.1 13 0)), (1, .int (iI ((kx : Int)))), (2, .int (iI (p1))), (3, .int (iI ((sp2 : Int)))), (4, .int (iI ((sp3 : Int)))), (5, .int (iI ((i4 : Int))))]) (Nat.le_of_ble_eq_true rfl) rfl (atL dAX8_taste_3 51 rfl) ?_
                                      refine v_iinc hX (lv' := [(12, .int (iI (((j : Int)) + 1))), (11, .int (iI (0))), (10, .int (iI (((255 / 2 ^ rS rr : Nat) : Int)))), (9, .int (iI ((E : Int)))), (8, .int (iI ((rr : Int)))), (7, .int (iI ((hl p1 : Int)))), (6, .int (iI (((nby (K 0) : Nat) : Int)))), (0, .ref (w.1 13 0)), (1, .int (iI ((kx : Int)))), (2, .int (iI (p1))), (3, .int (iI ((sp2 : Int)))), (4, .int (iI ((sp3 : Int)))), (5, .int (iI ((i4 : Int))))]) 1 rfl (iI_add _ _) (Nat.le_of_ble_eq_true rfl) rfl (atL dAX8_taste_3 52 rfl) ?_
                                      refine v_goto hX (tgt := 362) (atL dAX8_taste_3 53 rfl) (by decide) ?_
                                      refine v_sub (lv' := [(11, .int (iI (0))), (12, .int (iI (((j : Int)) + 1))), (10, .int (iI (((255 / 2 ^ rS rr : Nat) : Int)))), (9, .int (iI ((E : Int)))), (8, .int (iI ((rr : Int)))), (7, .int (iI ((hl p1 : Int)))), (6, .int (iI (((nby (K 0) : Nat) : Int)))), (0, .ref (w.1 13 0)), (1, .int (iI ((kx : Int)))), (2, .int (iI (p1))), (3, .int (iI ((sp2 : Int)))), (4, .int (iI ((sp3 : Int)))), (5, .int (iI ((i4 : Int))))]) [1, 0, 2, 3, 4, 5, 6, 7, 8, 9, 10, 11, 12] rfl ?_
                                      rw [show (j : Int) + 1 = ((j + 1 : Nat) : Int) by omega]
                                      exact ih (j + 1) _ (by omega) (EQd.n (by omega))
                                    · refine v_iconst hX (atL dAX8_taste_3 48 rfl) ?_
                                      refine v_goto hX (tgt := 404) (atL dAX8_taste_3 49 rfl) (by decide) ?_
                                      refine v_istore hX (lv' := [(11, .int (iI (1))), (12, .int (iI ((j : Int)))), (10, .int (iI (((255 / 2 ^ rS rr : Nat) : Int)))), (9, .int (iI ((E : Int)))), (8, .int (iI ((rr : Int)))), (7, .int (iI ((hl p1 : Int)))), (6, .int (iI (((nby (K 0) : Nat) : Int)))), (0, .ref (w.1 13 0)), (1, .int (iI ((kx : Int)))), (2, .int (iI (p1))), (3, .int (iI ((sp2 : Int)))), (4, .int (iI ((sp3 : Int)))), (5, .int (iI ((i4 : Int))))]) (Nat.le_of_ble_eq_true rfl) rfl (atL dAX8_taste_3 51 rfl) ?_
                                      refine v_iinc hX (lv' := [(12, .int (iI (((j : Int)) + 1))), (11, .int (iI (1))), (10, .int (iI (((255 / 2 ^ rS rr : Nat) : Int)))), (9, .int (iI ((E : Int)))), (8, .int (iI ((rr : Int)))), (7, .int (iI ((hl p1 : Int)))), (6, .int (iI (((nby (K 0) : Nat) : Int)))), (0, .ref (w.1 13 0)), (1, .int (iI ((kx : Int)))), (2, .int (iI (p1))), (3, .int (iI ((sp2 : Int)))), (4, .int (iI ((sp3 : Int)))), (5, .int (iI ((i4 : Int))))]) 1 rfl (iI_add _ _) (Nat.le_of_ble_eq_true rfl) rfl (atL dAX8_taste_3 52 rfl) ?_
                                      refine v_goto hX (tgt := 362) (atL dAX8_taste_3 53 rfl) (by decide) ?_
                                      refine v_sub (lv' := [(11, .int (iI (1))), (12, .int (iI (((j : Int)) + 1))), (10, .int (iI (((255 / 2 ^ rS rr : Nat) : Int)))), (9, .int (iI ((E : Int)))), (8, .int (iI ((rr : Int)))), (7, .int (iI ((hl p1 : Int)))), (6, .int (iI (((nby (K 0) : Nat) : Int)))), (0, .ref (w.1 13 0)), (1, .int (iI ((kx : Int)))), (2, .int (iI (p1))), (3, .int (iI ((sp2 : Int)))), (4, .int (iI ((sp3 : Int)))), (5, .int (iI ((i4 : Int))))]) [1, 0, 2, 3, 4, 5, 6, 7, 8, 9, 10, 11, 12] rfl ?_
                                      rw [show (j : Int) + 1 = ((j + 1 : Nat) : Int) by omega]
                                      exact ih (j + 1) _ (by omega) (hi.s1 (by omega) (by omega))
                              refine v_sub (lv' := [(11, .int (iI (fl))), (12, .int (iI (0))), (10, .int (iI (((255 / 2 ^ rS rr : Nat) : Int)))), (9, .int (iI ((E : Int)))), (8, .int (iI ((rr : Int)))), (7, .int (iI ((hl p1 : Int)))), (6, .int (iI (((nby (K 0) : Nat) : Int)))), (0, .ref (w.1 13 0)), (1, .int (iI ((kx : Int)))), (2, .int (iI (p1))), (3, .int (iI ((sp2 : Int)))), (4, .int (iI ((sp3 : Int)))), (5, .int (iI ((i4 : Int))))]) [1, 0, 2, 3, 4, 5, 6, 7, 8, 9, 10, 11, 12] rfl ?_
                              rw [show fl = 1 by omega]
                              exact loop16 (hl p1) 0 1 (by omega) EQd.z
                            · refine v_iconst hX (atL dAX8_taste_3 10 rfl) ?_
                              exact v_iret hX (atL dAX8_taste_3 11 rfl) ((hret _ _ ⟨A, by rw [show b13 10 0 0 = 0 by omega]; unfold f_taste; simp only [Int.toNat_natCast, hPe, hKe, hrr, hE, hF]; rw [if_neg (by omega), if_neg (by omega), if_neg (fun q => htz.f h332 ⟨by have := q.2.2.2.2.1; rw [hE, hn0] at this; exact this, by have := q.2.2.2.2.2.1; rw [hE, hn0] at this; exact this⟩)], hM.same hG13 hA13 hD13, hG13.fc⟩ _ hz13))
                          | succ d ih =>
                            intro j fl hj hi
                            have hfl := hi.r
                            have hpj := (hAW2.app).1 j (by rw [hTDl]; omega)
                            rw [Nat.zero_add] at hpj
                            have hpjb := hTDb.get j
                            refine v_iload hX 1 rfl (atL dAX8_taste_2 46 rfl) ?_
                            refine v_iload hX 3 rfl (atL dAX8_taste_2 47 rfl) ?_
                            refine v_iload hX 5 rfl (atL dAX8_taste_2 48 rfl) ?_
                            refine v_isub hX (iI_sub _ _) (atL dAX8_taste_2 49 rfl) ?_
                            refine v_iload hX 12 rfl (atL dAX8_taste_2 50 rfl) ?_
                            refine v_isub hX (iI_sub _ _) (atL dAX8_taste_2 51 rfl) ?_
                            refine v_iconst hX (atL dAX8_taste_2 52 rfl) ?_
                            refine v_isub hX (iI_sub _ _) (atL dAX8_taste_2 53 rfl) ?_
                            refine v_icmp_ge hX ⟨by omega, by omega⟩ ⟨by omega, by omega⟩ (tgt := 330) (atL dAX8_taste_2 54 rfl) (by decide) (fun h299 => absurd h299 (by omega)) (fun h299 => ?_)
                            refine v_iload hX 0 rfl (atL dAX8_taste_2 55 rfl) ?_
                            refine v_if_eq hX ⟨by omega, by omega⟩ (tgt := 321) (atL dAX8_taste_2 56 rfl) (by decide) (fun h304 => ?_) (fun h304 => ?_)
                            · refine v_iconst hX (atL dAX8_taste_3 4 rfl) ?_
                              refine v_istore hX (lv' := [(11, .int (iI (0))), (12, .int (iI ((j : Int)))), (10, .int (iI (((255 / 2 ^ rS rr : Nat) : Int)))), (9, .int (iI ((E : Int)))), (8, .int (iI ((rr : Int)))), (7, .int (iI ((hl p1 : Int)))), (6, .int (iI (((nby (K 0) : Nat) : Int)))), (0, .ref (w.1 13 0)), (1, .int (iI ((kx : Int)))), (2, .int (iI (p1))), (3, .int (iI ((sp2 : Int)))), (4, .int (iI ((sp3 : Int)))), (5, .int (iI ((i4 : Int))))]) (Nat.le_of_ble_eq_true rfl) rfl (atL dAX8_taste_3 5 rfl) ?_
                              refine v_iinc hX (lv' := [(12, .int (iI (((j : Int)) + 1))), (11, .int (iI (0))), (10, .int (iI (((255 / 2 ^ rS rr : Nat) : Int)))), (9, .int (iI ((E : Int)))), (8, .int (iI ((rr : Int)))), (7, .int (iI ((hl p1 : Int)))), (6, .int (iI (((nby (K 0) : Nat) : Int)))), (0, .ref (w.1 13 0)), (1, .int (iI ((kx : Int)))), (2, .int (iI (p1))), (3, .int (iI ((sp2 : Int)))), (4, .int (iI ((sp3 : Int)))), (5, .int (iI ((i4 : Int))))]) 1 rfl (iI_add _ _) (Nat.le_of_ble_eq_true rfl) rfl (atL dAX8_taste_3 6 rfl) ?_
                              refine v_goto hX (tgt := 287) (atL dAX8_taste_3 7 rfl) (by decide) ?_
                              refine v_sub (lv' := [(11, .int (iI (0))), (12, .int (iI (((j : Int)) + 1))), (10, .int (iI (((255 / 2 ^ rS rr : Nat) : Int)))), (9, .int (iI ((E : Int)))), (8, .int (iI ((rr : Int)))), (7, .int (iI ((hl p1 : Int)))), (6, .int (iI (((nby (K 0) : Nat) : Int)))), (0, .ref (w.1 13 0)), (1, .int (iI ((kx : Int)))), (2, .int (iI (p1))), (3, .int (iI ((sp2 : Int)))), (4, .int (iI ((sp3 : Int)))), (5, .int (iI ((i4 : Int))))]) [1, 0, 2, 3, 4, 5, 6, 7, 8, 9, 10, 11, 12] rfl ?_
                              rw [show (j : Int) + 1 = ((j + 1 : Nat) : Int) by omega]
                              exact ih (j + 1) _ (by omega) (hi.s0 (by omega))
                            · refine v_aload_n hX 7 rfl (atL dAX8_taste_2 57 rfl) ?_
                              refine gf_X8_147 hX hk0 (atL dAX8_taste_2 58 rfl) ?_
                              refine v_iload hX 1 rfl (atL dAX8_taste_2 59 rfl) ?_
                              refine v_iald hX (r := iI ((((tasteD p1 rr F).getD j 0 : Nat) : Int))) j (hQ16 13 (by simp [mn, tp])) (fun _ => rfl) rfl (show j < 600 by omega) (by decide) (congrArg iI hpj) (atL dAX8_taste_3 0 rfl) ?_
                              refine v_if_ne hX ⟨by omega, by omega⟩ (tgt := 321) (atL dAX8_taste_3 1 rfl) (by decide) (fun h314 => ?_) (fun h314 => ?_)
                              · refine v_iconst hX (atL dAX8_taste_3 4 rfl) ?_
                                refine v_istore hX (lv' := [(11, .int (iI (0))), (12, .int (iI ((j : Int)))), (10, .int (iI (((255 / 2 ^ rS rr : Nat) : Int)))), (9, .int (iI ((E : Int)))), (8, .int (iI ((rr : Int)))), (7, .int (iI ((hl p1 : Int)))), (6, .int (iI (((nby (K 0) : Nat) : Int)))), (0, .ref (w.1 13 0)), (1, .int (iI ((kx : Int)))), (2, .int (iI (p1))), (3, .int (iI ((sp2 : Int)))), (4, .int (iI ((sp3 : Int)))), (5, .int (iI ((i4 : Int))))]) (Nat.le_of_ble_eq_true rfl) rfl (atL dAX8_taste_3 5 rfl) ?_
                                refine v_iinc hX (lv' := [(12, .int (iI (((j : Int)) + 1))), (11, .int (iI (0))), (10, .int (iI (((255 / 2 ^ rS rr : Nat) : Int)))), (9, .int (iI ((E : Int)))), (8, .int (iI ((rr : Int)))), (7, .int (iI ((hl p1 : Int)))), (6, .int (iI (((nby (K 0) : Nat) : Int)))), (0, .ref (w.1 13 0)), (1, .int (iI ((kx : Int)))), (2, .int (iI (p1))), (3, .int (iI ((sp2 : Int)))), (4, .int (iI ((sp3 : Int)))), (5, .int (iI ((i4 : Int))))]) 1 rfl (iI_add _ _) (Nat.le_of_ble_eq_true rfl) rfl (atL dAX8_taste_3 6 rfl) ?_
                                refine v_goto hX (tgt := 287) (atL dAX8_taste_3 7 rfl) (by decide) ?_
                                refine v_sub (lv' := [(11, .int (iI (0))), (12, .int (iI (((j : Int)) + 1))), (10, .int (iI (((255 / 2 ^ rS rr : Nat) : Int)))), (9, .int (iI ((E : Int)))), (8, .int (iI ((rr : Int)))), (7, .int (iI ((hl p1 : Int)))), (6, .int (iI (((nby (K 0) : Nat) : Int)))), (0, .ref (w.1 13 0)), (1, .int (iI ((kx : Int)))), (2, .int (iI (p1))), (3, .int (iI ((sp2 : Int)))), (4, .int (iI ((sp3 : Int)))), (5, .int (iI ((i4 : Int))))]) [1, 0, 2, 3, 4, 5, 6, 7, 8, 9, 10, 11, 12] rfl ?_
                                rw [show (j : Int) + 1 = ((j + 1 : Nat) : Int) by omega]
                                exact ih (j + 1) _ (by omega) (ZRd.sn (by omega))
                              · refine v_iconst hX (atL dAX8_taste_3 2 rfl) ?_
                                refine v_goto hX (tgt := 322) (atL dAX8_taste_3 3 rfl) (by decide) ?_
                                refine v_istore hX (lv' := [(11, .int (iI (1))), (12, .int (iI ((j : Int)))), (10, .int (iI (((255 / 2 ^ rS rr : Nat) : Int)))), (9, .int (iI ((E : Int)))), (8, .int (iI ((rr : Int)))), (7, .int (iI ((hl p1 : Int)))), (6, .int (iI (((nby (K 0) : Nat) : Int)))), (0, .ref (w.1 13 0)), (1, .int (iI ((kx : Int)))), (2, .int (iI (p1))), (3, .int (iI ((sp2 : Int)))), (4, .int (iI ((sp3 : Int)))), (5, .int (iI ((i4 : Int))))]) (Nat.le_of_ble_eq_true rfl) rfl (atL dAX8_taste_3 5 rfl) ?_
                                refine v_iinc hX (lv' := [(12, .int (iI (((j : Int)) + 1))), (11, .int (iI (1))), (10, .int (iI (((255 / 2 ^ rS rr : Nat) : Int)))), (9, .int (iI ((E : Int)))), (8, .int (iI ((rr : Int)))), (7, .int (iI ((hl p1 : Int)))), (6, .int (iI (((nby (K 0) : Nat) : Int)))), (0, .ref (w.1 13 0)), (1, .int (iI ((kx : Int)))), (2, .int (iI (p1))), (3, .int (iI ((sp2 : Int)))), (4, .int (iI ((sp3 : Int)))), (5, .int (iI ((i4 : Int))))]) 1 rfl (iI_add _ _) (Nat.le_of_ble_eq_true rfl) rfl (atL dAX8_taste_3 6 rfl) ?_
                                refine v_goto hX (tgt := 287) (atL dAX8_taste_3 7 rfl) (by decide) ?_
                                refine v_sub (lv' := [(11, .int (iI (1))), (12, .int (iI (((j : Int)) + 1))), (10, .int (iI (((255 / 2 ^ rS rr : Nat) : Int)))), (9, .int (iI ((E : Int)))), (8, .int (iI ((rr : Int)))), (7, .int (iI ((hl p1 : Int)))), (6, .int (iI (((nby (K 0) : Nat) : Int)))), (0, .ref (w.1 13 0)), (1, .int (iI ((kx : Int)))), (2, .int (iI (p1))), (3, .int (iI ((sp2 : Int)))), (4, .int (iI ((sp3 : Int)))), (5, .int (iI ((i4 : Int))))]) [1, 0, 2, 3, 4, 5, 6, 7, 8, 9, 10, 11, 12] rfl ?_
                                rw [show (j : Int) + 1 = ((j + 1 : Nat) : Int) by omega]
                                exact ih (j + 1) _ (by omega) (hi.s1 (by omega) (by omega))
                        refine v_aload_n hX 5 rfl (atL dAX8_taste_2 28 rfl) ?_
                        refine gf_X8_147 hX hk0 (atL dAX8_taste_2 29 rfl) ?_
                        refine v_iload hX 1 rfl (atL dAX8_taste_2 30 rfl) ?_
                        refine v_iload hX 3 rfl (atL dAX8_taste_2 31 rfl) ?_
                        refine v_isub hX (iI_sub _ _) (atL dAX8_taste_2 32 rfl) ?_
                        refine v_iload hX 10 rfl (atL dAX8_taste_2 33 rfl) ?_
                        refine v_isub hX (iI_sub _ _) (atL dAX8_taste_2 34 rfl) ?_
                        refine v_iconst hX (atL dAX8_taste_2 35 rfl) ?_
                        refine v_isub hX (iI_sub _ _) (atL dAX8_taste_2 36 rfl) ?_
                        refine v_iald hX (r := iI ((((tasteD p1 rr F).getD n0 0 : Nat) : Int))) n0 (hQ16 13 (by simp [mn, tp])) (fun _ => rfl) (by omega) (show n0 < 600 by omega) (by decide) (congrArg iI hpn) (atL dAX8_taste_2 37 rfl) ?_
                        refine v_iconst hX (atL dAX8_taste_2 38 rfl) ?_
                        refine v_icmp_ne hX ⟨by omega, by omega⟩ ⟨by omega, by omega⟩ (tgt := 281) (atL dAX8_taste_2 39 rfl) (by decide) (fun h274 => ?_) (fun h274 => ?_)
                        · refine v_iconst hX (atL dAX8_taste_2 42 rfl) ?_
                          refine v_istore hX (lv' := [(11, .int (iI (0))), (10, .int (iI (((255 / 2 ^ rS rr : Nat) : Int)))), (9, .int (iI ((E : Int)))), (8, .int (iI ((rr : Int)))), (7, .int (iI ((hl p1 : Int)))), (6, .int (iI (((nby (K 0) : Nat) : Int)))), (0, .ref (w.1 13 0)), (1, .int (iI ((kx : Int)))), (2, .int (iI (p1))), (3, .int (iI ((sp2 : Int)))), (4, .int (iI ((sp3 : Int)))), (5, .int (iI ((i4 : Int))))]) (Nat.le_of_ble_eq_true rfl) rfl (atL dAX8_taste_2 43 rfl) ?_
                          refine v_iconst hX (atL dAX8_taste_2 44 rfl) ?_
                          refine v_istore hX (lv' := [(12, .int (iI (0))), (11, .int (iI (0))), (10, .int (iI (((255 / 2 ^ rS rr : Nat) : Int)))), (9, .int (iI ((E : Int)))), (8, .int (iI ((rr : Int)))), (7, .int (iI ((hl p1 : Int)))), (6, .int (iI (((nby (K 0) : Nat) : Int)))), (0, .ref (w.1 13 0)), (1, .int (iI ((kx : Int)))), (2, .int (iI (p1))), (3, .int (iI ((sp2 : Int)))), (4, .int (iI ((sp3 : Int)))), (5, .int (iI ((i4 : Int))))]) (Nat.le_of_ble_eq_true rfl) rfl (atL dAX8_taste_2 45 rfl) ?_
                          refine v_sub (lv' := [(11, .int (iI (0))), (12, .int (iI (0))), (10, .int (iI (((255 / 2 ^ rS rr : Nat) : Int)))), (9, .int (iI ((E : Int)))), (8, .int (iI ((rr : Int)))), (7, .int (iI ((hl p1 : Int)))), (6, .int (iI (((nby (K 0) : Nat) : Int)))), (0, .ref (w.1 13 0)), (1, .int (iI ((kx : Int)))), (2, .int (iI (p1))), (3, .int (iI ((sp2 : Int)))), (4, .int (iI ((sp3 : Int)))), (5, .int (iI ((i4 : Int))))]) [1, 0, 2, 3, 4, 5, 6, 7, 8, 9, 10, 11, 12] rfl ?_
                          exact loop14 n0 0 0 (by omega) (ZRd.n (by omega))
                        · refine v_iconst hX (atL dAX8_taste_2 40 rfl) ?_
                          refine v_goto hX (tgt := 282) (atL dAX8_taste_2 41 rfl) (by decide) ?_
                          refine v_istore hX (lv' := [(11, .int (iI (1))), (10, .int (iI (((255 / 2 ^ rS rr : Nat) : Int)))), (9, .int (iI ((E : Int)))), (8, .int (iI ((rr : Int)))), (7, .int (iI ((hl p1 : Int)))), (6, .int (iI (((nby (K 0) : Nat) : Int)))), (0, .ref (w.1 13 0)), (1, .int (iI ((kx : Int)))), (2, .int (iI (p1))), (3, .int (iI ((sp2 : Int)))), (4, .int (iI ((sp3 : Int)))), (5, .int (iI ((i4 : Int))))]) (Nat.le_of_ble_eq_true rfl) rfl (atL dAX8_taste_2 43 rfl) ?_
                          refine v_iconst hX (atL dAX8_taste_2 44 rfl) ?_
                          refine v_istore hX (lv' := [(12, .int (iI (0))), (11, .int (iI (1))), (10, .int (iI (((255 / 2 ^ rS rr : Nat) : Int)))), (9, .int (iI ((E : Int)))), (8, .int (iI ((rr : Int)))), (7, .int (iI ((hl p1 : Int)))), (6, .int (iI (((nby (K 0) : Nat) : Int)))), (0, .ref (w.1 13 0)), (1, .int (iI ((kx : Int)))), (2, .int (iI (p1))), (3, .int (iI ((sp2 : Int)))), (4, .int (iI ((sp3 : Int)))), (5, .int (iI ((i4 : Int))))]) (Nat.le_of_ble_eq_true rfl) rfl (atL dAX8_taste_2 45 rfl) ?_
                          refine v_sub (lv' := [(11, .int (iI (1))), (12, .int (iI (0))), (10, .int (iI (((255 / 2 ^ rS rr : Nat) : Int)))), (9, .int (iI ((E : Int)))), (8, .int (iI ((rr : Int)))), (7, .int (iI ((hl p1 : Int)))), (6, .int (iI (((nby (K 0) : Nat) : Int)))), (0, .ref (w.1 13 0)), (1, .int (iI ((kx : Int)))), (2, .int (iI (p1))), (3, .int (iI ((sp2 : Int)))), (4, .int (iI ((sp3 : Int)))), (5, .int (iI ((i4 : Int))))]) [1, 0, 2, 3, 4, 5, 6, 7, 8, 9, 10, 11, 12] rfl ?_
                          exact loop14 n0 0 1 (by omega) (ZRd.y (by omega))
                      · refine v_iconst hX (atL dAX8_taste_1 54 rfl) ?_
                        exact v_iret hX (atL dAX8_taste_1 55 rfl) ((hret _ _ ⟨A, by rw [show t9 10 0 0 = 0 by omega]; unfold f_taste; simp only [Int.toNat_natCast, hPe, hKe, hrr, hE, hF]; rw [if_neg (by omega), if_neg (by omega), if_neg (fun q => by have h9 := q.2.2.2.1; rw [hW, ← hGX, hg0] at h9; rw [Nat.div_eq_of_lt h9] at h205; omega)], hM.same hG9 hA9 hD9, hG9.fc⟩ _ hz9))
                  refine v_iload hX 3 rfl (atL dAX8_taste_1 2 rfl) ?_
                  refine v_iload hX 0 rfl (atL dAX8_taste_1 3 rfl) ?_
                  refine v_icmp_le hX ⟨by omega, by omega⟩ ⟨by omega, by omega⟩ (tgt := 165) (atL dAX8_taste_1 4 rfl) (by decide) (fun h119 => ?_) (fun h119 => ?_)
                  · refine v_sub (lv' := [(9, .int (iI ((E : Int)))), (8, .int (iI ((rr : Int)))), (7, .int (iI ((hl p1 : Int)))), (6, .int (iI (((nby (K 0) : Nat) : Int)))), (0, .ref (w.1 13 0)), (1, .int (iI ((kx : Int)))), (2, .int (iI (p1))), (3, .int (iI ((sp2 : Int)))), (4, .int (iI ((sp3 : Int)))), (5, .int (iI ((i4 : Int))))]) [0, 1, 2, 3, 4, 5, 6, 7, 8, 9] rfl ?_
                    have hGF : G = F := by rw [← hG, show F.length - E = 0 by omega, List.drop_zero]
                    exact tail (fun h => absurd h (by omega)) (0, 0) _ hG10 hA10 hD10 hz10 (by omega) (by rw [hGF]; exact hAW)
                  · refine v_aload_n hX 4 rfl (atL dAX8_taste_1 5 rfl) ?_
                    refine gf_X8_147 hX hk0 (atL dAX8_taste_1 6 rfl) ?_
                    refine v_iconst hX (atL dAX8_taste_1 7 rfl) ?_
                    have hpv18 := hAW.get (j := 0) (by rw [hFl]; omega)
                    have hpb18 := hFb.get 0
                    refine v_iald hX (r := iI (((F.getD 0 0 : Nat) : Int))) 0 (hQ16 13 (by simp [mn, tp])) (fun _ => rfl) rfl (show 0 < 600 by omega) (by decide) (congrArg iI hpv18) (atL dAX8_taste_1 8 rfl) ?_
                    refine v_if_eq hX ⟨by omega, by omega⟩ (tgt := 133) (atL dAX8_taste_1 9 rfl) (by decide) (fun h128 => ?_) (fun h128 => ?_)
                    · refine v_iconst hX (atL dAX8_taste_1 12 rfl) ?_
                      refine v_istore hX (lv' := [(10, .int (iI (0))), (9, .int (iI ((E : Int)))), (8, .int (iI ((rr : Int)))), (7, .int (iI ((hl p1 : Int)))), (6, .int (iI (((nby (K 0) : Nat) : Int)))), (0, .ref (w.1 13 0)), (1, .int (iI ((kx : Int)))), (2, .int (iI (p1))), (3, .int (iI ((sp2 : Int)))), (4, .int (iI ((sp3 : Int)))), (5, .int (iI ((i4 : Int))))]) (Nat.le_of_ble_eq_true rfl) rfl (atL dAX8_taste_1 13 rfl) ?_
                      have loop19 : ∀ (d j : Nat) (t19 : St), j + d = E → t19 13 13 = cp (s10 13 13) 0 j (fun q => ((F.getD (q + 1) 0 : Nat) : Int)) → Fr [(13, 13)] s10 t19 → V X (0, 0) w 136 [(10, .int (iI ((j : Int)))), (9, .int (iI ((E : Int)))), (8, .int (iI ((rr : Int)))), (7, .int (iI ((hl p1 : Int)))), (6, .int (iI (((nby (K 0) : Nat) : Int)))), (0, .ref (w.1 13 0)), (1, .int (iI ((kx : Int)))), (2, .int (iI (p1))), (3, .int (iI ((sp2 : Int)))), (4, .int (iI ((sp3 : Int)))), (5, .int (iI ((i4 : Int))))] t19 [] := by
                        intro d
                        induction d with
                        | zero =>
                          intro j t19 hj hc19 hf19
                          have hjN : j = E := by omega
                          subst j
                          have hA19 := hA10.fp hf19 rfl
                          have hG19 := hG10.fr hf19 rfl (by decide)
                          have hD19 := hD10.fr hf19 (by decide) (by decide) (by decide)
                          have ht19 : t19 10 0 0 = 0 := by rw [hf19 10 0 (by decide)]; omega
                          have hz19 := hz10.k (t := t19) (by rw [hf19 10 0 (by decide)])
                          have hsh : AW (t19 13 13) 0 G := AW.of (fun q hq => by rw [hGl] at hq; rw [hc19, ← hG, gD_drop]; unfold cp; rw [if_pos (by omega)]; show (((F.getD (q - 0 + 1) 0 : Nat)) : Int) = _; congr 2; omega)
                          refine v_iload hX 0 rfl (atL dAX8_taste_1 14 rfl) ?_
                          refine v_iload hX 1 rfl (atL dAX8_taste_1 15 rfl) ?_
                          refine v_icmp_ge hX ⟨by omega, by omega⟩ ⟨by omega, by omega⟩ (tgt := 165) (atL dAX8_taste_1 16 rfl) (by decide) (fun h140 => ?_) (fun h140 => absurd h140 (by omega))
                          refine v_sub (lv' := [(9, .int (iI ((E : Int)))), (8, .int (iI ((rr : Int)))), (7, .int (iI ((hl p1 : Int)))), (6, .int (iI (((nby (K 0) : Nat) : Int)))), (0, .ref (w.1 13 0)), (1, .int (iI ((kx : Int)))), (2, .int (iI (p1))), (3, .int (iI ((sp2 : Int)))), (4, .int (iI ((sp3 : Int)))), (5, .int (iI ((i4 : Int))))]) [1, 2, 3, 4, 5, 6, 7, 8, 9, 10] rfl ?_
                          exact tail (fun _ => by omega) (0, 0) _ hG19 hA19 hD19 hz19 (by omega) hsh
                        | succ d ih =>
                          intro j t19 hj hc19 hf19
                          have hsj : t19 13 13 (j + 1) = ((F.getD (j + 1) 0 : Nat) : Int) := by rw [hc19]; unfold cp; rw [if_neg (by omega)]; exact hAW.get (by omega)
                          refine v_iload hX 0 rfl (atL dAX8_taste_1 14 rfl) ?_
                          refine v_iload hX 1 rfl (atL dAX8_taste_1 15 rfl) ?_
                          refine v_icmp_ge hX ⟨by omega, by omega⟩ ⟨by omega, by omega⟩ (tgt := 165) (atL dAX8_taste_1 16 rfl) (by decide) (fun h140 => absurd h140 (by omega)) (fun h140 => ?_)
                          refine v_aload_n hX 5 rfl (atL dAX8_taste_1 17 rfl) ?_
                          refine gf_X8_147 hX hk0 (atL dAX8_taste_1 18 rfl) ?_
                          refine v_iload hX 0 rfl (atL dAX8_taste_1 19 rfl) ?_
                          refine v_aload_n hX 5 rfl (atL dAX8_taste_1 20 rfl) ?_
                          refine gf_X8_147 hX hk0 (atL dAX8_taste_1 21 rfl) ?_
                          refine v_iload hX 0 rfl (atL dAX8_taste_1 22 rfl) ?_
                          refine v_iconst hX (atL dAX8_taste_1 23 rfl) ?_
                          refine v_iadd hX (iI_add _ _) (atL dAX8_taste_1 24 rfl) ?_
                          refine v_iald hX (r := iI (((F.getD (j + 1) 0 : Nat) : Int))) ((j + 1)) (hQ16 13 (by simp [mn, tp])) (fun _ => rfl) (by omega) (show j + 1 < 600 by omega) (by decide) (congrArg iI hsj) (atL dAX8_taste_1 25 rfl) ?_
                          refine v_iast hX (c := 13) ((0 + j)) (hQ16 13 (by simp [mn, tp])) (by decide) (fun _ _ => rfl) (by omega) (show 0 + j < 600 by omega) (by decide) (atL dAX8_taste_1 26 rfl) ?_
                          refine v_iinc hX (lv' := [(10, .int (iI (((j : Int)) + 1))), (9, .int (iI ((E : Int)))), (8, .int (iI ((rr : Int)))), (7, .int (iI ((hl p1 : Int)))), (6, .int (iI (((nby (K 0) : Nat) : Int)))), (0, .ref (w.1 13 0)), (1, .int (iI ((kx : Int)))), (2, .int (iI (p1))), (3, .int (iI ((sp2 : Int)))), (4, .int (iI ((sp3 : Int)))), (5, .int (iI ((i4 : Int))))]) 0 rfl (iI_add _ _) (Nat.le_of_ble_eq_true rfl) rfl (atL dAX8_taste_1 27 rfl) ?_
                          refine v_goto hX (tgt := 136) (atL dAX8_taste_1 28 rfl) (by decide) ?_
                          refine v_sub (lv' := [(10, .int (iI (((j : Int)) + 1))), (9, .int (iI ((E : Int)))), (8, .int (iI ((rr : Int)))), (7, .int (iI ((hl p1 : Int)))), (6, .int (iI (((nby (K 0) : Nat) : Int)))), (0, .ref (w.1 13 0)), (1, .int (iI ((kx : Int)))), (2, .int (iI (p1))), (3, .int (iI ((sp2 : Int)))), (4, .int (iI ((sp3 : Int)))), (5, .int (iI ((i4 : Int))))]) [0, 1, 2, 3, 4, 5, 6, 7, 8, 9, 10] rfl ?_
                          rw [show (j : Int) + 1 = ((j + 1 : Nat) : Int) by omega]
                          exact ih (j + 1) _ (by omega) (cp_s hc19 rfl) (hf19.tr' (Fr.su (by simp)))
                      refine v_sub (lv' := [(10, .int (iI (0))), (9, .int (iI ((E : Int)))), (8, .int (iI ((rr : Int)))), (7, .int (iI ((hl p1 : Int)))), (6, .int (iI (((nby (K 0) : Nat) : Int)))), (0, .ref (w.1 13 0)), (1, .int (iI ((kx : Int)))), (2, .int (iI (p1))), (3, .int (iI ((sp2 : Int)))), (4, .int (iI ((sp3 : Int)))), (5, .int (iI ((i4 : Int))))]) [0, 1, 2, 3, 4, 5, 6, 7, 8, 9, 10] rfl ?_
                      exact loop19 (E) 0 s10 (by omega) cp_0.symm Fr.rf
                    · refine v_iconst hX (atL dAX8_taste_1 10 rfl) ?_
                      exact v_iret hX (atL dAX8_taste_1 11 rfl) ((hret _ _ ⟨A, by rw [show s10 10 0 0 = 0 by omega]; unfold f_taste; simp only [Int.toNat_natCast, hPe, hKe, hrr, hE, hF]; rw [if_neg (by omega), if_neg (by omega), if_neg (fun q => absurd (q.2.1 (by omega)) (by omega))], hM.same hG10 hA10 hD10, hG10.fc⟩ _ hz10))
                · refine v_iconst hX (atL dAX8_taste_1 0 rfl) ?_
                  exact v_iret hX (atL dAX8_taste_1 1 rfl) ((hret _ _ ⟨A, by rw [show s10 10 0 0 = 0 by omega]; unfold f_taste; simp only [Int.toNat_natCast, hPe, hKe, hrr, hE]; rw [if_neg (by omega), if_neg (by omega), if_neg (fun q => absurd q.1.1 (by omega))], hM.same hG10 hA10 hD10, hG10.fc⟩ _ hz10))
            · refine v_iconst hX (atL dAX8_taste_0 21 rfl) ?_
              refine v_goto hX (tgt := 48) (atL dAX8_taste_0 22 rfl) (by decide) ?_
              refine v_callV hX (As := [.int (iI (1))]) (rest := []) (c_X8_bad (xl X) w s2 hk0 1 (by decide)) lk_X8_244 hk0 (fun _ => rfl) rfl rfl rfl (by rw [hR]; exact ⟨Nat.le_of_ble_eq_true rfl, Nat.le_of_ble_eq_true rfl⟩) (by rw [hR]; exact hz2.b) rfl (Nat.le_of_ble_eq_true rfl) (atL dAX8_taste_0 24 rfl) (fun r20 s20 g20 => ?_)
              obtain ⟨gs20, ht20, hG20, hA20, hD20⟩ := bad_use g20 (by omega) hG2 hA2 hD2
              have hz20 := hz2.k (t := s20) (bad_4 g20)
              subst gs20
              show V X _ w _ _ s20 [.int (iI (1))]
              refine v_if_eq hX ⟨by omega, by omega⟩ (tgt := 56) (atL dAX8_taste_0 25 rfl) (by decide) (fun h51 => absurd h51 (by omega)) (fun h51 => ?_)
              refine v_iconst hX (atL dAX8_taste_0 26 rfl) ?_
              exact v_iret hX (atL dAX8_taste_0 27 rfl) ((hret _ _ ⟨A, by rw [show s20 10 0 0 = 2 by omega]; unfold f_taste; rw [if_neg (by omega), if_pos (by omega)], hM.same hG20 hA20 hD20, hG20.fc⟩ _ hz20))
