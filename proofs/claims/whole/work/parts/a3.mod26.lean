def OL1 : List (Nat × Nat) := (13, 13) :: (11, 18) :: (12, 18) :: TL
/-- what 'opened' changes -/
def FO (σ s : St) : Prop := Fr OL1 σ s ∧ ∀ j, j ≠ 2 → s 10 0 j = σ 10 0 j
theorem FO.rf {σ : St} : FO σ σ := ⟨Fr.rf, fun _ _ => rfl⟩
theorem FO.fr {σ s t : St} {l : List (Nat × Nat)} (h : FO σ s) (f : Fr l s t) (hl : l.all (fun q => decide (q ∈ OL1)) = true) (h0 : (10, 0) ∉ l) : FO σ t := ⟨h.1.tr' (f.mono (fun q hq => by have := List.all_eq_true.mp hl q hq; simpa using this)), fun j hj => by rw [f 10 0 h0]; exact h.2 j hj⟩
theorem FO.fs {σ s t : St} (h : FO σ s) (f : FS s t) : FO σ t := ⟨h.1.tr' (f.1.mono (by decide)), fun j hj => (f.2 j hj).trans (h.2 j hj)⟩
theorem FO.fg {b σ s : St} (h : FG b σ) (f : FO σ s) : FG b s := by
  refine h.tr ⟨fun c i k => f.1 c i (fun q => ?_), f.2 1 (by decide), f.2 5 (by decide)⟩
  have h2 : OL1.all (fun q => !Gk q.1 q.2) = true := rfl
  have := List.all_eq_true.mp h2 _ q
  simp [k] at this
theorem FO.dg [Gh] {σ s : St} (h : DG σ) (f : FO σ s) : DG s := by
  unfold DG CO
  rw [f.1 13 7 (by decide), f.1 13 8 (by decide), f.2 3 (by decide), f.2 4 (by decide)]
  exact h

set_option maxHeartbeats 1000000 in
set_option maxRecDepth 100000 in
theorem c_X8_opened [Gh] (l : Launch) (w : Wl) (σ : St) (hk0 : w.2 13 0) (A : Ab) (hM : HM σ A) (h0 : σ 10 0 0 = 0) (kx : Nat) (hkx : kx < A.2.1) (P : Nat) (K : Nat → Nat) (hK : KM σ kx P K) (how : Nat) (hhow : 1 + how < P) (s : Nat) (hs : s < 24) : Cn l yX8_opened cX8_opened 6 (Option.some Jvm.ClassFile.FieldType.boolean) 6 152 wI [.ref (w.1 13 0), .int (iI ((kx : Int))), .int (iI (((1 + how : Nat) : Int))), .int (iI ((s : Int)))] w σ (fun a σ' => ((a = 1 ∧ wr_ K (A.1 s) ∧ AW (σ' 13 13) 0 (tn K how (A.1 s))) ∨ (a = 0 ∧ ¬ wr_ K (A.1 s))) ∧ AN σ' ∧ FO σ σ') := by
  refine Cn.of (own := RX8) (lv := [(0, .ref (w.1 13 0)), (1, .int (iI ((kx : Int)))), (2, .int (iI (((1 + how : Nat) : Int)))), (3, .int (iI ((s : Int))))]) (by decide +kernel) rfl (Nat.le_of_ble_eq_true rfl) rfl (fun X hX hxl hR hcl hret => ?_)
  subst hxl
  have hQ : ∀ q, (14, q) ∈ mn σ 13 0 → w.2 14 q := fun q h => hcl 13 0 hk0 (14, q) h
  have hQ5 : ∀ q, (14, q) ∈ mn σ 13 0 → w.2 15 q := fun q h => hcl 14 q (hQ q h) (15, q) (by simp [mn, tp])
  have hQ16 : ∀ q, (16, q) ∈ mn σ 13 0 → w.2 16 q := fun q h => hcl 13 0 hk0 (16, q) h
  have hk16 := hM.1.2.2.2.1
  have hkb : ∀ j, j < P → lb (K j) 64 := fun j hj => by have := (hK.2.2.1 j hj).2.1; exact nby_lb this
  have hPP := hK.1
  have hK0 := hK.2.2.2
  have hKn := (hK.2.2.1 0 (by omega)).2.1
  obtain ⟨ls, hls⟩ : ∃ q, (A.1 s).length = q := ⟨_, rfl⟩
  have hqs : ls ≤ 256 := by rw [← hls]; exact hM.1.len hs
  have hbvs : lb (rv (A.1 s)) 128 := rv_lb (hM.1.by hs) (hM.1.len hs)
  refine v_aload_n hX 0 rfl (atL dAX8_opened_0 0 rfl) ?_
  refine v_iload_n hX 1 rfl (atL dAX8_opened_0 1 rfl) ?_
  refine v_callV hX (As := [.int (iI ((kx : Int)))]) (rest := []) (c_X8_lengthOf (xl X) w σ hk0 hM.2.1 kx (by omega) P K (hK.fg FG.rf)) lk_X8_380 hk0 (fun _ => rfl) rfl rfl rfl (by rw [hR]; exact ⟨Nat.le_of_ble_eq_true rfl, Nat.le_of_ble_eq_true rfl⟩) ⟨Nat.zero_le _, Nat.zero_le _⟩ rfl (Nat.le_of_ble_eq_true rfl) (atL dAX8_opened_0 2 rfl) (fun r1 s1 e1 => ?_)
  obtain ⟨ga1, hw1, hf1⟩ := e1
  subst ga1
  have hA1 := hM.2.1.one hf1 hw1
  have hG1 := FG.rf.fr hf1 rfl (by decide)
  have hD1 := hM.2.2.fr hf1 (by decide) (by decide) (by decide)
  have ht1 : s1 10 0 0 = 0 := by rw [hf1 10 0 (by decide)]; omega
  show V X _ w _ _ s1 [.int (iI (((nby (K 0) : Nat) : Int)))]
  refine v_istore hX (lv' := [(4, .int (iI (((nby (K 0) : Nat) : Int)))), (0, .ref (w.1 13 0)), (1, .int (iI ((kx : Int)))), (2, .int (iI (((1 + how : Nat) : Int)))), (3, .int (iI ((s : Int))))]) (Nat.le_of_ble_eq_true rfl) rfl (atL dAX8_opened_0 3 rfl) ?_
  refine v_aload_n hX 1 rfl (atL dAX8_opened_0 4 rfl) ?_
  refine gf_X8_71 hX hk0 (atL dAX8_opened_0 5 rfl) ?_
  refine v_iload_n hX 4 rfl (atL dAX8_opened_0 6 rfl) ?_
  refine v_iald hX (r := iI (((ls : Nat) : Int))) s (hQ16 1 (by simp [mn, tp])) (fun _ => rfl) rfl (show s < 24 by omega) (by decide) (congrArg iI (((hM.1.fg hG1).1 s (by omega)).1.1.trans (by rw [hls]))) (atL dAX8_opened_0 7 rfl) ?_
  refine v_iload hX 0 rfl (atL dAX8_opened_0 8 rfl) ?_
  refine v_icmp_eq hX ⟨by omega, by omega⟩ ⟨by omega, by omega⟩ (tgt := 20) (atL dAX8_opened_0 9 rfl) (by decide) (fun h15 => ?_) (fun h15 => ?_)
  · refine v_aload_n hX 1 rfl (atL dAX8_opened_0 12 rfl) ?_
    refine v_iload_n hX 4 rfl (atL dAX8_opened_0 13 rfl) ?_
    refine v_aload_n hX 1 rfl (atL dAX8_opened_0 14 rfl) ?_
    refine gf_X8_80 hX hk0 (atL dAX8_opened_0 15 rfl) ?_
    refine v_callV hX (As := [.int (iI ((s : Int))), .ref (w.1 14 18)]) (rest := []) (c_X8_number (xl X) w s1 hk0 s (by omega) (A.1 s) ((hM.1.fg hG1).1 s (by omega)).1 (hM.1.by (by omega)) 18 (hQ 18 (by simp [mn, tp])) (hA1 18)) lk_X8_271 hk0 (fun _ => rfl) rfl rfl rfl (by rw [hR]; exact ⟨Nat.le_of_ble_eq_true rfl, Nat.le_of_ble_eq_true rfl⟩) ⟨Nat.zero_le _, Nat.zero_le _⟩ rfl (Nat.le_of_ble_eq_true rfl) (atL dAX8_opened_0 16 rfl) (fun _ s2 e2 => ?_)
    obtain ⟨hw2, hf2⟩ := e2
    have hA2 := hA1.one hf2 hw2
    have hn2_23 := nm.fr hw1 hf2 (by decide) (by decide)
    have hG2 := hG1.fr hf2 rfl (by decide)
    have hD2 := hD1.fr hf2 (by decide) (by decide) (by decide)
    have ht2 : s2 10 0 0 = 0 := by rw [hf2 10 0 (by decide)]; omega
    show V X _ w _ _ s2 []
    refine v_aload_n hX 1 rfl (atL dAX8_opened_0 17 rfl) ?_
    refine gf_X8_80 hX hk0 (atL dAX8_opened_0 18 rfl) ?_
    refine v_aload_n hX 1 rfl (atL dAX8_opened_0 19 rfl) ?_
    refine gf_X8_126 hX hk0 (atL dAX8_opened_0 20 rfl) ?_
    refine v_callN hX (As := [.ref (w.1 14 23)]) (rest := []) (c_X7_compare (xl X) w s2 18 (rv (A.1 s)) (hQ 18 (by simp [mn, tp])) hw2 23 (K 0) (hQ 23 (by simp [mn, tp])) hn2_23) lk_X8_160 (hQ 18 (by simp [mn, tp])) (fun _ => rfl) rfl rfl rfl (by rw [hR]; exact ⟨Nat.le_of_ble_eq_true rfl, Nat.le_of_ble_eq_true rfl⟩) ⟨Nat.zero_le _, Nat.zero_le _⟩ rfl (Nat.le_of_ble_eq_true rfl) (atL dAX8_opened_0 21 rfl) (fun r3 z3 g3 => ?_)
    obtain ⟨ga3, gb3⟩ := g3
    rw [gb3]
    have gc3 : (r3 = -1 ∧ rv (A.1 s) < K 0) ∨ (r3 = 0 ∧ rv (A.1 s) = K 0) ∨ (r3 = 1 ∧ K 0 < rv (A.1 s)) := ord3 ga3
    show V X _ w _ _ s2 [.int (iI (r3))]
    refine v_if_lt hX ⟨by omega, by omega⟩ (tgt := 45) (atL dAX8_opened_0 22 rfl) (by decide) (fun h40 => ?_) (fun h40 => ?_)
    · refine v_aload_n hX 1 rfl (atL dAX8_opened_0 25 rfl) ?_
      refine v_iload_n hX 2 rfl (atL dAX8_opened_0 26 rfl) ?_
      refine v_iload_n hX 3 rfl (atL dAX8_opened_0 27 rfl) ?_
      refine v_aload_n hX 1 rfl (atL dAX8_opened_0 28 rfl) ?_
      refine gf_X8_80 hX hk0 (atL dAX8_opened_0 29 rfl) ?_
      refine v_callV hX (As := [.int (iI ((kx : Int))), .int (iI (((1 + how : Nat) : Int))), .ref (w.1 14 18)]) (rest := []) (c_X8_turns (xl X) w s2 hk0 hA2 kx (by omega) P K (hK.fg hG2) ((1 + how)) (by omega) (rv (A.1 s)) hw2 hbvs) lk_X8_377 hk0 (fun _ => rfl) rfl rfl rfl (by rw [hR]; exact ⟨Nat.le_of_ble_eq_true rfl, Nat.le_of_ble_eq_true rfl⟩) ⟨Nat.zero_le _, Nat.zero_le _⟩ rfl (Nat.le_of_ble_eq_true rfl) (atL dAX8_opened_0 30 rfl) (fun _ s4 e4 => ?_)
      obtain ⟨hr4, hA4, hS4⟩ := e4
      have hG4 := FS.fg hG2 hS4
      have hD4 := FS.dg hD2 hS4
      have ht4 : s4 10 0 0 = 0 := by rw [hS4.2 0 (by decide)]; omega
      show V X _ w _ _ s4 []
      refine v_iconst hX (atL dAX8_opened_0 31 rfl) ?_
      refine v_istore hX (lv' := [(5, .int (iI (0))), (4, .int (iI (((nby (K 0) : Nat) : Int)))), (0, .ref (w.1 13 0)), (1, .int (iI ((kx : Int)))), (2, .int (iI (((1 + how : Nat) : Int)))), (3, .int (iI ((s : Int))))]) (Nat.le_of_ble_eq_true rfl) rfl (atL dAX8_opened_0 32 rfl) ?_
      have loopx : ∀ (d j : Nat) (tx : St), j + d = nby (K 0) → tx 13 13 = cp (s4 13 13) 0 j (fun q => (((tn K how (A.1 s)).getD q 0 : Nat) : Int)) → Fr [(13, 13)] s4 tx → V X (0, 0) w 58 [(5, .int (iI ((j : Int)))), (4, .int (iI (((nby (K 0) : Nat) : Int)))), (0, .ref (w.1 13 0)), (1, .int (iI ((kx : Int)))), (2, .int (iI (((1 + how : Nat) : Int)))), (3, .int (iI ((s : Int))))] tx [] := by
        intro d
        induction d with
        | zero =>
          intro j tx hj hcx hfx
          have hjN : j = nby (K 0) := by omega
          subst hjN
          have hfin : AW (tx 13 13) 0 (tn K how (A.1 s)) := by
            refine AW.of (fun q hq => ?_)
            rw [tn_len] at hq
            rw [hcx]
            unfold cp
            rw [if_pos (by omega)]
            rfl
          refine v_iload hX 0 rfl (atL dAX8_opened_0 33 rfl) ?_
          refine v_iload hX 1 rfl (atL dAX8_opened_0 34 rfl) ?_
          refine v_icmp_ge hX ⟨by omega, by omega⟩ ⟨by omega, by omega⟩ (tgt := 85) (atL dAX8_opened_0 35 rfl) (by decide) (fun h62 => ?_) (fun h62 => absurd h62 (by omega))
          refine v_iconst hX (atL dAX8_opened_0 46 rfl) ?_
          exact v_zret hX (by decide +kernel) (atL dAX8_opened_0 47 rfl) (hret _ _ ⟨Or.inl ⟨rfl, ⟨by rw [hls]; omega, by omega⟩, hfin⟩, hA4.fp hfx rfl, (((FO.rf.fr hf1 (by decide) (by decide)).fr hf2 (by decide) (by decide)).fs hS4).fr hfx (by decide) (by decide)⟩)
        | succ d ih =>
          intro j tx hj hcx hfx
          have hrj : tx 13 3 j = (((tn K how (A.1 s)).getD j 0 : Nat) : Int) := by rw [hfx 13 3 (by decide)]; exact hr4.2 j (by rw [be_len]; omega)
          refine v_iload hX 0 rfl (atL dAX8_opened_0 33 rfl) ?_
          refine v_iload hX 1 rfl (atL dAX8_opened_0 34 rfl) ?_
          refine v_icmp_ge hX ⟨by omega, by omega⟩ ⟨by omega, by omega⟩ (tgt := 85) (atL dAX8_opened_0 35 rfl) (by decide) (fun h62 => absurd h62 (by omega)) (fun h62 => ?_)
          refine v_aload_n hX 2 rfl (atL dAX8_opened_0 36 rfl) ?_
          refine gf_X8_147 hX hk0 (atL dAX8_opened_0 37 rfl) ?_
          refine v_iload hX 0 rfl (atL dAX8_opened_0 38 rfl) ?_
          refine v_aload_n hX 2 rfl (atL dAX8_opened_0 39 rfl) ?_
          refine gf_X8_77 hX hk0 (atL dAX8_opened_0 40 rfl) ?_
          refine v_iload hX 0 rfl (atL dAX8_opened_0 41 rfl) ?_
          refine v_iald hX (r := iI ((((tn K how (A.1 s)).getD j 0 : Nat) : Int))) j (hQ16 3 (by simp [mn, tp])) (fun _ => rfl) rfl (show j < 1000 by omega) (by decide) (congrArg iI hrj) (atL dAX8_opened_0 42 rfl) ?_
          refine v_iast hX (c := 13) ((0 + j)) (hQ16 13 (by simp [mn, tp])) (by decide) (fun _ _ => rfl) (by omega) (show 0 + j < 600 by omega) (by decide) (atL dAX8_opened_0 43 rfl) ?_
          refine v_iinc hX (lv' := [(5, .int (iI (((j : Int)) + 1))), (4, .int (iI (((nby (K 0) : Nat) : Int)))), (0, .ref (w.1 13 0)), (1, .int (iI ((kx : Int)))), (2, .int (iI (((1 + how : Nat) : Int)))), (3, .int (iI ((s : Int))))]) 0 rfl (iI_add _ _) (Nat.le_of_ble_eq_true rfl) rfl (atL dAX8_opened_0 44 rfl) ?_
          refine v_goto hX (tgt := 58) (atL dAX8_opened_0 45 rfl) (by decide) ?_
          refine v_sub (lv' := [(5, .int (iI (((j : Int)) + 1))), (4, .int (iI (((nby (K 0) : Nat) : Int)))), (0, .ref (w.1 13 0)), (1, .int (iI ((kx : Int)))), (2, .int (iI (((1 + how : Nat) : Int)))), (3, .int (iI ((s : Int))))]) [0, 1, 2, 3, 4, 5] rfl ?_
          rw [show (j : Int) + 1 = ((j + 1 : Nat) : Int) by omega]
          exact ih (j + 1) _ (by omega) (cp_s hcx rfl) (hfx.tr' (Fr.su (by simp)))
      refine v_sub (lv' := [(5, .int (iI (0))), (4, .int (iI (((nby (K 0) : Nat) : Int)))), (0, .ref (w.1 13 0)), (1, .int (iI ((kx : Int)))), (2, .int (iI (((1 + how : Nat) : Int)))), (3, .int (iI ((s : Int))))]) [0, 1, 2, 3, 4, 5] rfl ?_
      exact loopx (nby (K 0)) 0 s4 (by omega) cp_0.symm Fr.rf
    · refine v_iconst hX (atL dAX8_opened_0 23 rfl) ?_
      exact v_zret hX (by decide +kernel) (atL dAX8_opened_0 24 rfl) (hret _ _ ⟨Or.inr ⟨rfl, fun q => absurd q.2 (by omega)⟩, hA2, ((FO.rf.fr hf1 (by decide) (by decide)).fr hf2 (by decide) (by decide))⟩)
  · refine v_iconst hX (atL dAX8_opened_0 10 rfl) ?_
    exact v_zret hX (by decide +kernel) (atL dAX8_opened_0 11 rfl) (hret _ _ ⟨Or.inr ⟨rfl, fun q => absurd q.1 (by rw [hls]; omega)⟩, hA1, (FO.rf.fr hf1 (by decide) (by decide))⟩)
