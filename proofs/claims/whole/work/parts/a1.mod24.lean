/-- what a turn by a key changes: the scratch row and numbers -/
def TL : List (Nat × Nat) := (10, 0) :: (13, 3) :: [(11, 0), (12, 0), (11, 1), (12, 1), (11, 2), (12, 2), (11, 3), (12, 3), (11, 4), (12, 4), (11, 5), (12, 5), (11, 21), (12, 21), (11, 23), (12, 23), (11, 24), (12, 24)]
def FS (σ s : St) : Prop := Fr TL σ s ∧ ∀ j, j ≠ 2 → s 10 0 j = σ 10 0 j
theorem FS.rf {σ : St} : FS σ σ := ⟨Fr.rf, fun _ _ => rfl⟩
theorem FS.tr {σ s t : St} (h : FS σ s) (g : FS s t) : FS σ t := ⟨h.1.tr' g.1, fun j hj => (g.2 j hj).trans (h.2 j hj)⟩
theorem FS.fr {σ s t : St} {l : List (Nat × Nat)} (h : FS σ s) (f : Fr l s t) (hl : l.all (fun q => decide (q ∈ TL)) = true) (h0 : (10, 0) ∉ l) : FS σ t := ⟨h.1.tr' (f.mono (fun q hq => by have := List.all_eq_true.mp hl q hq; simpa using this)), fun j hj => by rw [f 10 0 h0]; exact h.2 j hj⟩
theorem FS.fp {σ s t : St} (h : FS σ s) (f : FP s t) : FS σ t := ⟨h.1.tr' (f.1.mono (by decide)), fun j hj => (f.2 j hj).trans (h.2 j hj)⟩
theorem FS.fg {b σ s : St} (h : FG b σ) (f : FS σ s) : FG b s := by
  refine h.tr ⟨fun c i k => f.1 c i (fun q => ?_), f.2 1 (by decide), f.2 5 (by decide)⟩
  have h2 : TL.all (fun q => !Gk q.1 q.2) = true := rfl
  have := List.all_eq_true.mp h2 _ q
  simp [k] at this
theorem FS.dg [Gh] {σ s : St} (h : DG σ) (f : FS σ s) : DG s := by
  unfold DG CO
  rw [f.1 13 7 (by decide), f.1 13 8 (by decide), f.2 3 (by decide), f.2 4 (by decide)]
  exact h
theorem KM.kp {σ : St} {k P : Nat} {K : Nat → Nat} (h : KM σ k P K) {j : Nat} (hj : j < P) : KP σ k j (K j) := h.2.2.1 j hj

theorem KM.fs {s t : St} {k P : Nat} {K : Nat → Nat} {l : List (Nat × Nat)} (h : KM s k P K) (f : Fr l s t) (h1 : (13, 11) ∉ l) (h2 : (13, 12) ∉ l) (h3 : (14, 0) ∉ l) : KM t k P K := by
  unfold KM
  rw [f 13 11 h1, f 13 12 h2, f 14 0 h3]
  exact h

set_option maxHeartbeats 1000000 in
set_option maxRecDepth 100000 in
theorem c_X8_lengthOf (l : Launch) (w : Wl) (σ : St) (hk0 : w.2 13 0) (hA : AN σ) (kx : Nat) (hkx : kx < 16) (P : Nat) (K : Nat → Nat) (hK : KM σ kx P K)  : Cn l yX8_lengthOf cX8_lengthOf 2 (Option.some Jvm.ClassFile.FieldType.int) 3 69 wI [.ref (w.1 13 0), .int (iI ((kx : Int)))] w σ (fun a σ' => a = ((nby (K 0) : Nat) : Int) ∧ NN σ' 23 (K 0) ∧ Fr [(11, 23), (12, 23)] σ σ') := by
  refine Cn.of (own := RX8) (lv := [(0, .ref (w.1 13 0)), (1, .int (iI ((kx : Int))))]) (by decide +kernel) rfl (Nat.le_of_ble_eq_true rfl) rfl (fun X hX hxl hR hcl hret => ?_)
  subst hxl
  have hQ : ∀ q, (14, q) ∈ mn σ 13 0 → w.2 14 q := fun q h => hcl 13 0 hk0 (14, q) h
  have hQ5 : ∀ q, (14, q) ∈ mn σ 13 0 → w.2 15 q := fun q h => hcl 14 q (hQ q h) (15, q) (by simp [mn, tp])
  have hQ16 : ∀ q, (16, q) ∈ mn σ 13 0 → w.2 16 q := fun q h => hcl 13 0 hk0 (16, q) h
  have hkb : ∀ j, j < P → lb (K j) 64 := fun j hj => by have := (hK.2.2.1 j hj).2.1; exact nby_lb this
  have hPP := hK.1
  have hK0 := hK.2.2.2
  have hKn := (hK.2.2.1 0 (by omega)).2.1
  refine v_aload_n hX 0 rfl (atL dAX8_lengthOf_0 0 rfl) ?_
  refine v_iload_n hX 1 rfl (atL dAX8_lengthOf_0 1 rfl) ?_
  refine v_iconst hX (atL dAX8_lengthOf_0 2 rfl) ?_
  refine v_aload_n hX 0 rfl (atL dAX8_lengthOf_0 3 rfl) ?_
  refine gf_X8_126 hX hk0 (atL dAX8_lengthOf_0 4 rfl) ?_
  refine v_callV hX (As := [.int (iI ((kx : Int))), .int (iI (0)), .ref (w.1 14 23)]) (rest := []) (c_X8_kept (xl X) w σ hk0 kx (by omega) P K hK 0 (by omega) 23 (hQ 23 (by simp [mn, tp])) (hA 23)) lk_X8_373 hk0 (fun _ => rfl) rfl rfl rfl (by rw [hR]; exact ⟨Nat.le_of_ble_eq_true rfl, Nat.le_of_ble_eq_true rfl⟩) ⟨Nat.zero_le _, Nat.zero_le _⟩ rfl (Nat.le_of_ble_eq_true rfl) (atL dAX8_lengthOf_0 5 rfl) (fun _ s1 e1 => ?_)
  obtain ⟨hw1, hf1⟩ := e1
  have hA1 := hA.one hf1 hw1
  have hS1 := FS.rf.fr hf1 (by decide) (by decide)
  have hK1 := KM.fs hK hf1 (by decide) (by decide) (by decide)
  show V X _ w _ _ s1 []
  refine v_aload_n hX 0 rfl (atL dAX8_lengthOf_0 6 rfl) ?_
  refine gf_X8_126 hX hk0 (atL dAX8_lengthOf_0 7 rfl) ?_
  refine v_callN hX (As := []) (rest := []) (c_X7_bytes (xl X) w s1 23 (K 0) (hQ 23 (by simp [mn, tp])) hw1) lk_X8_217 (hQ 23 (by simp [mn, tp])) (fun _ => rfl) rfl rfl rfl (by rw [hR]; exact ⟨Nat.le_of_ble_eq_true rfl, Nat.le_of_ble_eq_true rfl⟩) ⟨Nat.zero_le _, Nat.zero_le _⟩ rfl (Nat.le_of_ble_eq_true rfl) (atL dAX8_lengthOf_0 8 rfl) (fun r2 z2 g2 => ?_)
  obtain ⟨ga2, gb2⟩ := g2
  rw [gb2]
  subst ga2
  have hbl2 : blen (K 0) ≤ 4320 := blen_le (NN.le hw1)
  have hby2 : nby (K 0) = (blen (K 0) + 7) / 8 := rfl
  show V X _ w _ _ s1 [.int (iI (((nby (K 0) : Nat) : Int)))]
  exact v_iret hX (atL dAX8_lengthOf_0 9 rfl) (hret _ _ ⟨rfl, hw1, hf1⟩)

set_option maxHeartbeats 1000000 in
set_option maxRecDepth 100000 in
theorem c_X8_turns (l : Launch) (w : Wl) (σ : St) (hk0 : w.2 13 0) (hA : AN σ) (kx : Nat) (hkx : kx < 16) (P : Nat) (K : Nat → Nat) (hK : KM σ kx P K) (j : Nat) (hj : j < P) (v : Nat) (hv : NN σ 18 v) (bv : lb v 128) : Cn l yX8_turns cX8_turns 5 none 5 128 wN [.ref (w.1 13 0), .int (iI ((kx : Int))), .int (iI ((j : Int))), .ref (w.1 14 18)] w σ (fun _ σ' => RO σ' (be (v ^ K j % K 0) (nby (K 0))) ∧ AN σ' ∧ FS σ σ') := by
  refine Cn.of (own := RX8) (lv := [(0, .ref (w.1 13 0)), (1, .int (iI ((kx : Int)))), (2, .int (iI ((j : Int)))), (3, .ref (w.1 14 18))]) (by decide +kernel) rfl (Nat.le_of_ble_eq_true rfl) rfl (fun X hX hxl hR hcl hret => ?_)
  subst hxl
  have hQ : ∀ q, (14, q) ∈ mn σ 13 0 → w.2 14 q := fun q h => hcl 13 0 hk0 (14, q) h
  have hQ5 : ∀ q, (14, q) ∈ mn σ 13 0 → w.2 15 q := fun q h => hcl 14 q (hQ q h) (15, q) (by simp [mn, tp])
  have hQ16 : ∀ q, (16, q) ∈ mn σ 13 0 → w.2 16 q := fun q h => hcl 13 0 hk0 (16, q) h
  have hkb : ∀ j, j < P → lb (K j) 64 := fun j hj => by have := (hK.2.2.1 j hj).2.1; exact nby_lb this
  have hPP := hK.1
  have hK0 := hK.2.2.2
  have hKn := (hK.2.2.1 0 (by omega)).2.1
  refine v_aload_n hX 0 rfl (atL dAX8_turns_0 0 rfl) ?_
  refine v_iload_n hX 1 rfl (atL dAX8_turns_0 1 rfl) ?_
  refine v_iconst hX (atL dAX8_turns_0 2 rfl) ?_
  refine v_aload_n hX 0 rfl (atL dAX8_turns_0 3 rfl) ?_
  refine gf_X8_126 hX hk0 (atL dAX8_turns_0 4 rfl) ?_
  refine v_callV hX (As := [.int (iI ((kx : Int))), .int (iI (0)), .ref (w.1 14 23)]) (rest := []) (c_X8_kept (xl X) w σ hk0 kx (by omega) P K hK 0 (by omega) 23 (hQ 23 (by simp [mn, tp])) (hA 23)) lk_X8_373 hk0 (fun _ => rfl) rfl rfl rfl (by rw [hR]; exact ⟨Nat.le_of_ble_eq_true rfl, Nat.le_of_ble_eq_true rfl⟩) ⟨Nat.zero_le _, Nat.zero_le _⟩ rfl (Nat.le_of_ble_eq_true rfl) (atL dAX8_turns_0 5 rfl) (fun _ s1 e1 => ?_)
  obtain ⟨hw1, hf1⟩ := e1
  have hA1 := hA.one hf1 hw1
  have hn1_18 := nm.fr hv hf1 (by decide) (by decide)
  have hS1 := FS.rf.fr hf1 (by decide) (by decide)
  have hK1 := KM.fs hK hf1 (by decide) (by decide) (by decide)
  show V X _ w _ _ s1 []
  refine v_aload_n hX 0 rfl (atL dAX8_turns_0 6 rfl) ?_
  refine v_iload_n hX 1 rfl (atL dAX8_turns_0 7 rfl) ?_
  refine v_iload_n hX 2 rfl (atL dAX8_turns_0 8 rfl) ?_
  refine v_aload_n hX 0 rfl (atL dAX8_turns_0 9 rfl) ?_
  refine gf_X8_129 hX hk0 (atL dAX8_turns_0 10 rfl) ?_
  refine v_callV hX (As := [.int (iI ((kx : Int))), .int (iI ((j : Int))), .ref (w.1 14 24)]) (rest := []) (c_X8_kept (xl X) w s1 hk0 kx (by omega) P K hK1 j (by omega) 24 (hQ 24 (by simp [mn, tp])) (hA1 24)) lk_X8_373 hk0 (fun _ => rfl) rfl rfl rfl (by rw [hR]; exact ⟨Nat.le_of_ble_eq_true rfl, Nat.le_of_ble_eq_true rfl⟩) ⟨Nat.zero_le _, Nat.zero_le _⟩ rfl (Nat.le_of_ble_eq_true rfl) (atL dAX8_turns_0 11 rfl) (fun _ s2 e2 => ?_)
  obtain ⟨hw2, hf2⟩ := e2
  have hA2 := hA1.one hf2 hw2
  have hn2_18 := nm.fr hn1_18 hf2 (by decide) (by decide)
  have hn2_23 := nm.fr hw1 hf2 (by decide) (by decide)
  have hS2 := hS1.fr hf2 (by decide) (by decide)
  have hK2 := KM.fs hK1 hf2 (by decide) (by decide) (by decide)
  show V X _ w _ _ s2 []
  refine v_aload_n hX 0 rfl (atL dAX8_turns_0 12 rfl) ?_
  refine v_aload_n hX 3 rfl (atL dAX8_turns_0 13 rfl) ?_
  refine v_aload_n hX 0 rfl (atL dAX8_turns_0 14 rfl) ?_
  refine gf_X8_129 hX hk0 (atL dAX8_turns_0 15 rfl) ?_
  refine v_aload_n hX 0 rfl (atL dAX8_turns_0 16 rfl) ?_
  refine gf_X8_126 hX hk0 (atL dAX8_turns_0 17 rfl) ?_
  refine v_aload_n hX 0 rfl (atL dAX8_turns_0 18 rfl) ?_
  refine gf_X8_89 hX hk0 (atL dAX8_turns_0 19 rfl) ?_
  refine v_callV hX (As := [.ref (w.1 14 18), .ref (w.1 14 24), .ref (w.1 14 23), .ref (w.1 14 21)]) (rest := []) (c_X8_raise (xl X) w s2 hk0 hA2 18 v (hQ 18 (by simp [mn, tp])) hn2_18 (n_mono bv (by omega)) (by omega) 24 (K j) (hQ 24 (by simp [mn, tp])) hw2 (by omega) 23 (K 0) (hQ 23 (by simp [mn, tp])) hn2_23 (n_mono (hkb 0 (by omega)) (by omega)) hK0 (by omega) 21 (hQ 21 (by simp [mn, tp])) (by omega)) lk_X8_231 hk0 (fun _ => rfl) rfl rfl rfl (by rw [hR]; exact ⟨Nat.le_of_ble_eq_true rfl, Nat.le_of_ble_eq_true rfl⟩) ⟨Nat.zero_le _, Nat.zero_le _⟩ rfl (Nat.le_of_ble_eq_true rfl) (atL dAX8_turns_0 20 rfl) (fun _ s3 e3 => ?_)
  obtain ⟨hw3, hAp3, hf3⟩ := e3
  have hA3 := hAp3
  have hn3_18 := nm.fr hn2_18 hf3 (by decide) (by decide)
  have hn3_23 := nm.fr hn2_23 hf3 (by decide) (by decide)
  have hn3_24 := nm.fr hw2 hf3 (by decide) (by decide)
  have hS3 := hS2.fr hf3 (by decide) (by decide)
  have hK3 := KM.fs hK2 hf3 (by decide) (by decide) (by decide)
  show V X _ w _ _ s3 []
  refine v_aload_n hX 0 rfl (atL dAX8_turns_0 21 rfl) ?_
  refine gf_X8_126 hX hk0 (atL dAX8_turns_0 22 rfl) ?_
  refine v_callN hX (As := []) (rest := []) (c_X7_bytes (xl X) w s3 23 (K 0) (hQ 23 (by simp [mn, tp])) hn3_23) lk_X8_217 (hQ 23 (by simp [mn, tp])) (fun _ => rfl) rfl rfl rfl (by rw [hR]; exact ⟨Nat.le_of_ble_eq_true rfl, Nat.le_of_ble_eq_true rfl⟩) ⟨Nat.zero_le _, Nat.zero_le _⟩ rfl (Nat.le_of_ble_eq_true rfl) (atL dAX8_turns_0 23 rfl) (fun r4 z4 g4 => ?_)
  obtain ⟨ga4, gb4⟩ := g4
  rw [gb4]
  subst ga4
  have hbl4 : blen (K 0) ≤ 4320 := blen_le (NN.le hn3_23)
  have hby4 : nby (K 0) = (blen (K 0) + 7) / 8 := rfl
  show V X _ w _ _ s3 [.int (iI (((nby (K 0) : Nat) : Int)))]
  refine v_istore hX (lv' := [(4, .int (iI (((nby (K 0) : Nat) : Int)))), (0, .ref (w.1 13 0)), (1, .int (iI ((kx : Int)))), (2, .int (iI ((j : Int)))), (3, .ref (w.1 14 18))]) (Nat.le_of_ble_eq_true rfl) rfl (atL dAX8_turns_0 24 rfl) ?_
  refine v_aload_n hX 1 rfl (atL dAX8_turns_0 25 rfl) ?_
  refine v_callV hX (As := []) (rest := []) (c_X8_anew (xl X) w s3 hk0) lk_X8_254 hk0 (fun _ => rfl) rfl rfl rfl (by rw [hR]; exact ⟨Nat.le_of_ble_eq_true rfl, Nat.le_of_ble_eq_true rfl⟩) ⟨Nat.zero_le _, Nat.zero_le _⟩ rfl (Nat.le_of_ble_eq_true rfl) (atL dAX8_turns_0 26 rfl) (fun _ s5 e5 => ?_)
  obtain ⟨hr5, gb5⟩ := anew_use e5
  have hn5_18 := nm.fr hn3_18 gb5.1 (by decide) (by decide)
  have hn5_23 := nm.fr hn3_23 gb5.1 (by decide) (by decide)
  have hn5_24 := nm.fr hn3_24 gb5.1 (by decide) (by decide)
  have hn5_21 := nm.fr hw3 gb5.1 (by decide) (by decide)
  have hS5 := hS3.fp gb5
  have hA5 := hA3.fp gb5.1 rfl
  have hl5 : ([] : List Nat).length = 0 := rfl
  show V X _ w _ _ s5 []
  refine v_aload_n hX 1 rfl (atL dAX8_turns_0 27 rfl) ?_
  refine v_aload_n hX 1 rfl (atL dAX8_turns_0 28 rfl) ?_
  refine gf_X8_89 hX hk0 (atL dAX8_turns_0 29 rfl) ?_
  refine v_iload hX 0 rfl (atL dAX8_turns_0 30 rfl) ?_
  refine v_callV hX (As := [.ref (w.1 14 21), .int (iI (((nby (K 0) : Nat) : Int)))]) (rest := []) (c_X8_putsNumber (xl X) w s5 hk0 ([]) hr5 21 (v ^ (K j) % (K 0)) (hQ 21 (by simp [mn, tp])) hn5_21 (nby (K 0)) (by rw [hl5]; omega)) lk_X8_267 hk0 (fun _ => rfl) rfl rfl rfl (by rw [hR]; exact ⟨Nat.le_of_ble_eq_true rfl, Nat.le_of_ble_eq_true rfl⟩) ⟨Nat.zero_le _, Nat.zero_le _⟩ rfl (Nat.le_of_ble_eq_true rfl) (atL dAX8_turns_0 31 rfl) (fun _ s6 e6 => ?_)
  obtain ⟨hr6, gb6⟩ := e6
  rw [List.nil_append] at hr6
  have hn6_18 := nm.fr hn5_18 gb6.1 (by decide) (by decide)
  have hn6_23 := nm.fr hn5_23 gb6.1 (by decide) (by decide)
  have hn6_24 := nm.fr hn5_24 gb6.1 (by decide) (by decide)
  have hn6_21 := nm.fr hn5_21 gb6.1 (by decide) (by decide)
  have hS6 := hS5.fp gb6
  have hA6 := hA5.fp gb6.1 rfl
  have hl6 : (be (v ^ (K j) % (K 0)) (nby (K 0))).length = nby (K 0) := by exact be_len
  show V X _ w _ _ s6 []
  exact v_vret hX (atL dAX8_turns_0 32 rfl) (hret () _ ⟨hr6, hA6, hS6⟩)

set_option maxHeartbeats 1000000 in
set_option maxRecDepth 100000 in
theorem c_X8_part [Gh] (l : Launch) (w : Wl) (σ : St) (hk0 : w.2 13 0) (A : Ab) (hM : HM σ A) (p0 : Int) (hp0 : rI p0) (p1 : Int) (hp1 : rI p1) (p2 : Int) (hp2 : rI p2) : Cn l yX8_part cX8_part 4 (Option.some Jvm.ClassFile.FieldType.int) 3 69 wI [.ref (w.1 13 0), .int (iI (p0)), .int (iI (p1)), .int (iI (p2))] w σ (fun a σ' => ∃ A', f_part A p0 p1 p2 = (σ' 10 0 0, a, A') ∧ HM σ' A' ∧ FC σ σ') := by
  refine Cn.of (own := RX8) (lv := [(0, .ref (w.1 13 0)), (1, .int (iI (p0))), (2, .int (iI (p1))), (3, .int (iI (p2)))]) (by decide +kernel) rfl (Nat.le_of_ble_eq_true rfl) rfl (fun X hX hxl hR hcl hret => ?_)
  subst hxl
  have hQ : ∀ q, (14, q) ∈ mn σ 13 0 → w.2 14 q := fun q h => hcl 13 0 hk0 (14, q) h
  have hQ5 : ∀ q, (14, q) ∈ mn σ 13 0 → w.2 15 q := fun q h => hcl 14 q (hQ q h) (15, q) (by simp [mn, tp])
  have hQ16 : ∀ q, (16, q) ∈ mn σ 13 0 → w.2 16 q := fun q h => hcl 13 0 hk0 (16, q) h
  have hp0a := hp0.1
  have hp0b := hp0.2
  have hp1a := hp1.1
  have hp1b := hp1.2
  have hp2a := hp2.1
  have hp2b := hp2.2
  refine v_aload_n hX 0 rfl (atL dAX8_part_0 0 rfl) ?_
  refine v_iload_n hX 3 rfl (atL dAX8_part_0 1 rfl) ?_
  refine v_iload_n hX 3 rfl (atL dAX8_part_0 2 rfl) ?_
  refine v_iload_n hX 3 rfl (atL dAX8_part_0 3 rfl) ?_
  refine v_callV hX (As := [.int (iI (p2)), .int (iI (p2)), .int (iI (p2))]) (rest := []) (c_X8_are (xl X) w σ hk0 p2 hp2 p2 hp2 p2 hp2) lk_X8_240 hk0 (fun _ => rfl) rfl rfl rfl (by rw [hR]; exact ⟨Nat.le_of_ble_eq_true rfl, Nat.le_of_ble_eq_true rfl⟩) ⟨Nat.zero_le _, Nat.zero_le _⟩ rfl (Nat.le_of_ble_eq_true rfl) (atL dAX8_part_0 4 rfl) (fun r1 s1 g1 => ?_)
  obtain ⟨gs1, ht1, hG1, hA1, hD1⟩ := are_use g1 FG.rf hM.2.1 hM.2.2
  have gd1 : r1 = 0 ∨ r1 = 1 := by rcases gs1 with q | q <;> omega
  show V X _ w _ _ s1 [.int (iI (r1))]
  refine v_if_eq hX ⟨by omega, by omega⟩ (tgt := 40) (atL dAX8_part_0 5 rfl) (by decide) (fun h7 => ?_) (fun h7 => ?_)
  · refine v_iconst hX (atL dAX8_part_0 21 rfl) ?_
    exact v_iret hX (atL dAX8_part_0 22 rfl) (hret _ _ ⟨A, by rw [show s1 10 0 0 = 1 by omega]; unfold f_part; rw [if_pos (by omega)], hM.same hG1 hA1 hD1, hG1.fc⟩)
  · refine v_aload_n hX 0 rfl (atL dAX8_part_0 6 rfl) ?_
    refine v_iload_n hX 1 rfl (atL dAX8_part_0 7 rfl) ?_
    refine v_callV hX (As := [.int (iI (p0))]) (rest := []) (c_X8_isKey (xl X) w s1 hk0 p0 hp0 A.2.1 (hM.1.fg hG1).2.2.1 hM.1.2.2.2.1) lk_X8_370 hk0 (fun _ => rfl) rfl rfl rfl (by rw [hR]; exact ⟨Nat.le_of_ble_eq_true rfl, Nat.le_of_ble_eq_true rfl⟩) ⟨Nat.zero_le _, Nat.zero_le _⟩ rfl (Nat.le_of_ble_eq_true rfl) (atL dAX8_part_0 8 rfl) (fun r2 s2 g2 => ?_)
    obtain ⟨gs2, ht2, hG2, hA2, hD2⟩ := iss_use g2 (by omega) hG1 hA1 hD1
    have gd2 : r2 = 0 ∨ r2 = 1 := by rcases gs2 with q | q <;> omega
    show V X _ w _ _ s2 [.int (iI (r2))]
    refine v_if_eq hX ⟨by omega, by omega⟩ (tgt := 40) (atL dAX8_part_0 9 rfl) (by decide) (fun h15 => ?_) (fun h15 => ?_)
    · refine v_iconst hX (atL dAX8_part_0 21 rfl) ?_
      exact v_iret hX (atL dAX8_part_0 22 rfl) (hret _ _ ⟨A, by rw [show s2 10 0 0 = 1 by omega]; unfold f_part; rw [if_pos (by omega)], hM.same hG2 hA2 hD2, hG2.fc⟩)
    · obtain ⟨sp2, rfl⟩ : ∃ q : Nat, p2 = (q : Int) := ⟨p2.toNat, by omega⟩
      obtain ⟨lsp2, hlsp2⟩ : ∃ q, (A.1 sp2).length = q := ⟨_, rfl⟩
      have hqsp2 : lsp2 ≤ 256 := by rw [← hlsp2]; exact hM.1.len (by omega)
      have hbvsp2 : lb (rv (A.1 sp2)) 128 := rv_lb (hM.1.by (by omega)) (hM.1.len (by omega))
      obtain ⟨kx, rfl⟩ : ∃ q : Nat, p0 = (q : Int) := ⟨p0.toNat, by omega⟩
      obtain ⟨P, hPe⟩ : ∃ q, A.2.2.1 kx = q := ⟨_, rfl⟩
      obtain ⟨K, hKe⟩ : ∃ q, A.2.2.2 kx = q := ⟨_, rfl⟩
      have hK : KM σ kx P K := by rw [← hPe, ← hKe]; exact hM.1.2.2.2.2 kx (by omega)
      have hk16 := hM.1.2.2.2.1
      have hPP := hK.1
      have hkb : ∀ j, j < P → lb (K j) 64 := fun j hj => by have := (hK.2.2.1 j hj).2.1; exact nby_lb this
      have hK0 := hK.2.2.2
      have hKn := (hK.2.2.1 0 (by omega)).2.1
      have hKn1 := nby_pos hK0
      have hKnb : nby (K 0) = (blen (K 0) + 7) / 8 := rfl
      have hblK := blen_pos hK0
      refine v_aload_n hX 0 rfl (atL dAX8_part_0 10 rfl) ?_
      refine v_iload_n hX 2 rfl (atL dAX8_part_0 11 rfl) ?_
      refine v_if_lt hX ⟨by omega, by omega⟩ (tgt := 29) (atL dAX8_part_0 12 rfl) (by decide) (fun h20 => ?_) (fun h20 => ?_)
      · refine v_iconst hX (atL dAX8_part_0 16 rfl) ?_
        refine v_goto hX (tgt := 34) (atL dAX8_part_0 17 rfl) (by decide) ?_
        refine v_callV hX (As := [.int (iI (1))]) (rest := []) (c_X8_bad (xl X) w s2 hk0 1 (by decide)) lk_X8_244 hk0 (fun _ => rfl) rfl rfl rfl (by rw [hR]; exact ⟨Nat.le_of_ble_eq_true rfl, Nat.le_of_ble_eq_true rfl⟩) ⟨Nat.zero_le _, Nat.zero_le _⟩ rfl (Nat.le_of_ble_eq_true rfl) (atL dAX8_part_0 19 rfl) (fun r3 s3 g3 => ?_)
        obtain ⟨gs3, ht3, hG3, hA3, hD3⟩ := bad_use g3 (by omega) hG2 hA2 hD2
        subst gs3
        show V X _ w _ _ s3 [.int (iI (1))]
        refine v_if_eq hX ⟨by omega, by omega⟩ (tgt := 42) (atL dAX8_part_0 20 rfl) (by decide) (fun h37 => absurd h37 (by omega)) (fun h37 => ?_)
        refine v_iconst hX (atL dAX8_part_0 21 rfl) ?_
        exact v_iret hX (atL dAX8_part_0 22 rfl) (hret _ _ ⟨A, by rw [show s3 10 0 0 = 2 by omega]; unfold f_part; rw [if_neg (by omega), if_pos (by omega)], hM.same hG3 hA3 hD3, hG3.fc⟩)
      · refine v_iload_n hX 2 rfl (atL dAX8_part_0 13 rfl) ?_
        refine v_bipush hX (by decide +kernel) (atL dAX8_part_0 14 rfl) ?_
        refine v_icmp_le hX ⟨by omega, by omega⟩ ⟨by omega, by omega⟩ (tgt := 33) (atL dAX8_part_0 15 rfl) (by decide) (fun h26 => ?_) (fun h26 => ?_)
        · refine v_iconst hX (atL dAX8_part_0 18 rfl) ?_
          refine v_callV hX (As := [.int (iI (0))]) (rest := []) (c_X8_bad (xl X) w s2 hk0 0 (by decide)) lk_X8_244 hk0 (fun _ => rfl) rfl rfl rfl (by rw [hR]; exact ⟨Nat.le_of_ble_eq_true rfl, Nat.le_of_ble_eq_true rfl⟩) ⟨Nat.zero_le _, Nat.zero_le _⟩ rfl (Nat.le_of_ble_eq_true rfl) (atL dAX8_part_0 19 rfl) (fun r4 s4 g4 => ?_)
          obtain ⟨gs4, ht4, hG4, hA4, hD4⟩ := bad_use g4 (by omega) hG2 hA2 hD2
          subst gs4
          show V X _ w _ _ s4 [.int (iI (0))]
          refine v_if_eq hX ⟨by omega, by omega⟩ (tgt := 42) (atL dAX8_part_0 20 rfl) (by decide) (fun h37 => ?_) (fun h37 => absurd h37 (by omega))
          obtain ⟨j1, rfl⟩ : ∃ q : Nat, p1 = (q : Int) := ⟨p1.toNat, by omega⟩
          refine v_iload_n hX 2 rfl (atL dAX8_part_0 23 rfl) ?_
          refine v_iconst hX (atL dAX8_part_0 24 rfl) ?_
          refine v_icmp_le hX ⟨by omega, by omega⟩ ⟨by omega, by omega⟩ (tgt := 59) (atL dAX8_part_0 25 rfl) (by decide) (fun h44 => ?_) (fun h44 => ?_)
          · refine v_aload_n hX 0 rfl (atL dAX8_part_0 33 rfl) ?_
            refine v_iload_n hX 1 rfl (atL dAX8_part_0 34 rfl) ?_
            refine v_iload_n hX 2 rfl (atL dAX8_part_0 35 rfl) ?_
            refine v_aload_n hX 0 rfl (atL dAX8_part_0 36 rfl) ?_
            refine gf_X8_80 hX hk0 (atL dAX8_part_0 37 rfl) ?_
            refine v_callV hX (As := [.int (iI ((kx : Int))), .int (iI ((j1 : Int))), .ref (w.1 14 18)]) (rest := []) (c_X8_kept (xl X) w s4 hk0 kx (by omega) P K (hK.fg hG4) j1 (by omega) 18 (hQ 18 (by simp [mn, tp])) (hA4 18)) lk_X8_373 hk0 (fun _ => rfl) rfl rfl rfl (by rw [hR]; exact ⟨Nat.le_of_ble_eq_true rfl, Nat.le_of_ble_eq_true rfl⟩) ⟨Nat.zero_le _, Nat.zero_le _⟩ rfl (Nat.le_of_ble_eq_true rfl) (atL dAX8_part_0 38 rfl) (fun _ s5 e5 => ?_)
            obtain ⟨hw5, hf5⟩ := e5
            have hA5 := hA4.one hf5 hw5
            have hG5 := hG4.fr hf5 rfl (by decide)
            have hD5 := hD4.fr hf5 (by decide) (by decide) (by decide)
            have ht5 : s5 10 0 0 = 0 := by rw [hf5 10 0 (by decide)]; omega
            show V X _ w _ _ s5 []
            refine v_aload_n hX 0 rfl (atL dAX8_part_0 39 rfl) ?_
            refine v_aload_n hX 0 rfl (atL dAX8_part_0 40 rfl) ?_
            refine gf_X8_80 hX hk0 (atL dAX8_part_0 41 rfl) ?_
            refine v_iload_n hX 3 rfl (atL dAX8_part_0 42 rfl) ?_
            refine v_callV hX (As := [.ref (w.1 14 18), .int (iI ((sp2 : Int)))]) (rest := []) (c_X8_writesNumber (xl X) w s5 hk0 18 (K j1) (hQ 18 (by simp [mn, tp])) hw5 sp2 (by omega)) lk_X8_275 hk0 (fun _ => rfl) rfl rfl rfl (by rw [hR]; exact ⟨Nat.le_of_ble_eq_true rfl, Nat.le_of_ble_eq_true rfl⟩) ⟨Nat.zero_le _, Nat.zero_le _⟩ rfl (Nat.le_of_ble_eq_true rfl) (atL dAX8_part_0 43 rfl) (fun r6 s6 e6 => ?_)
            show V X _ w _ _ s6 [.int (iI (r6))]
            exact v_iret hX (atL dAX8_part_0 44 rfl) (hret _ _ (wn_post (t := sp2) (v := K j1) (by unfold f_part; simp only [Int.toNat_natCast, hPe, hKe]; rw [if_neg (by omega), if_neg (by omega), if_neg (by omega)]) hM hG5 hA5 hD5 (by omega) (by omega) e6))
          · refine v_aload_n hX 0 rfl (atL dAX8_part_0 26 rfl) ?_
            refine gf_X8_122 hX hk0 (atL dAX8_part_0 27 rfl) ?_
            refine v_iload_n hX 1 rfl (atL dAX8_part_0 28 rfl) ?_
            obtain ⟨ow, how⟩ : ∃ q : Int, (if P = 8 then 1 else 0) = q := ⟨_, rfl⟩
            have hwo : (ow = 1 ∧ P = 8) ∨ (ow = 0 ∧ P = 2) := by rcases hPP with e | e <;> subst e <;> simp at how <;> omega
            refine v_zald hX (r := iI (ow)) kx (hcl 13 0 hk0 (17, 0) (by simp [mn, tp])) (fun _ => rfl) rfl (show kx < 16 by omega) (by decide) (congrArg iI ((hK.fg hG4).2.1.trans how)) (atL dAX8_part_0 29 rfl) ?_
            refine v_if_ne hX ⟨by omega, by omega⟩ (tgt := 59) (atL dAX8_part_0 30 rfl) (by decide) (fun h53 => ?_) (fun h53 => ?_)
            · refine v_aload_n hX 0 rfl (atL dAX8_part_0 33 rfl) ?_
              refine v_iload_n hX 1 rfl (atL dAX8_part_0 34 rfl) ?_
              refine v_iload_n hX 2 rfl (atL dAX8_part_0 35 rfl) ?_
              refine v_aload_n hX 0 rfl (atL dAX8_part_0 36 rfl) ?_
              refine gf_X8_80 hX hk0 (atL dAX8_part_0 37 rfl) ?_
              refine v_callV hX (As := [.int (iI ((kx : Int))), .int (iI ((j1 : Int))), .ref (w.1 14 18)]) (rest := []) (c_X8_kept (xl X) w s4 hk0 kx (by omega) P K (hK.fg hG4) j1 (by omega) 18 (hQ 18 (by simp [mn, tp])) (hA4 18)) lk_X8_373 hk0 (fun _ => rfl) rfl rfl rfl (by rw [hR]; exact ⟨Nat.le_of_ble_eq_true rfl, Nat.le_of_ble_eq_true rfl⟩) ⟨Nat.zero_le _, Nat.zero_le _⟩ rfl (Nat.le_of_ble_eq_true rfl) (atL dAX8_part_0 38 rfl) (fun _ s7 e7 => ?_)
              obtain ⟨hw7, hf7⟩ := e7
              have hA7 := hA4.one hf7 hw7
              have hG7 := hG4.fr hf7 rfl (by decide)
              have hD7 := hD4.fr hf7 (by decide) (by decide) (by decide)
              have ht7 : s7 10 0 0 = 0 := by rw [hf7 10 0 (by decide)]; omega
              show V X _ w _ _ s7 []
              refine v_aload_n hX 0 rfl (atL dAX8_part_0 39 rfl) ?_
              refine v_aload_n hX 0 rfl (atL dAX8_part_0 40 rfl) ?_
              refine gf_X8_80 hX hk0 (atL dAX8_part_0 41 rfl) ?_
              refine v_iload_n hX 3 rfl (atL dAX8_part_0 42 rfl) ?_
              refine v_callV hX (As := [.ref (w.1 14 18), .int (iI ((sp2 : Int)))]) (rest := []) (c_X8_writesNumber (xl X) w s7 hk0 18 (K j1) (hQ 18 (by simp [mn, tp])) hw7 sp2 (by omega)) lk_X8_275 hk0 (fun _ => rfl) rfl rfl rfl (by rw [hR]; exact ⟨Nat.le_of_ble_eq_true rfl, Nat.le_of_ble_eq_true rfl⟩) ⟨Nat.zero_le _, Nat.zero_le _⟩ rfl (Nat.le_of_ble_eq_true rfl) (atL dAX8_part_0 43 rfl) (fun r8 s8 e8 => ?_)
              show V X _ w _ _ s8 [.int (iI (r8))]
              exact v_iret hX (atL dAX8_part_0 44 rfl) (hret _ _ (wn_post (t := sp2) (v := K j1) (by unfold f_part; simp only [Int.toNat_natCast, hPe, hKe]; rw [if_neg (by omega), if_neg (by omega), if_neg (by omega)]) hM hG7 hA7 hD7 (by omega) (by omega) e8))
            · refine v_bipush hX (by decide +kernel) (atL dAX8_part_0 31 rfl) ?_
              exact v_iret hX (atL dAX8_part_0 32 rfl) (hret _ _ ⟨A, by rw [show s4 10 0 0 = 0 by omega]; unfold f_part; simp only [Int.toNat_natCast, hPe, hKe]; rw [if_neg (by omega), if_neg (by omega), if_pos (by omega)], hM.same hG4 hA4 hD4, hG4.fc⟩)
        · refine v_iconst hX (atL dAX8_part_0 16 rfl) ?_
          refine v_goto hX (tgt := 34) (atL dAX8_part_0 17 rfl) (by decide) ?_
          refine v_callV hX (As := [.int (iI (1))]) (rest := []) (c_X8_bad (xl X) w s2 hk0 1 (by decide)) lk_X8_244 hk0 (fun _ => rfl) rfl rfl rfl (by rw [hR]; exact ⟨Nat.le_of_ble_eq_true rfl, Nat.le_of_ble_eq_true rfl⟩) ⟨Nat.zero_le _, Nat.zero_le _⟩ rfl (Nat.le_of_ble_eq_true rfl) (atL dAX8_part_0 19 rfl) (fun r9 s9 g9 => ?_)
          obtain ⟨gs9, ht9, hG9, hA9, hD9⟩ := bad_use g9 (by omega) hG2 hA2 hD2
          subst gs9
          show V X _ w _ _ s9 [.int (iI (1))]
          refine v_if_eq hX ⟨by omega, by omega⟩ (tgt := 42) (atL dAX8_part_0 20 rfl) (by decide) (fun h37 => absurd h37 (by omega)) (fun h37 => ?_)
          refine v_iconst hX (atL dAX8_part_0 21 rfl) ?_
          exact v_iret hX (atL dAX8_part_0 22 rfl) (hret _ _ ⟨A, by rw [show s9 10 0 0 = 2 by omega]; unfold f_part; rw [if_neg (by omega), if_pos (by omega)], hM.same hG9 hA9 hD9, hG9.fc⟩)

set_option maxHeartbeats 1000000 in
set_option maxRecDepth 100000 in
theorem c_X8_turn [Gh] (l : Launch) (w : Wl) (σ : St) (hk0 : w.2 13 0) (A : Ab) (hM : HM σ A) (p0 : Int) (hp0 : rI p0) (p1 : Int) (hp1 : rI p1) (p2 : Int) (hp2 : rI p2) (p3 : Int) (hp3 : rI p3) : Cn l yX8_turn cX8_turn 5 (Option.some Jvm.ClassFile.FieldType.int) 6 152 wI [.ref (w.1 13 0), .int (iI (p0)), .int (iI (p1)), .int (iI (p2)), .int (iI (p3))] w σ (fun a σ' => ∃ A', f_turn A p0 p1 p2 p3 = (σ' 10 0 0, a, A') ∧ HM σ' A' ∧ FC σ σ') := by
  refine Cn.of (own := RX8) (lv := [(0, .ref (w.1 13 0)), (1, .int (iI (p0))), (2, .int (iI (p1))), (3, .int (iI (p2))), (4, .int (iI (p3)))]) (by decide +kernel) rfl (Nat.le_of_ble_eq_true rfl) rfl (fun X hX hxl hR hcl hret => ?_)
  subst hxl
  have hQ : ∀ q, (14, q) ∈ mn σ 13 0 → w.2 14 q := fun q h => hcl 13 0 hk0 (14, q) h
  have hQ5 : ∀ q, (14, q) ∈ mn σ 13 0 → w.2 15 q := fun q h => hcl 14 q (hQ q h) (15, q) (by simp [mn, tp])
  have hQ16 : ∀ q, (16, q) ∈ mn σ 13 0 → w.2 16 q := fun q h => hcl 13 0 hk0 (16, q) h
  have hp0a := hp0.1
  have hp0b := hp0.2
  have hp1a := hp1.1
  have hp1b := hp1.2
  have hp2a := hp2.1
  have hp2b := hp2.2
  have hp3a := hp3.1
  have hp3b := hp3.2
  refine v_aload_n hX 0 rfl (atL dAX8_turn_0 0 rfl) ?_
  refine v_iload_n hX 3 rfl (atL dAX8_turn_0 1 rfl) ?_
  refine v_iload hX 4 rfl (atL dAX8_turn_0 2 rfl) ?_
  refine v_iload hX 4 rfl (atL dAX8_turn_0 3 rfl) ?_
  refine v_callV hX (As := [.int (iI (p2)), .int (iI (p3)), .int (iI (p3))]) (rest := []) (c_X8_are (xl X) w σ hk0 p2 hp2 p3 hp3 p3 hp3) lk_X8_240 hk0 (fun _ => rfl) rfl rfl rfl (by rw [hR]; exact ⟨Nat.le_of_ble_eq_true rfl, Nat.le_of_ble_eq_true rfl⟩) ⟨Nat.zero_le _, Nat.zero_le _⟩ rfl (Nat.le_of_ble_eq_true rfl) (atL dAX8_turn_0 4 rfl) (fun r1 s1 g1 => ?_)
  obtain ⟨gs1, ht1, hG1, hA1, hD1⟩ := are_use g1 FG.rf hM.2.1 hM.2.2
  have gd1 : r1 = 0 ∨ r1 = 1 := by rcases gs1 with q | q <;> omega
  show V X _ w _ _ s1 [.int (iI (r1))]
  refine v_if_eq hX ⟨by omega, by omega⟩ (tgt := 41) (atL dAX8_turn_0 5 rfl) (by decide) (fun h9 => ?_) (fun h9 => ?_)
  · refine v_iconst hX (atL dAX8_turn_0 21 rfl) ?_
    exact v_iret hX (atL dAX8_turn_0 22 rfl) (hret _ _ ⟨A, by rw [show s1 10 0 0 = 1 by omega]; unfold f_turn; rw [if_pos (by omega)], hM.same hG1 hA1 hD1, hG1.fc⟩)
  · refine v_aload_n hX 0 rfl (atL dAX8_turn_0 6 rfl) ?_
    refine v_iload_n hX 1 rfl (atL dAX8_turn_0 7 rfl) ?_
    refine v_callV hX (As := [.int (iI (p0))]) (rest := []) (c_X8_isKey (xl X) w s1 hk0 p0 hp0 A.2.1 (hM.1.fg hG1).2.2.1 hM.1.2.2.2.1) lk_X8_370 hk0 (fun _ => rfl) rfl rfl rfl (by rw [hR]; exact ⟨Nat.le_of_ble_eq_true rfl, Nat.le_of_ble_eq_true rfl⟩) ⟨Nat.zero_le _, Nat.zero_le _⟩ rfl (Nat.le_of_ble_eq_true rfl) (atL dAX8_turn_0 8 rfl) (fun r2 s2 g2 => ?_)
    obtain ⟨gs2, ht2, hG2, hA2, hD2⟩ := iss_use g2 (by omega) hG1 hA1 hD1
    have gd2 : r2 = 0 ∨ r2 = 1 := by rcases gs2 with q | q <;> omega
    show V X _ w _ _ s2 [.int (iI (r2))]
    refine v_if_eq hX ⟨by omega, by omega⟩ (tgt := 41) (atL dAX8_turn_0 9 rfl) (by decide) (fun h17 => ?_) (fun h17 => ?_)
    · refine v_iconst hX (atL dAX8_turn_0 21 rfl) ?_
      exact v_iret hX (atL dAX8_turn_0 22 rfl) (hret _ _ ⟨A, by rw [show s2 10 0 0 = 1 by omega]; unfold f_turn; rw [if_pos (by omega)], hM.same hG2 hA2 hD2, hG2.fc⟩)
    · obtain ⟨sp2, rfl⟩ : ∃ q : Nat, p2 = (q : Int) := ⟨p2.toNat, by omega⟩
      obtain ⟨sp3, rfl⟩ : ∃ q : Nat, p3 = (q : Int) := ⟨p3.toNat, by omega⟩
      obtain ⟨lsp2, hlsp2⟩ : ∃ q, (A.1 sp2).length = q := ⟨_, rfl⟩
      have hqsp2 : lsp2 ≤ 256 := by rw [← hlsp2]; exact hM.1.len (by omega)
      have hbvsp2 : lb (rv (A.1 sp2)) 128 := rv_lb (hM.1.by (by omega)) (hM.1.len (by omega))
      obtain ⟨lsp3, hlsp3⟩ : ∃ q, (A.1 sp3).length = q := ⟨_, rfl⟩
      have hqsp3 : lsp3 ≤ 256 := by rw [← hlsp3]; exact hM.1.len (by omega)
      have hbvsp3 : lb (rv (A.1 sp3)) 128 := rv_lb (hM.1.by (by omega)) (hM.1.len (by omega))
      obtain ⟨kx, rfl⟩ : ∃ q : Nat, p0 = (q : Int) := ⟨p0.toNat, by omega⟩
      obtain ⟨P, hPe⟩ : ∃ q, A.2.2.1 kx = q := ⟨_, rfl⟩
      obtain ⟨K, hKe⟩ : ∃ q, A.2.2.2 kx = q := ⟨_, rfl⟩
      have hK : KM σ kx P K := by rw [← hPe, ← hKe]; exact hM.1.2.2.2.2 kx (by omega)
      have hk16 := hM.1.2.2.2.1
      have hPP := hK.1
      have hkb : ∀ j, j < P → lb (K j) 64 := fun j hj => by have := (hK.2.2.1 j hj).2.1; exact nby_lb this
      have hK0 := hK.2.2.2
      have hKn := (hK.2.2.1 0 (by omega)).2.1
      have hKn1 := nby_pos hK0
      have hKnb : nby (K 0) = (blen (K 0) + 7) / 8 := rfl
      have hblK := blen_pos hK0
      refine v_aload_n hX 0 rfl (atL dAX8_turn_0 10 rfl) ?_
      refine v_iload_n hX 2 rfl (atL dAX8_turn_0 11 rfl) ?_
      refine v_if_lt hX ⟨by omega, by omega⟩ (tgt := 30) (atL dAX8_turn_0 12 rfl) (by decide) (fun h22 => ?_) (fun h22 => ?_)
      · refine v_iconst hX (atL dAX8_turn_0 16 rfl) ?_
        refine v_goto hX (tgt := 35) (atL dAX8_turn_0 17 rfl) (by decide) ?_
        refine v_callV hX (As := [.int (iI (1))]) (rest := []) (c_X8_bad (xl X) w s2 hk0 1 (by decide)) lk_X8_244 hk0 (fun _ => rfl) rfl rfl rfl (by rw [hR]; exact ⟨Nat.le_of_ble_eq_true rfl, Nat.le_of_ble_eq_true rfl⟩) ⟨Nat.zero_le _, Nat.zero_le _⟩ rfl (Nat.le_of_ble_eq_true rfl) (atL dAX8_turn_0 19 rfl) (fun r3 s3 g3 => ?_)
        obtain ⟨gs3, ht3, hG3, hA3, hD3⟩ := bad_use g3 (by omega) hG2 hA2 hD2
        subst gs3
        show V X _ w _ _ s3 [.int (iI (1))]
        refine v_if_eq hX ⟨by omega, by omega⟩ (tgt := 43) (atL dAX8_turn_0 20 rfl) (by decide) (fun h38 => absurd h38 (by omega)) (fun h38 => ?_)
        refine v_iconst hX (atL dAX8_turn_0 21 rfl) ?_
        exact v_iret hX (atL dAX8_turn_0 22 rfl) (hret _ _ ⟨A, by rw [show s3 10 0 0 = 2 by omega]; unfold f_turn; rw [if_neg (by omega), if_pos (by omega)], hM.same hG3 hA3 hD3, hG3.fc⟩)
      · refine v_iload_n hX 2 rfl (atL dAX8_turn_0 13 rfl) ?_
        refine v_iconst hX (atL dAX8_turn_0 14 rfl) ?_
        refine v_icmp_le hX ⟨by omega, by omega⟩ ⟨by omega, by omega⟩ (tgt := 34) (atL dAX8_turn_0 15 rfl) (by decide) (fun h27 => ?_) (fun h27 => ?_)
        · refine v_iconst hX (atL dAX8_turn_0 18 rfl) ?_
          refine v_callV hX (As := [.int (iI (0))]) (rest := []) (c_X8_bad (xl X) w s2 hk0 0 (by decide)) lk_X8_244 hk0 (fun _ => rfl) rfl rfl rfl (by rw [hR]; exact ⟨Nat.le_of_ble_eq_true rfl, Nat.le_of_ble_eq_true rfl⟩) ⟨Nat.zero_le _, Nat.zero_le _⟩ rfl (Nat.le_of_ble_eq_true rfl) (atL dAX8_turn_0 19 rfl) (fun r4 s4 g4 => ?_)
          obtain ⟨gs4, ht4, hG4, hA4, hD4⟩ := bad_use g4 (by omega) hG2 hA2 hD2
          subst gs4
          show V X _ w _ _ s4 [.int (iI (0))]
          refine v_if_eq hX ⟨by omega, by omega⟩ (tgt := 43) (atL dAX8_turn_0 20 rfl) (by decide) (fun h38 => ?_) (fun h38 => absurd h38 (by omega))
          obtain ⟨j1, rfl⟩ : ∃ q : Nat, p1 = (q : Int) := ⟨p1.toNat, by omega⟩
          refine v_iload_n hX 2 rfl (atL dAX8_turn_0 23 rfl) ?_
          refine v_iconst hX (atL dAX8_turn_0 24 rfl) ?_
          refine v_icmp_ne hX ⟨by omega, by omega⟩ ⟨by omega, by omega⟩ (tgt := 60) (atL dAX8_turn_0 25 rfl) (by decide) (fun h45 => ?_) (fun h45 => ?_)
          · refine v_aload_n hX 0 rfl (atL dAX8_turn_0 33 rfl) ?_
            refine v_iload_n hX 3 rfl (atL dAX8_turn_0 34 rfl) ?_
            refine v_aload_n hX 0 rfl (atL dAX8_turn_0 35 rfl) ?_
            refine gf_X8_80 hX hk0 (atL dAX8_turn_0 36 rfl) ?_
            refine v_callV hX (As := [.int (iI ((sp2 : Int))), .ref (w.1 14 18)]) (rest := []) (c_X8_number (xl X) w s4 hk0 sp2 (by omega) (A.1 sp2) ((hM.1.fg hG4).1 sp2 (by omega)).1 (hM.1.by (by omega)) 18 (hQ 18 (by simp [mn, tp])) (hA4 18)) lk_X8_271 hk0 (fun _ => rfl) rfl rfl rfl (by rw [hR]; exact ⟨Nat.le_of_ble_eq_true rfl, Nat.le_of_ble_eq_true rfl⟩) ⟨Nat.zero_le _, Nat.zero_le _⟩ rfl (Nat.le_of_ble_eq_true rfl) (atL dAX8_turn_0 37 rfl) (fun _ s5 e5 => ?_)
            obtain ⟨hw5, hf5⟩ := e5
            have hA5 := hA4.one hf5 hw5
            have hG5 := hG4.fr hf5 rfl (by decide)
            have hD5 := hD4.fr hf5 (by decide) (by decide) (by decide)
            have ht5 : s5 10 0 0 = 0 := by rw [hf5 10 0 (by decide)]; omega
            show V X _ w _ _ s5 []
            refine v_aload_n hX 0 rfl (atL dAX8_turn_0 38 rfl) ?_
            refine v_iload_n hX 1 rfl (atL dAX8_turn_0 39 rfl) ?_
            refine v_iconst hX (atL dAX8_turn_0 40 rfl) ?_
            refine v_aload_n hX 0 rfl (atL dAX8_turn_0 41 rfl) ?_
            refine gf_X8_126 hX hk0 (atL dAX8_turn_0 42 rfl) ?_
            refine v_callV hX (As := [.int (iI ((kx : Int))), .int (iI (0)), .ref (w.1 14 23)]) (rest := []) (c_X8_kept (xl X) w s5 hk0 kx (by omega) P K (hK.fg hG5) 0 (by omega) 23 (hQ 23 (by simp [mn, tp])) (hA5 23)) lk_X8_373 hk0 (fun _ => rfl) rfl rfl rfl (by rw [hR]; exact ⟨Nat.le_of_ble_eq_true rfl, Nat.le_of_ble_eq_true rfl⟩) ⟨Nat.zero_le _, Nat.zero_le _⟩ rfl (Nat.le_of_ble_eq_true rfl) (atL dAX8_turn_0 43 rfl) (fun _ s6 e6 => ?_)
            obtain ⟨hw6, hf6⟩ := e6
            have hA6 := hA5.one hf6 hw6
            have hn6_18 := nm.fr hw5 hf6 (by decide) (by decide)
            have hG6 := hG5.fr hf6 rfl (by decide)
            have hD6 := hD5.fr hf6 (by decide) (by decide) (by decide)
            have ht6 : s6 10 0 0 = 0 := by rw [hf6 10 0 (by decide)]; omega
            show V X _ w _ _ s6 []
            refine v_aload_n hX 0 rfl (atL dAX8_turn_0 44 rfl) ?_
            refine gf_X8_80 hX hk0 (atL dAX8_turn_0 45 rfl) ?_
            refine v_aload_n hX 0 rfl (atL dAX8_turn_0 46 rfl) ?_
            refine gf_X8_126 hX hk0 (atL dAX8_turn_0 47 rfl) ?_
            refine v_callN hX (As := [.ref (w.1 14 23)]) (rest := []) (c_X7_compare (xl X) w s6 18 (rv (A.1 sp2)) (hQ 18 (by simp [mn, tp])) hn6_18 23 (K 0) (hQ 23 (by simp [mn, tp])) hw6) lk_X8_160 (hQ 18 (by simp [mn, tp])) (fun _ => rfl) rfl rfl rfl (by rw [hR]; exact ⟨Nat.le_of_ble_eq_true rfl, Nat.le_of_ble_eq_true rfl⟩) ⟨Nat.zero_le _, Nat.zero_le _⟩ rfl (Nat.le_of_ble_eq_true rfl) (atL dAX8_turn_0 48 rfl) (fun r7 z7 g7 => ?_)
            obtain ⟨ga7, gb7⟩ := g7
            rw [gb7]
            have gc7 : (r7 = -1 ∧ rv (A.1 sp2) < K 0) ∨ (r7 = 0 ∧ rv (A.1 sp2) = K 0) ∨ (r7 = 1 ∧ K 0 < rv (A.1 sp2)) := ord3 ga7
            show V X _ w _ _ s6 [.int (iI (r7))]
            refine v_if_lt hX ⟨by omega, by omega⟩ (tgt := 95) (atL dAX8_turn_0 49 rfl) (by decide) (fun h90 => ?_) (fun h90 => ?_)
            · refine v_aload_n hX 0 rfl (atL dAX8_turn_0 52 rfl) ?_
              refine v_iload_n hX 1 rfl (atL dAX8_turn_0 53 rfl) ?_
              refine v_iload_n hX 2 rfl (atL dAX8_turn_0 54 rfl) ?_
              refine v_iconst hX (atL dAX8_turn_0 55 rfl) ?_
              refine v_iadd hX (iI_add _ _) (atL dAX8_turn_0 56 rfl) ?_
              rw [show (((j1 : Int)) + 1) = ((1 + j1 : Nat) : Int) from (by omega)]
              refine v_aload_n hX 0 rfl (atL dAX8_turn_0 57 rfl) ?_
              refine gf_X8_80 hX hk0 (atL dAX8_turn_0 58 rfl) ?_
              refine v_callV hX (As := [.int (iI ((kx : Int))), .int (iI (((1 + j1 : Nat) : Int))), .ref (w.1 14 18)]) (rest := []) (c_X8_turns (xl X) w s6 hk0 hA6 kx (by omega) P K (hK.fg hG6) (1 + j1) (by omega) (rv (A.1 sp2)) hn6_18 hbvsp2) lk_X8_377 hk0 (fun _ => rfl) rfl rfl rfl (by rw [hR]; exact ⟨Nat.le_of_ble_eq_true rfl, Nat.le_of_ble_eq_true rfl⟩) ⟨Nat.zero_le _, Nat.zero_le _⟩ rfl (Nat.le_of_ble_eq_true rfl) (atL dAX8_turn_0 59 rfl) (fun _ s8 e8 => ?_)
              obtain ⟨hr8, hA8, hS8⟩ := e8
              have hG8 := FS.fg hG6 hS8
              have hD8 := FS.dg hD6 hS8
              have ht8 : s8 10 0 0 = 0 := by rw [hS8.2 0 (by decide)]; omega
              show V X _ w _ _ s8 []
              refine v_aload_n hX 0 rfl (atL dAX8_turn_1 0 rfl) ?_
              refine v_iload hX 4 rfl (atL dAX8_turn_1 1 rfl) ?_
              refine v_callV hX (As := [.int (iI ((sp3 : Int)))]) (rest := []) (c_X8_writes (xl X) w s8 hk0 (be ((rv (A.1 sp2)) ^ K (1 + j1) % K 0) (nby (K 0))) hr8 (by rw [(be_len : (be ((rv (A.1 sp2)) ^ K (1 + j1) % K 0) (nby (K 0))).length = nby (K 0))]; omega) sp3 (by omega)) lk_X8_257 hk0 (fun _ => rfl) rfl rfl rfl (by rw [hR]; exact ⟨Nat.le_of_ble_eq_true rfl, Nat.le_of_ble_eq_true rfl⟩) ⟨Nat.zero_le _, Nat.zero_le _⟩ rfl (Nat.le_of_ble_eq_true rfl) (atL dAX8_turn_1 2 rfl) (fun r9 s9 e9 => ?_)
              show V X _ w _ _ s9 [.int (iI (r9))]
              exact v_iret hX (atL dAX8_turn_1 3 rfl) (hret _ _ (wr_post (t := sp3) (M := be ((rv (A.1 sp2)) ^ K (1 + j1) % K 0) (nby (K 0))) (by unfold f_turn; simp only [Int.toNat_natCast, hPe, hKe]; rw [if_neg (by omega), if_neg (by omega), if_neg (by omega), if_neg (by omega)]; rw [be_len]; rfl) be_by hM hG8 hA8 hD8 (by omega) (by omega) e9))
            · refine v_iconst hX (atL dAX8_turn_0 50 rfl) ?_
              exact v_iret hX (atL dAX8_turn_0 51 rfl) (hret _ _ ⟨A, by rw [show s6 10 0 0 = 0 by omega]; unfold f_turn; simp only [Int.toNat_natCast, hPe, hKe]; rw [if_neg (by omega), if_neg (by omega), if_neg (by omega), if_pos (by omega)], hM.same hG6 hA6 hD6, hG6.fc⟩)
          · refine v_aload_n hX 0 rfl (atL dAX8_turn_0 26 rfl) ?_
            refine gf_X8_122 hX hk0 (atL dAX8_turn_0 27 rfl) ?_
            refine v_iload_n hX 1 rfl (atL dAX8_turn_0 28 rfl) ?_
            obtain ⟨ow, how⟩ : ∃ q : Int, (if P = 8 then 1 else 0) = q := ⟨_, rfl⟩
            have hwo : (ow = 1 ∧ P = 8) ∨ (ow = 0 ∧ P = 2) := by rcases hPP with e | e <;> subst e <;> simp at how <;> omega
            refine v_zald hX (r := iI (ow)) kx (hcl 13 0 hk0 (17, 0) (by simp [mn, tp])) (fun _ => rfl) rfl (show kx < 16 by omega) (by decide) (congrArg iI ((hK.fg hG4).2.1.trans how)) (atL dAX8_turn_0 29 rfl) ?_
            refine v_if_ne hX ⟨by omega, by omega⟩ (tgt := 60) (atL dAX8_turn_0 30 rfl) (by decide) (fun h54 => ?_) (fun h54 => ?_)
            · refine v_aload_n hX 0 rfl (atL dAX8_turn_0 33 rfl) ?_
              refine v_iload_n hX 3 rfl (atL dAX8_turn_0 34 rfl) ?_
              refine v_aload_n hX 0 rfl (atL dAX8_turn_0 35 rfl) ?_
              refine gf_X8_80 hX hk0 (atL dAX8_turn_0 36 rfl) ?_
              refine v_callV hX (As := [.int (iI ((sp2 : Int))), .ref (w.1 14 18)]) (rest := []) (c_X8_number (xl X) w s4 hk0 sp2 (by omega) (A.1 sp2) ((hM.1.fg hG4).1 sp2 (by omega)).1 (hM.1.by (by omega)) 18 (hQ 18 (by simp [mn, tp])) (hA4 18)) lk_X8_271 hk0 (fun _ => rfl) rfl rfl rfl (by rw [hR]; exact ⟨Nat.le_of_ble_eq_true rfl, Nat.le_of_ble_eq_true rfl⟩) ⟨Nat.zero_le _, Nat.zero_le _⟩ rfl (Nat.le_of_ble_eq_true rfl) (atL dAX8_turn_0 37 rfl) (fun _ s10 e10 => ?_)
              obtain ⟨hw10, hf10⟩ := e10
              have hA10 := hA4.one hf10 hw10
              have hG10 := hG4.fr hf10 rfl (by decide)
              have hD10 := hD4.fr hf10 (by decide) (by decide) (by decide)
              have ht10 : s10 10 0 0 = 0 := by rw [hf10 10 0 (by decide)]; omega
              show V X _ w _ _ s10 []
              refine v_aload_n hX 0 rfl (atL dAX8_turn_0 38 rfl) ?_
              refine v_iload_n hX 1 rfl (atL dAX8_turn_0 39 rfl) ?_
              refine v_iconst hX (atL dAX8_turn_0 40 rfl) ?_
              refine v_aload_n hX 0 rfl (atL dAX8_turn_0 41 rfl) ?_
              refine gf_X8_126 hX hk0 (atL dAX8_turn_0 42 rfl) ?_
              refine v_callV hX (As := [.int (iI ((kx : Int))), .int (iI (0)), .ref (w.1 14 23)]) (rest := []) (c_X8_kept (xl X) w s10 hk0 kx (by omega) P K (hK.fg hG10) 0 (by omega) 23 (hQ 23 (by simp [mn, tp])) (hA10 23)) lk_X8_373 hk0 (fun _ => rfl) rfl rfl rfl (by rw [hR]; exact ⟨Nat.le_of_ble_eq_true rfl, Nat.le_of_ble_eq_true rfl⟩) ⟨Nat.zero_le _, Nat.zero_le _⟩ rfl (Nat.le_of_ble_eq_true rfl) (atL dAX8_turn_0 43 rfl) (fun _ s11 e11 => ?_)
              obtain ⟨hw11, hf11⟩ := e11
              have hA11 := hA10.one hf11 hw11
              have hn11_18 := nm.fr hw10 hf11 (by decide) (by decide)
              have hG11 := hG10.fr hf11 rfl (by decide)
              have hD11 := hD10.fr hf11 (by decide) (by decide) (by decide)
              have ht11 : s11 10 0 0 = 0 := by rw [hf11 10 0 (by decide)]; omega
              show V X _ w _ _ s11 []
              refine v_aload_n hX 0 rfl (atL dAX8_turn_0 44 rfl) ?_
              refine gf_X8_80 hX hk0 (atL dAX8_turn_0 45 rfl) ?_
              refine v_aload_n hX 0 rfl (atL dAX8_turn_0 46 rfl) ?_
              refine gf_X8_126 hX hk0 (atL dAX8_turn_0 47 rfl) ?_
              refine v_callN hX (As := [.ref (w.1 14 23)]) (rest := []) (c_X7_compare (xl X) w s11 18 (rv (A.1 sp2)) (hQ 18 (by simp [mn, tp])) hn11_18 23 (K 0) (hQ 23 (by simp [mn, tp])) hw11) lk_X8_160 (hQ 18 (by simp [mn, tp])) (fun _ => rfl) rfl rfl rfl (by rw [hR]; exact ⟨Nat.le_of_ble_eq_true rfl, Nat.le_of_ble_eq_true rfl⟩) ⟨Nat.zero_le _, Nat.zero_le _⟩ rfl (Nat.le_of_ble_eq_true rfl) (atL dAX8_turn_0 48 rfl) (fun r12 z12 g12 => ?_)
              obtain ⟨ga12, gb12⟩ := g12
              rw [gb12]
              have gc12 : (r12 = -1 ∧ rv (A.1 sp2) < K 0) ∨ (r12 = 0 ∧ rv (A.1 sp2) = K 0) ∨ (r12 = 1 ∧ K 0 < rv (A.1 sp2)) := ord3 ga12
              show V X _ w _ _ s11 [.int (iI (r12))]
              refine v_if_lt hX ⟨by omega, by omega⟩ (tgt := 95) (atL dAX8_turn_0 49 rfl) (by decide) (fun h90 => ?_) (fun h90 => ?_)
              · refine v_aload_n hX 0 rfl (atL dAX8_turn_0 52 rfl) ?_
                refine v_iload_n hX 1 rfl (atL dAX8_turn_0 53 rfl) ?_
                refine v_iload_n hX 2 rfl (atL dAX8_turn_0 54 rfl) ?_
                refine v_iconst hX (atL dAX8_turn_0 55 rfl) ?_
                refine v_iadd hX (iI_add _ _) (atL dAX8_turn_0 56 rfl) ?_
                rw [show (((j1 : Int)) + 1) = ((1 + j1 : Nat) : Int) from (by omega)]
                refine v_aload_n hX 0 rfl (atL dAX8_turn_0 57 rfl) ?_
                refine gf_X8_80 hX hk0 (atL dAX8_turn_0 58 rfl) ?_
                refine v_callV hX (As := [.int (iI ((kx : Int))), .int (iI (((1 + j1 : Nat) : Int))), .ref (w.1 14 18)]) (rest := []) (c_X8_turns (xl X) w s11 hk0 hA11 kx (by omega) P K (hK.fg hG11) (1 + j1) (by omega) (rv (A.1 sp2)) hn11_18 hbvsp2) lk_X8_377 hk0 (fun _ => rfl) rfl rfl rfl (by rw [hR]; exact ⟨Nat.le_of_ble_eq_true rfl, Nat.le_of_ble_eq_true rfl⟩) ⟨Nat.zero_le _, Nat.zero_le _⟩ rfl (Nat.le_of_ble_eq_true rfl) (atL dAX8_turn_0 59 rfl) (fun _ s13 e13 => ?_)
                obtain ⟨hr13, hA13, hS13⟩ := e13
                have hG13 := FS.fg hG11 hS13
                have hD13 := FS.dg hD11 hS13
                have ht13 : s13 10 0 0 = 0 := by rw [hS13.2 0 (by decide)]; omega
                show V X _ w _ _ s13 []
                refine v_aload_n hX 0 rfl (atL dAX8_turn_1 0 rfl) ?_
                refine v_iload hX 4 rfl (atL dAX8_turn_1 1 rfl) ?_
                refine v_callV hX (As := [.int (iI ((sp3 : Int)))]) (rest := []) (c_X8_writes (xl X) w s13 hk0 (be ((rv (A.1 sp2)) ^ K (1 + j1) % K 0) (nby (K 0))) hr13 (by rw [(be_len : (be ((rv (A.1 sp2)) ^ K (1 + j1) % K 0) (nby (K 0))).length = nby (K 0))]; omega) sp3 (by omega)) lk_X8_257 hk0 (fun _ => rfl) rfl rfl rfl (by rw [hR]; exact ⟨Nat.le_of_ble_eq_true rfl, Nat.le_of_ble_eq_true rfl⟩) ⟨Nat.zero_le _, Nat.zero_le _⟩ rfl (Nat.le_of_ble_eq_true rfl) (atL dAX8_turn_1 2 rfl) (fun r14 s14 e14 => ?_)
                show V X _ w _ _ s14 [.int (iI (r14))]
                exact v_iret hX (atL dAX8_turn_1 3 rfl) (hret _ _ (wr_post (t := sp3) (M := be ((rv (A.1 sp2)) ^ K (1 + j1) % K 0) (nby (K 0))) (by unfold f_turn; simp only [Int.toNat_natCast, hPe, hKe]; rw [if_neg (by omega), if_neg (by omega), if_neg (by omega), if_neg (by omega)]; rw [be_len]; rfl) be_by hM hG13 hA13 hD13 (by omega) (by omega) e14))
              · refine v_iconst hX (atL dAX8_turn_0 50 rfl) ?_
                exact v_iret hX (atL dAX8_turn_0 51 rfl) (hret _ _ ⟨A, by rw [show s11 10 0 0 = 0 by omega]; unfold f_turn; simp only [Int.toNat_natCast, hPe, hKe]; rw [if_neg (by omega), if_neg (by omega), if_neg (by omega), if_pos (by omega)], hM.same hG11 hA11 hD11, hG11.fc⟩)
            · refine v_bipush hX (by decide +kernel) (atL dAX8_turn_0 31 rfl) ?_
              exact v_iret hX (atL dAX8_turn_0 32 rfl) (hret _ _ ⟨A, by rw [show s4 10 0 0 = 0 by omega]; unfold f_turn; simp only [Int.toNat_natCast, hPe, hKe]; rw [if_neg (by omega), if_neg (by omega), if_pos (by omega)], hM.same hG4 hA4 hD4, hG4.fc⟩)
        · refine v_iconst hX (atL dAX8_turn_0 16 rfl) ?_
          refine v_goto hX (tgt := 35) (atL dAX8_turn_0 17 rfl) (by decide) ?_
          refine v_callV hX (As := [.int (iI (1))]) (rest := []) (c_X8_bad (xl X) w s2 hk0 1 (by decide)) lk_X8_244 hk0 (fun _ => rfl) rfl rfl rfl (by rw [hR]; exact ⟨Nat.le_of_ble_eq_true rfl, Nat.le_of_ble_eq_true rfl⟩) ⟨Nat.zero_le _, Nat.zero_le _⟩ rfl (Nat.le_of_ble_eq_true rfl) (atL dAX8_turn_0 19 rfl) (fun r15 s15 g15 => ?_)
          obtain ⟨gs15, ht15, hG15, hA15, hD15⟩ := bad_use g15 (by omega) hG2 hA2 hD2
          subst gs15
          show V X _ w _ _ s15 [.int (iI (1))]
          refine v_if_eq hX ⟨by omega, by omega⟩ (tgt := 43) (atL dAX8_turn_0 20 rfl) (by decide) (fun h38 => absurd h38 (by omega)) (fun h38 => ?_)
          refine v_iconst hX (atL dAX8_turn_0 21 rfl) ?_
          exact v_iret hX (atL dAX8_turn_0 22 rfl) (hret _ _ ⟨A, by rw [show s15 10 0 0 = 2 by omega]; unfold f_turn; rw [if_neg (by omega), if_pos (by omega)], hM.same hG15 hA15 hD15, hG15.fc⟩)
