/-- the padded message -/
def pmL (M : List Nat) : List Nat := M ++ [128] ++ List.replicate (64 * nbl M - 9 - M.length) 0 ++ be (8 * M.length) 8
theorem nbl_ge (M : List Nat) : M.length + 9 ≤ 64 * nbl M ∧ 64 * nbl M < M.length + 9 + 64 := by unfold nbl; omega
theorem pmL_len {M : List Nat} : (pmL M).length = 64 * nbl M := by
  have := nbl_ge M
  unfold pmL
  simp only [List.length_append, List.length_cons, List.length_nil, List.length_replicate, be_len]
  omega
theorem be_get {v n j : Nat} (h : j < n) : (be v n).getD j 0 = v / 256 ^ (n - 1 - j) % 256 := by
  unfold be beP
  simp [List.getD, h]
theorem pm_get {M : List Nat} (hM : M.length ≤ 600) {p : Nat} (hp : p + 4 < 64 * nbl M + 0) (hp2 : p < 64 * nbl M - 4) : (pmL M).getD p 0 = pbt M p := by
  have hn := nbl_ge M
  unfold pmL pbt
  simp only [gD_app, gD_one, gD_rep, List.length_append, List.length_cons, List.length_nil, List.length_replicate]
  by_cases c1 : p = M.length
  · rw [if_pos c1, if_pos (by omega), if_pos (by omega), if_neg (by omega), if_pos (by omega)]
  · rw [if_neg c1]
    by_cases c2 : p < M.length
    · rw [if_pos (by omega), if_pos (by omega), if_pos c2]
    · rw [gD_out (Nat.le_of_not_lt c2)]
      by_cases c3 : p < M.length + (0 + 1) + (64 * nbl M - 9 - M.length)
      · rw [if_pos c3, if_neg (by omega), if_pos (by omega)]
      · rw [if_neg c3, be_get (by omega)]
        have h4 : (256 : Nat) ^ 4 ≤ 256 ^ (8 - 1 - (p - (M.length + (0 + 1) + (64 * nbl M - 9 - M.length)))) := Nat.pow_le_pow_right (by omega) (by omega)
        rw [Nat.div_eq_of_lt (by omega)]
theorem pm_last {M : List Nat} {j : Nat} (hj : j < 4) : (pmL M).getD (64 * nbl M - 4 + j) 0 = 8 * M.length / 256 ^ (3 - j) % 256 := by
  have hn := nbl_ge M
  unfold pmL
  simp only [gD_app, List.length_append, List.length_cons, List.length_nil, List.length_replicate]
  rw [if_neg (by omega), be_get (by omega)]
  congr 3
  omega
theorem wd4_le {x : Nat} (hx : x < 16777216) : wd4 (x / 256 ^ 3 % 256) (x / 256 ^ 2 % 256) (x / 256 ^ 1 % 256) (x / 256 ^ 0 % 256) = iI (x : Int) := by
  unfold wd4
  obtain ⟨a, ha⟩ : ∃ q, x / 256 ^ 2 % 256 = q := ⟨_, rfl⟩
  obtain ⟨b, hb⟩ : ∃ q, x / 256 ^ 1 % 256 = q := ⟨_, rfl⟩
  obtain ⟨c, hc⟩ : ∃ q, x / 256 ^ 0 % 256 = q := ⟨_, rfl⟩
  have h0 : x / 256 ^ 3 % 256 = 0 := by omega
  rw [h0, ha, hb, hc]
  have e1 : iI ((0 : Nat) * 16777216 : Int) ||| iI ((a : Int) * 65536) = iI ((a * 65536 : Nat) : Int) := by
    have := iI_or (a := a * 65536) (b := 0) (k := 24) (by omega) ⟨0, rfl⟩ (by omega)
    rw [Nat.zero_add] at this
    exact this
  have e2 : iI ((a * 65536 : Nat) : Int) ||| iI ((b : Int) * 256) = iI ((a * 65536 + b * 256 : Nat) : Int) := iI_or (a := b * 256) (b := a * 65536) (k := 16) (by omega) ⟨a, by omega⟩ (by omega)
  have e3 : iI ((a * 65536 + b * 256 : Nat) : Int) ||| iI ((c : Nat) : Int) = iI ((a * 65536 + b * 256 + c : Nat) : Int) := iI_or (a := c) (b := a * 65536 + b * 256) (k := 8) (by omega) ⟨a * 256 + b, by omega⟩ (by omega)
  rw [e1, e2, e3]
  congr 1
  omega
theorem wdd_blk {M : List Nat} (hM : M.length ≤ 600) {b k : Nat} (hb : b < nbl M) (hk : k < 16) : wdd (pmL M) (64 * b) k = blk M (64 * b) (b + 1 = nbl M) k := by
  unfold blk
  by_cases c : b + 1 = nbl M ∧ k = 15
  · rw [if_pos c]
    obtain ⟨c1, rfl⟩ := c
    have e := wd4_le (x := 8 * M.length) (by omega)
    unfold wdd
    rw [show 64 * b + 4 * 15 + 1 = 64 * nbl M - 4 + 1 by omega, show 64 * b + 4 * 15 + 2 = 64 * nbl M - 4 + 2 by omega, show 64 * b + 4 * 15 + 3 = 64 * nbl M - 4 + 3 by omega, show 64 * b + 4 * 15 = 64 * nbl M - 4 + 0 by omega, pm_last (by omega), pm_last (by omega), pm_last (by omega), pm_last (by omega)]
    refine e.trans (congrArg iI ?_)
    omega
  · rw [if_neg c]
    unfold wdd wdm
    have h1 : 64 * b + 4 * k + 3 < 64 * nbl M - 4 := by
      by_cases d : b + 1 = nbl M
      · have : k ≠ 15 := fun e => c ⟨d, e⟩
        omega
      · omega
    rw [pm_get hM (by omega) (by omega), pm_get hM (by omega) (by omega), pm_get hM (by omega) (by omega), pm_get hM (by omega) (by omega)]
theorem comp_congr {b b' st st' : Nat → Int32} (h : ∀ k, k < 16 → b k = b' k) (hs : ∀ j, j < 8 → st j = st' j) {j : Nat} (hj : j < 8) : comp b st j = comp b' st' j := by
  unfold comp
  rw [hs j hj, rnds_congr hs (fun _ _ => rfl) (fun q _ => sch_congr h q) 64 (Nat.le_refl _) j hj]
theorem dby_us (v : Int) {j : Nat} (hj : j < 4) : v % 4294967296 / ((2 ^ (24 - 8 * j) : Nat) : Int) % 256 = ((dby (iI v) j : Nat) : Int) := by
  have h1 : (iI v).toInt % 4294967296 = v % 4294967296 := by
    have e := congrArg (fun x : Int32 => x.toBitVec.toNat) (iI_of (iI v))
    rw [iI_bv, iI_bv] at e
    omega
  unfold dby
  generalize (iI v).toInt = x at h1
  rcases (show j = 0 ∨ j = 1 ∨ j = 2 ∨ j = 3 by omega) with rfl | rfl | rfl | rfl
  · show v % 4294967296 / 16777216 % 256 = (((x / 16777216 % 256).toNat : Nat) : Int)
    omega
  · show v % 4294967296 / 65536 % 256 = (((x / 65536 % 256).toNat : Nat) : Int)
    omega
  · show v % 4294967296 / 256 % 256 = (((x / 256 % 256).toNat : Nat) : Int)
    omega
  · show v % 4294967296 / 1 % 256 = (((x / 1 % 256).toNat : Nat) : Int)
    omega
def DLs : List (Nat × Nat) := (10, 0) :: (13, 4) :: (13, 5) :: (13, 6) :: (13, 7) :: (13, 8) :: (13, 9) :: RLs
/-- what digesting changes -/
def FDg (σ s : St) : Prop := Fr DLs σ s ∧ ∀ j, j ≠ 3 → j ≠ 4 → s 10 0 j = σ 10 0 j
theorem FDg.fr {σ s t : St} {l : List (Nat × Nat)} (h : FDg σ s) (f : Fr l s t) (hl : l.all (fun q => decide (q ∈ DLs)) = true) (h0 : (10, 0) ∉ l) : FDg σ t := ⟨h.1.tr' (f.mono (fun q hq => by have := List.all_eq_true.mp hl q hq; simpa using this)), fun j h3 h4 => by rw [f 10 0 h0]; exact h.2 j h3 h4⟩
theorem FDg.fd {σ s t : St} (h : FDg σ s) (f : FD s t) : FDg σ t := ⟨h.1.tr' (f.1.mono (by decide)), fun j h3 h4 => (f.2 j h3).trans (h.2 j h3 h4)⟩
theorem CK.fr {s t : St} {l : List (Nat × Nat)} (h : CK s) (f : Fr l s t) (h0 : (10, 0) ∉ l) (h7 : (13, 7) ∉ l) (h8 : (13, 8) ∉ l) : CK t := by
  unfold CK
  rw [f 10 0 h0, f 13 7 h7, f 13 8 h8]
  exact h
theorem CK.fd {s t : St} (h : CK s) (f : FD s t) : CK t := by
  unfold CK
  rw [f.2 4 (by decide), f.1 13 7 (by decide), f.1 13 8 (by decide)]
  exact h

theorem hl_32 (h : Int) : hl h ≤ 32 := by unfold hl; split <;> omega
set_option maxHeartbeats 1000000 in
set_option maxRecDepth 100000 in
theorem c_X8_digests [Gh] (l : Launch) (w : Wl) (σ : St) (hk0 : w.2 13 0) (h19 : ∀ q, w.2 19 q → q < 4096) (hC : CO σ) (h : Int) (hh : isH h) (M : List Nat) (hM : RD σ M) (hM6 : M.length ≤ 600) : Cm l yX8_digests cX8_digests 4 none 3 79 (kap σ * 10360) (kap σ * 103600) wN [.ref (w.1 13 0), .int (iI (h))] w σ (fun _ σ' => AW (σ' 13 5) 0 (sha h M) ∧ σ' 10 0 3 = 0 ∧ CK σ' ∧ FDg σ σ') := by
  refine Cm.of (own := RX8) (lv := [(0, .ref (w.1 13 0)), (1, .int (iI (h)))]) (by decide +kernel) rfl (Nat.le_of_ble_eq_true rfl) rfl (fun X hX hxl hR hcl hret => ?_)
  subst hxl
  have hQ : ∀ q, (14, q) ∈ mn σ 13 0 → w.2 14 q := fun q h => hcl 13 0 hk0 (14, q) h
  have hQ5 : ∀ q, (14, q) ∈ mn σ 13 0 → w.2 15 q := fun q h => hcl 14 q (hQ q h) (15, q) (by simp [mn, tp])
  have hQ16 : ∀ q, (16, q) ∈ mn σ 13 0 → w.2 16 q := fun q h => hcl 13 0 hk0 (16, q) h
  obtain ⟨n, hn⟩ : ∃ q, M.length = q := ⟨_, rfl⟩
  have hnb := nbl_ge M
  rw [hn] at hnb
  obtain ⟨N, hN⟩ : ∃ q, nbl M = q := ⟨_, rfl⟩
  rw [hN] at hnb
  have hhr : rI h := by rcases hh with e | e <;> rw [e] <;> exact ⟨by omega, by omega⟩
  refine v_aload_n hX 0 rfl (atL dAX8_digests_0 0 rfl) ?_
  refine v_callVM hX (As := []) (rest := []) (c_X8_constants (xl X) w σ hk0 h19 hC) lk_X8_323 hk0 (fun _ => rfl) rfl rfl rfl (by rw [hR]; exact ⟨Nat.le_of_ble_eq_true rfl, Nat.le_of_ble_eq_true rfl⟩) (by rw [hR]; exact ⟨Nat.le_of_eq (Nat.zero_add _), Nat.le_of_eq (Nat.zero_add _)⟩) rfl (Nat.le_of_ble_eq_true rfl) (atL dAX8_digests_0 1 rfl) (fun _ t0 e0 => ?_)
  obtain ⟨hck, hf0, hj0⟩ := e0
  have hz0 : (((0, 0) : Nat × Nat).1 + kap σ * 10360, ((0, 0) : Nat × Nat).2 + kap σ * 103600).1 ≤ kap σ * 10360 ∧ (((0, 0) : Nat × Nat).1 + kap σ * 10360, ((0, 0) : Nat × Nat).2 + kap σ * 103600).2 ≤ kap σ * 103600 := ⟨by show 0 + _ ≤ _; omega, by show 0 + _ ≤ _; omega⟩
  generalize (((0, 0) : Nat × Nat).1 + kap σ * 10360, ((0, 0) : Nat × Nat).2 + kap σ * 103600) = z0 at hz0 ⊢
  have hd0 : RD t0 M := by unfold RD; rw [hj0 3 (by decide), hf0 13 4 (by decide)]; exact hM
  have hF0 : FDg σ t0 := ⟨hf0.mono (by decide), fun j _ h4 => hj0 j h4⟩
  have hd01 := hd0.1
  rw [hn] at hd01
  show V X _ w _ _ t0 []
  refine v_aload_n hX 0 rfl (atL dAX8_digests_0 2 rfl) ?_
  refine gf_X8_299 hX (v := (n : Int)) (hd01) hk0 (atL dAX8_digests_0 3 rfl) ?_
  refine v_istore_n hX (i := 2) rfl (lv' := [(2, .int (iI ((n : Int)))), (0, .ref (w.1 13 0)), (1, .int (iI (h)))]) (Nat.le_of_ble_eq_true rfl) rfl (atL dAX8_digests_0 4 rfl) ?_
  refine v_aload_n hX 1 rfl (atL dAX8_digests_0 5 rfl) ?_
  refine v_sipush hX (by decide +kernel) (atL dAX8_digests_0 6 rfl) ?_
  refine v_callV hX (As := [.int (iI (128))]) (rest := []) (c_X8_says (xl X) w t0 hk0 M hd0 (by simp only [List.length_append, List.length_cons, List.length_nil, List.length_replicate, beP_ln, hn]; omega) 128) lk_X8_326 hk0 (fun _ => rfl) rfl rfl rfl (by rw [hR]; exact ⟨Nat.le_of_ble_eq_true rfl, Nat.le_of_ble_eq_true rfl⟩) (by rw [hR]; exact hz0) rfl (Nat.le_of_ble_eq_true rfl) (atL dAX8_digests_0 7 rfl) (fun _ t1 et1 => ?_)
  obtain ⟨hrt1, hgt1⟩ := et1
  show V X _ w _ _ t1 []
  have L5 : ∀ (d q : Nat) (t : St), q + d = 32 → (∀ j, j < 8 → wm t 9 j = shas h M N j) → (∀ j, j < q → t 13 5 j = ((dby (shas h M N (j / 4)) (j % 4) : Nat) : Int)) → CK t → FDg σ t → V X z0 w 118 [(3, .int (iI ((q : Int)))), (2, .int (iI ((n : Int)))), (0, .ref (w.1 13 0)), (1, .int (iI (h)))] t [] := by
    intro d
    induction d with
    | zero =>
      intro q t hq h9 h5 hc hF
      obtain rfl : q = 32 := by omega
      have hfin : AW (su t 10 0 3 0 13 5) 0 (sha h M) := by
        refine AW.of (fun j hj => ?_)
        rw [sha_len] at hj
        have hl := hl_32 h
        rw [su_c (by decide), h5 j (by omega)]
        unfold sha
        simp [List.getD, hj, hN]
      refine v_iload_n hX 0 rfl (atL dAX8_digests_1 5 rfl) ?_
      refine v_bipush hX (by decide +kernel) (atL dAX8_digests_1 6 rfl) ?_
      refine v_icmp_ge hX ⟨by omega, by omega⟩ ⟨by omega, by omega⟩ (tgt := 158) (atL dAX8_digests_1 7 rfl) (by decide) (fun h121 => ?_) (fun h121 => absurd h121 (by omega))
      refine v_aload_n hX 2 rfl (atL dAX8_digests_1 30 rfl) ?_
      refine v_iconst hX (atL dAX8_digests_1 31 rfl) ?_
      refine pf_X8_299 hX hk0 (atL dAX8_digests_1 32 rfl) ?_
      exact v_vret hX (atL dAX8_digests_1 33 rfl) ((hret () _ ⟨hfin, su_s, ⟨by rw [su_j (by decide)]; exact hc.1, fun j hj => by rw [su_c (by decide)]; exact hc.2.1 j hj, fun j hj => by rw [su_c (by decide)]; exact hc.2.2 j hj⟩, ⟨hF.1.tr' (Fr.su (by decide)), fun j h3 h4 => by rw [su_j h3]; exact hF.2 j h3 h4⟩⟩ _ hz0))
    | succ d ih =>
      intro q t hq h9 h5 hc hF
      have h9q := h9 (q / 4) (by omega)
      obtain ⟨v, hv⟩ : ∃ x, t 13 9 (q / 4) = x := ⟨_, rfl⟩
      have hdu := dby_us v (show q % 4 < 4 by omega)
      rw [← hv, show iI (t 13 9 (q / 4)) = wm t 9 (q / 4) from rfl, h9q] at hdu
      rw [hv] at hdu
      obtain ⟨bb, hbb⟩ : ∃ x, dby (shas h M N (q / 4)) (q % 4) = x := ⟨_, rfl⟩
      rw [hbb] at hdu
      refine v_iload_n hX 0 rfl (atL dAX8_digests_1 5 rfl) ?_
      refine v_bipush hX (by decide +kernel) (atL dAX8_digests_1 6 rfl) ?_
      refine v_icmp_ge hX ⟨by omega, by omega⟩ ⟨by omega, by omega⟩ (tgt := 158) (atL dAX8_digests_1 7 rfl) (by decide) (fun h121 => absurd h121 (by omega)) (fun h121 => ?_)
      refine v_aload_n hX 2 rfl (atL dAX8_digests_1 8 rfl) ?_
      refine gf_X8_98 hX hk0 (atL dAX8_digests_1 9 rfl) ?_
      refine v_iload_n hX 0 rfl (atL dAX8_digests_1 10 rfl) ?_
      refine v_aload_n hX 2 rfl (atL dAX8_digests_1 11 rfl) ?_
      refine gf_X8_110 hX hk0 (atL dAX8_digests_1 12 rfl) ?_
      refine v_iload_n hX 0 rfl (atL dAX8_digests_1 13 rfl) ?_
      refine v_iconst hX (atL dAX8_digests_1 14 rfl) ?_
      refine v_idiv hX (fun e0 => absurd ((iI_eq (b := 0) ⟨by omega, by omega⟩ ⟨by omega, by omega⟩).mp e0) (by omega)) (iI_div (by omega) (by omega) (by omega) (by omega)) (atL dAX8_digests_1 15 rfl) ?_
      rw [show (((q : Int)) / 4) = ((q / 4 : Nat) : Int) from (by omega)]
      refine v_iald hX (r := iI (v)) ((q / 4)) (hQ16 9 (by simp [mn, tp])) (fun _ => rfl) rfl (show q / 4 < 8 by omega) (by decide) (congrArg iI hv) (atL dAX8_digests_1 16 rfl) ?_
      refine v_bipush hX (by decide +kernel) (atL dAX8_digests_1 17 rfl) ?_
      refine v_bipush hX (by decide +kernel) (atL dAX8_digests_1 18 rfl) ?_
      refine v_iload_n hX 0 rfl (atL dAX8_digests_1 19 rfl) ?_
      refine v_iconst hX (atL dAX8_digests_1 20 rfl) ?_
      refine v_irem hX (fun e0 => absurd ((iI_eq (b := 0) ⟨by omega, by omega⟩ ⟨by omega, by omega⟩).mp e0) (by omega)) (iI_rem (by omega) (by omega) (by omega) (by omega)) (atL dAX8_digests_1 21 rfl) ?_
      refine v_imul hX (iI_mul _ _) (atL dAX8_digests_1 22 rfl) ?_
      refine v_isub hX (iI_sub _ _) (atL dAX8_digests_1 23 rfl) ?_
      rw [show (24 - (8 * (((q : Int)) % 4))) = ((24 - 8 * (q % 4) : Nat) : Int) from (by omega)]
      refine v_iushr hX (r := iI (v % 4294967296 / ((2 ^ (24 - 8 * (q % 4)) : Nat) : Int))) (ush_by v (24 - 8 * (q % 4)) (by omega) rfl) (atL dAX8_digests_1 24 rfl) ?_
      refine v_sipush hX (by decide +kernel) (atL dAX8_digests_1 25 rfl) ?_
      refine v_iand hX (r := iI ((v % 4294967296 / ((2 ^ (24 - 8 * (q % 4)) : Nat) : Int)) % 256)) (iI_mask _ 8 (by decide)) (atL dAX8_digests_1 26 rfl) ?_
      rw [show ((v % 4294967296 / ((2 ^ (24 - 8 * (q % 4)) : Nat) : Int)) % 256) = (bb : Int) from hdu]
      refine v_iast hX (c := 13) q (hQ16 5 (by simp [mn, tp])) (by decide) (fun _ _ => rfl) rfl (show q < 32 by omega) (by decide) (atL dAX8_digests_1 27 rfl) ?_
      refine v_iinc hX (lv' := [(3, .int (iI (((q : Int)) + 1))), (2, .int (iI ((n : Int)))), (0, .ref (w.1 13 0)), (1, .int (iI (h)))]) 0 rfl (iI_add _ _) (Nat.le_of_ble_eq_true rfl) rfl (atL dAX8_digests_1 28 rfl) ?_
      refine v_goto hX (tgt := 118) (atL dAX8_digests_1 29 rfl) (by decide) ?_
      refine v_sub (lv' := [(3, .int (iI (((q : Int)) + 1))), (2, .int (iI ((n : Int)))), (0, .ref (w.1 13 0)), (1, .int (iI (h)))]) [0, 1, 2, 3] rfl ?_
      rw [show (q : Int) + 1 = ((q + 1 : Nat) : Int) by omega]
      refine ih (q + 1) _ (by omega) (fun j hj => by rw [wm_i (by decide)]; exact h9 j hj) (fun j hj => ?_) (hc.fr (Fr.su (l := [(13, 5)]) (by simp)) (by decide) (by decide) (by decide)) (hF.fr (Fr.su (l := [(13, 5)]) (by simp)) (by decide) (by decide))
      by_cases e : j = q
      · rw [e, su_s, hbb]
      · rw [su_j e]; exact h5 j (by omega)
  have L4 : ∀ (d b : Nat) (t : St), b + d = N → (∀ j, j < 8 → wm t 9 j = shas h M b j) → RD t (pmL M) → CK t → FDg σ t → V X z0 w 97 [(3, .int (iI (((64 * b : Nat) : Int)))), (2, .int (iI ((n : Int)))), (0, .ref (w.1 13 0)), (1, .int (iI (h)))] t [] := by
    intro d
    induction d with
    | zero =>
      intro b t hb h9 hr hc hF
      have hr1 := hr.1
      rw [pmL_len, hN] at hr1
      obtain rfl : b = N := by omega
      refine v_iload_n hX 0 rfl (atL dAX8_digests_0 54 rfl) ?_
      refine v_aload_n hX 2 rfl (atL dAX8_digests_0 55 rfl) ?_
      refine gf_X8_299 hX (v := ((64 * b : Nat) : Int)) (hr1) hk0 (atL dAX8_digests_0 56 rfl) ?_
      refine v_icmp_ge hX ⟨by omega, by omega⟩ ⟨by omega, by omega⟩ (tgt := 116) (atL dAX8_digests_0 57 rfl) (by decide) (fun h102 => ?_) (fun h102 => absurd h102 (by omega))
      refine v_iconst hX (atL dAX8_digests_1 3 rfl) ?_
      refine v_istore_n hX (i := 3) rfl (lv' := [(3, .int (iI (0))), (2, .int (iI ((n : Int)))), (0, .ref (w.1 13 0)), (1, .int (iI (h)))]) (Nat.le_of_ble_eq_true rfl) rfl (atL dAX8_digests_1 4 rfl) ?_
      refine v_sub (lv' := [(3, .int (iI (0))), (2, .int (iI ((n : Int)))), (0, .ref (w.1 13 0)), (1, .int (iI (h)))]) [0, 1, 2, 3] rfl ?_
      exact L5 32 0 t (by omega) h9 (fun j hj => absurd hj (by omega)) hc hF
    | succ d ih =>
      intro b t hb h9 hr hc hF
      have hr1 := hr.1
      rw [pmL_len, hN] at hr1
      refine v_iload_n hX 0 rfl (atL dAX8_digests_0 54 rfl) ?_
      refine v_aload_n hX 2 rfl (atL dAX8_digests_0 55 rfl) ?_
      refine gf_X8_299 hX (v := ((64 * N : Nat) : Int)) (hr1) hk0 (atL dAX8_digests_0 56 rfl) ?_
      refine v_icmp_ge hX ⟨by omega, by omega⟩ ⟨by omega, by omega⟩ (tgt := 116) (atL dAX8_digests_0 57 rfl) (by decide) (fun h102 => absurd h102 (by omega)) (fun h102 => ?_)
      refine v_aload_n hX 2 rfl (atL dAX8_digests_0 58 rfl) ?_
      refine v_iload_n hX 0 rfl (atL dAX8_digests_0 59 rfl) ?_
      refine v_callV hX (As := [.int (iI (((64 * b : Nat) : Int)))]) (rest := []) (c_X8_block (xl X) w t hk0 (pmL M) (AW.of (fun j hj => hr.2 j hj)) (by rw [pmL_len, hN]; omega) (64 * b) (by rw [pmL_len, hN]; omega) hc.2.1) lk_X8_336 hk0 (fun _ => rfl) rfl rfl rfl (by rw [hR]; exact ⟨Nat.le_of_ble_eq_true rfl, Nat.le_of_ble_eq_true rfl⟩) (by rw [hR]; exact hz0) rfl (Nat.le_of_ble_eq_true rfl) (atL dAX8_digests_1 0 rfl) (fun _ t2 e2 => ?_)
      obtain ⟨h92, hf2⟩ := e2
      show V X _ w _ _ t2 []
      refine v_iinc hX (lv' := [(3, .int (iI ((((64 * b : Nat) : Int)) + 64))), (2, .int (iI ((n : Int)))), (0, .ref (w.1 13 0)), (1, .int (iI (h)))]) 0 rfl (iI_add _ _) (Nat.le_of_ble_eq_true rfl) rfl (atL dAX8_digests_1 1 rfl) ?_
      refine v_goto hX (tgt := 97) (atL dAX8_digests_1 2 rfl) (by decide) ?_
      refine v_sub (lv' := [(3, .int (iI ((((64 * b : Nat) : Int)) + 64))), (2, .int (iI ((n : Int)))), (0, .ref (w.1 13 0)), (1, .int (iI (h)))]) [0, 1, 2, 3] rfl ?_
      rw [show ((64 * b : Nat) : Int) + 64 = ((64 * (b + 1) : Nat) : Int) by omega]
      refine ih (b + 1) t2 (by omega) (fun j hj => ?_) (by unfold RD; rw [hf2 10 0 (by decide), hf2 13 4 (by decide)]; exact hr) (hc.fr hf2 (by decide) (by decide) (by decide)) (hF.fr hf2 (by decide) (by decide))
      rw [h92 j hj]
      exact comp_congr (fun q hq => wdd_blk (by omega) (by omega) hq) h9 hj
  have L3 : ∀ (d q : Nat) (t : St), q + d = 8 → (∀ j, j < q → wm t 9 j = sha0 h j) → RD t (pmL M) → CK t → FDg σ t → V X z0 w 71 [(3, .int (iI ((q : Int)))), (2, .int (iI ((n : Int)))), (0, .ref (w.1 13 0)), (1, .int (iI (h)))] t [] := by
    intro d
    induction d with
    | zero =>
      intro q t hq h9 hr hc hF
      obtain rfl : q = 8 := by omega
      refine v_iload_n hX 0 rfl (atL dAX8_digests_0 39 rfl) ?_
      refine v_bipush hX (by decide +kernel) (atL dAX8_digests_0 40 rfl) ?_
      refine v_icmp_ge hX ⟨by omega, by omega⟩ ⟨by omega, by omega⟩ (tgt := 95) (atL dAX8_digests_0 41 rfl) (by decide) (fun h74 => ?_) (fun h74 => absurd h74 (by omega))
      refine v_iconst hX (atL dAX8_digests_0 52 rfl) ?_
      refine v_istore_n hX (i := 3) rfl (lv' := [(3, .int (iI (0))), (2, .int (iI ((n : Int)))), (0, .ref (w.1 13 0)), (1, .int (iI (h)))]) (Nat.le_of_ble_eq_true rfl) rfl (atL dAX8_digests_0 53 rfl) ?_
      refine v_sub (lv' := [(3, .int (iI (0))), (2, .int (iI ((n : Int)))), (0, .ref (w.1 13 0)), (1, .int (iI (h)))]) [0, 1, 2, 3] rfl ?_
      exact L4 N 0 t (by omega) h9 hr hc hF
    | succ d ih =>
      intro q t hq h9 hr hc hF
      refine v_iload_n hX 0 rfl (atL dAX8_digests_0 39 rfl) ?_
      refine v_bipush hX (by decide +kernel) (atL dAX8_digests_0 40 rfl) ?_
      refine v_icmp_ge hX ⟨by omega, by omega⟩ ⟨by omega, by omega⟩ (tgt := 95) (atL dAX8_digests_0 41 rfl) (by decide) (fun h74 => absurd h74 (by omega)) (fun h74 => ?_)
      refine v_aload_n hX 2 rfl (atL dAX8_digests_0 42 rfl) ?_
      refine gf_X8_110 hX hk0 (atL dAX8_digests_0 43 rfl) ?_
      refine v_iload_n hX 0 rfl (atL dAX8_digests_0 44 rfl) ?_
      refine v_aload_n hX 2 rfl (atL dAX8_digests_0 45 rfl) ?_
      refine v_iload_n hX 3 rfl (atL dAX8_digests_0 46 rfl) ?_
      refine v_iload_n hX 0 rfl (atL dAX8_digests_0 47 rfl) ?_
      refine v_callV hX (As := [.int (iI (h)), .int (iI ((q : Int)))]) (rest := [.int (iI ((q : Int))), .ref (w.1 16 9)]) (c_X8_begins (xl X) w t hk0 h hhr q (by omega) hc.2.2) lk_X8_333 hk0 (fun _ => rfl) rfl rfl rfl (by rw [hR]; exact ⟨Nat.le_of_ble_eq_true rfl, Nat.le_of_ble_eq_true rfl⟩) (by rw [hR]; exact hz0) rfl (Nat.le_of_ble_eq_true rfl) (atL dAX8_digests_0 48 rfl) (fun a1 z1 g1 => ?_)
      obtain ⟨g1a, g1b⟩ := g1
      rw [g1b]
      show V X _ w _ _ t [.int (iI (a1)), .int (iI ((q : Int))), .ref (w.1 16 9)]
      refine v_iast hX (c := 13) q (hQ16 9 (by simp [mn, tp])) (by decide) (fun _ _ => rfl) rfl (show q < 8 by omega) (by decide) (atL dAX8_digests_0 49 rfl) ?_
      refine v_iinc hX (lv' := [(3, .int (iI (((q : Int)) + 1))), (2, .int (iI ((n : Int)))), (0, .ref (w.1 13 0)), (1, .int (iI (h)))]) 0 rfl (iI_add _ _) (Nat.le_of_ble_eq_true rfl) rfl (atL dAX8_digests_0 50 rfl) ?_
      refine v_goto hX (tgt := 71) (atL dAX8_digests_0 51 rfl) (by decide) ?_
      refine v_sub (lv' := [(3, .int (iI (((q : Int)) + 1))), (2, .int (iI ((n : Int)))), (0, .ref (w.1 13 0)), (1, .int (iI (h)))]) [0, 1, 2, 3] rfl ?_
      rw [show (q : Int) + 1 = ((q + 1 : Nat) : Int) by omega]
      refine ih (q + 1) _ (by omega) (fun j hj => ?_) (by unfold RD; rw [su_c (by decide), su_ri (by decide)]; exact hr) (hc.fr (Fr.su (l := [(13, 9)]) (by simp)) (by decide) (by decide) (by decide)) (hF.fr (Fr.su (l := [(13, 9)]) (by simp)) (by decide) (by decide))
      by_cases e : j = q
      · rw [e]; show iI (su t 13 9 q a1 13 9 q) = _; rw [su_s]; exact g1a
      · rw [wm_j e]; exact h9 j (by omega)
  have L2 : ∀ (kk : Nat) (t : St), kk ≤ 8 → RD t (M ++ [128] ++ List.replicate (64 * N - 9 - n) 0 ++ beP (8 * n) 8 (8 - kk)) → CK t → FDg σ t → V X z0 w 39 [(3, .int (iI ((kk : Int) - 1))), (2, .int (iI ((n : Int)))), (0, .ref (w.1 13 0)), (1, .int (iI (h)))] t [] := by
    intro kk
    induction kk with
    | zero =>
      intro t hk hr hc hF
      refine v_iload_n hX 0 rfl (atL dAX8_digests_0 20 rfl) ?_
      refine v_if_lt hX ⟨by omega, by omega⟩ (tgt := 69) (atL dAX8_digests_0 21 rfl) (by decide) (fun h40 => ?_) (fun h40 => absurd h40 (by omega))
      refine v_iconst hX (atL dAX8_digests_0 37 rfl) ?_
      refine v_istore_n hX (i := 3) rfl (lv' := [(3, .int (iI (0))), (2, .int (iI ((n : Int)))), (0, .ref (w.1 13 0)), (1, .int (iI (h)))]) (Nat.le_of_ble_eq_true rfl) rfl (atL dAX8_digests_0 38 rfl) ?_
      refine v_sub (lv' := [(3, .int (iI (0))), (2, .int (iI ((n : Int)))), (0, .ref (w.1 13 0)), (1, .int (iI (h)))]) [0, 1, 2, 3] rfl ?_
      exact L3 8 0 t (by omega) (fun j hj => absurd hj (by omega)) (by unfold pmL; rw [hN, hn]; exact hr) hc hF
    | succ kk ih =>
      intro t hk hr hc hF
      rw [show ((kk + 1 : Nat) : Int) - 1 = (kk : Int) by omega]
      obtain ⟨bb, hbb⟩ : ∃ q, 8 * n / 256 ^ kk % 256 = q := ⟨_, rfl⟩
      refine v_iload_n hX 0 rfl (atL dAX8_digests_0 20 rfl) ?_
      refine v_if_lt hX ⟨by omega, by omega⟩ (tgt := 69) (atL dAX8_digests_0 21 rfl) (by decide) (fun h40 => absurd h40 (by omega)) (fun h40 => ?_)
      refine v_aload_n hX 2 rfl (atL dAX8_digests_0 22 rfl) ?_
      refine v_ldc2 hX (r := 8) wd_1337 (by decide +kernel) (atL dAX8_digests_0 23 rfl) ?_
      refine v_iload_n hX 1 rfl (atL dAX8_digests_0 24 rfl) ?_
      refine v_i2l hX (iI_i2l ⟨by omega, by omega⟩) (atL dAX8_digests_0 25 rfl) ?_
      refine v_lmul hX (jI_mul _ _) (atL dAX8_digests_0 26 rfl) ?_
      rw [show (8 * ((n : Int))) = ((8 * n : Nat) : Int) from (by omega)]
      refine v_bipush hX (by decide +kernel) (atL dAX8_digests_0 27 rfl) ?_
      refine v_iload_n hX 0 rfl (atL dAX8_digests_0 28 rfl) ?_
      refine v_imul hX (iI_mul _ _) (atL dAX8_digests_0 29 rfl) ?_
      rw [show (8 * ((kk : Int))) = ((8 * kk : Nat) : Int) from (by omega)]
      refine v_lushr hX (r := jI (((8 * n : Nat) : Int) / ((2 ^ (8 * kk) : Nat) : Int))) (jI_ushr (by omega) (by omega) (8 * kk) (by omega)) (atL dAX8_digests_0 30 rfl) ?_
      refine v_ldc2 hX (r := 255) wd_1338 (by decide +kernel) (atL dAX8_digests_0 31 rfl) ?_
      refine v_land hX (r := jI ((((8 * n : Nat) : Int) / ((2 ^ (8 * kk) : Nat) : Int)) % 256)) (jI_mask _ 8 (by decide)) (atL dAX8_digests_0 32 rfl) ?_
      rw [show ((((8 * n : Nat) : Int) / ((2 ^ (8 * kk) : Nat) : Int)) % 256) = (bb : Int) from (by rw [← hbb, p256, Int.natCast_emod, Int.natCast_ediv]; rfl)]
      refine v_l2i hX (jI_l2i _) (atL dAX8_digests_0 33 rfl) ?_
      refine v_callV hX (As := [.int (iI ((bb : Int)))]) (rest := []) (c_X8_says (xl X) w t hk0 (M ++ [128] ++ List.replicate (64 * N - 9 - n) 0 ++ beP (8 * n) 8 (8 - (kk + 1))) hr (by simp only [List.length_append, List.length_cons, List.length_nil, List.length_replicate, beP_ln, hn]; omega) bb) lk_X8_326 hk0 (fun _ => rfl) rfl rfl rfl (by rw [hR]; exact ⟨Nat.le_of_ble_eq_true rfl, Nat.le_of_ble_eq_true rfl⟩) (by rw [hR]; exact hz0) rfl (Nat.le_of_ble_eq_true rfl) (atL dAX8_digests_0 34 rfl) (fun _ t2 et2 => ?_)
      obtain ⟨hrt2, hgt2⟩ := et2
      rw [List.append_assoc, ← hbb, beP_next hk] at hrt2
      show V X _ w _ _ t2 []
      refine v_iinc hX (lv' := [(3, .int (iI (((kk : Int)) + (-1)))), (2, .int (iI ((n : Int)))), (0, .ref (w.1 13 0)), (1, .int (iI (h)))]) 0 rfl (iI_add _ _) (Nat.le_of_ble_eq_true rfl) rfl (atL dAX8_digests_0 35 rfl) ?_
      refine v_goto hX (tgt := 39) (atL dAX8_digests_0 36 rfl) (by decide) ?_
      refine v_sub (lv' := [(3, .int (iI (((kk : Int)) + (-1)))), (2, .int (iI ((n : Int)))), (0, .ref (w.1 13 0)), (1, .int (iI (h)))]) [0, 1, 2, 3] rfl ?_
      rw [show (kk : Int) + (-1) = (kk : Int) - 1 by omega]
      exact ih t2 (by omega) hrt2 (hc.fd hgt2) (hF.fd hgt2)
  have L1 : ∀ (d q : Nat) (t : St), n + 1 + q + d + 8 = 64 * N → d < 64 → RD t (M ++ [128] ++ List.replicate q 0) → CK t → FDg σ t → V X z0 w 16 [(2, .int (iI ((n : Int)))), (0, .ref (w.1 13 0)), (1, .int (iI (h)))] t [] := by
    intro d
    induction d with
    | zero =>
      intro q t hq hd hr hc hF
      have hr1 : t 10 0 3 = ((n + 1 + q : Nat) : Int) := by rw [hr.1]; simp only [List.length_append, List.length_cons, List.length_nil, List.length_replicate, hn]
      refine v_aload_n hX 1 rfl (atL dAX8_digests_0 8 rfl) ?_
      refine gf_X8_299 hX (v := ((n + 1 + q : Nat) : Int)) (hr1) hk0 (atL dAX8_digests_0 9 rfl) ?_
      refine v_bipush hX (by decide +kernel) (atL dAX8_digests_0 10 rfl) ?_
      refine v_irem hX (fun e0 => absurd ((iI_eq (b := 0) ⟨by omega, by omega⟩ ⟨by omega, by omega⟩).mp e0) (by omega)) (iI_rem (by omega) (by omega) (by omega) (by omega)) (atL dAX8_digests_0 11 rfl) ?_
      refine v_bipush hX (by decide +kernel) (atL dAX8_digests_0 12 rfl) ?_
      refine v_icmp_eq hX ⟨by omega, by omega⟩ ⟨by omega, by omega⟩ (tgt := 36) (atL dAX8_digests_0 13 rfl) (by decide) (fun h25 => ?_) (fun h25 => absurd h25 (by omega))
      refine v_bipush hX (by decide +kernel) (atL dAX8_digests_0 18 rfl) ?_
      refine v_istore_n hX (i := 3) rfl (lv' := [(3, .int (iI (7))), (2, .int (iI ((n : Int)))), (0, .ref (w.1 13 0)), (1, .int (iI (h)))]) (Nat.le_of_ble_eq_true rfl) rfl (atL dAX8_digests_0 19 rfl) ?_
      refine v_sub (lv' := [(3, .int (iI (7))), (2, .int (iI ((n : Int)))), (0, .ref (w.1 13 0)), (1, .int (iI (h)))]) [0, 1, 2, 3] rfl ?_
      rw [show (7 : Int) = ((8 : Nat) : Int) - 1 by omega]
      exact L2 8 t (by omega) (by rw [show 64 * N - 9 - n = q by omega]; show RD t (_ ++ []); rw [List.append_nil]; exact hr) hc hF
    | succ d ih =>
      intro q t hq hd hr hc hF
      have hr1 : t 10 0 3 = ((n + 1 + q : Nat) : Int) := by rw [hr.1]; simp only [List.length_append, List.length_cons, List.length_nil, List.length_replicate, hn]
      refine v_aload_n hX 1 rfl (atL dAX8_digests_0 8 rfl) ?_
      refine gf_X8_299 hX (v := ((n + 1 + q : Nat) : Int)) (hr1) hk0 (atL dAX8_digests_0 9 rfl) ?_
      refine v_bipush hX (by decide +kernel) (atL dAX8_digests_0 10 rfl) ?_
      refine v_irem hX (fun e0 => absurd ((iI_eq (b := 0) ⟨by omega, by omega⟩ ⟨by omega, by omega⟩).mp e0) (by omega)) (iI_rem (by omega) (by omega) (by omega) (by omega)) (atL dAX8_digests_0 11 rfl) ?_
      refine v_bipush hX (by decide +kernel) (atL dAX8_digests_0 12 rfl) ?_
      refine v_icmp_eq hX ⟨by omega, by omega⟩ ⟨by omega, by omega⟩ (tgt := 36) (atL dAX8_digests_0 13 rfl) (by decide) (fun h25 => absurd h25 (by omega)) (fun h25 => ?_)
      refine v_aload_n hX 1 rfl (atL dAX8_digests_0 14 rfl) ?_
      refine v_iconst hX (atL dAX8_digests_0 15 rfl) ?_
      refine v_callV hX (As := [.int (iI (0))]) (rest := []) (c_X8_says (xl X) w t hk0 (M ++ [128] ++ List.replicate q 0) hr (by simp only [List.length_append, List.length_cons, List.length_nil, List.length_replicate, beP_ln, hn]; omega) 0) lk_X8_326 hk0 (fun _ => rfl) rfl rfl rfl (by rw [hR]; exact ⟨Nat.le_of_ble_eq_true rfl, Nat.le_of_ble_eq_true rfl⟩) (by rw [hR]; exact hz0) rfl (Nat.le_of_ble_eq_true rfl) (atL dAX8_digests_0 16 rfl) (fun _ t2 et2 => ?_)
      obtain ⟨hrt2, hgt2⟩ := et2
      rw [List.append_assoc, ← List.replicate_succ'] at hrt2
      show V X _ w _ _ t2 []
      refine v_goto hX (tgt := 16) (atL dAX8_digests_0 17 rfl) (by decide) ?_
      refine v_sub (lv' := [(2, .int (iI ((n : Int)))), (0, .ref (w.1 13 0)), (1, .int (iI (h)))]) [0, 1, 2] rfl ?_
      exact ih (q + 1) t2 (by omega) (by omega) hrt2 (hc.fd hgt2) (hF.fd hgt2)
  refine v_sub (lv' := [(2, .int (iI ((n : Int)))), (0, .ref (w.1 13 0)), (1, .int (iI (h)))]) [0, 1, 2] rfl ?_
  exact L1 (64 * N - 9 - n) 0 t1 (by omega) (by omega) (by rw [List.replicate_zero, List.append_nil]; exact hrt1) (hck.fd hgt1) (hF0.fd hgt1)
