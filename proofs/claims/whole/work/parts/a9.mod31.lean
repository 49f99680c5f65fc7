theorem bit_t {R n : Nat} (hR : R < 2 ^ 37) (hn : n ≤ 36) : R / 2 ^ (n + 1) * 2 ^ (n + 1) + 2 ^ n < 2 ^ 37 ∧ (R / 2 ^ (n + 1) * 2 ^ (n + 1) + 2 ^ n ≤ R → R / 2 ^ n * 2 ^ n = R / 2 ^ (n + 1) * 2 ^ (n + 1) + 2 ^ n) ∧ (¬ R / 2 ^ (n + 1) * 2 ^ (n + 1) + 2 ^ n ≤ R → R / 2 ^ n * 2 ^ n = R / 2 ^ (n + 1) * 2 ^ (n + 1)) := by
  have hP : 0 < 2 ^ n := Nat.two_pow_pos n
  obtain ⟨q, hq⟩ : ∃ q, R / 2 ^ n = q := ⟨_, rfl⟩
  have e1 : R / 2 ^ (n + 1) = q / 2 := by rw [Nat.pow_succ, ← Nat.div_div_eq_div_mul, hq]
  have e2 : q / 2 * 2 ^ (n + 1) = q / 2 * 2 * 2 ^ n := by rw [Nat.pow_succ, Nat.mul_comm (2 ^ n) 2, Nat.mul_assoc]
  have h1 : q * 2 ^ n ≤ R := by rw [← hq]; exact Nat.div_mul_le_self R (2 ^ n)
  have h2 : R < (q + 1) * 2 ^ n := by rw [← hq, Nat.mul_comm]; exact Nat.lt_mul_div_succ R hP
  have hql : q < 2 ^ (37 - n) := by
    rw [← hq]
    refine Nat.div_lt_of_lt_mul ?_
    rw [← Nat.pow_add, show n + (37 - n) = 37 by omega]
    exact hR
  have e4 : 2 ^ (37 - n) = 2 * 2 ^ (36 - n) := by rw [show 37 - n = (36 - n) + 1 by omega, Nat.pow_succ, Nat.mul_comm]
  have e5 : 2 ^ (37 - n) * 2 ^ n = 2 ^ 37 := by rw [← Nat.pow_add, show 37 - n + n = 37 by omega]
  rw [e1, e2]
  have e3 : q / 2 * 2 * 2 ^ n + 2 ^ n = (q / 2 * 2 + 1) * 2 ^ n := by rw [Nat.add_mul, Nat.one_mul]
  rw [e3]
  refine ⟨?_, fun h => ?_, fun h => ?_⟩
  · have h3 : (q / 2 * 2 + 1) * 2 ^ n ≤ (2 ^ (37 - n) - 1) * 2 ^ n := Nat.mul_le_mul_right _ (by omega)
    rw [Nat.sub_mul, e5] at h3
    omega
  · have h4 : q / 2 * 2 + 1 < q + 1 := Nat.lt_of_mul_lt_mul_right (Nat.lt_of_le_of_lt h h2)
    rw [show q / 2 * 2 + 1 = q by omega, hq]
  · have h4 : ¬ q / 2 * 2 + 1 ≤ q := fun h5 => h (Nat.le_trans (Nat.mul_le_mul_right _ h5) h1)
    rw [show q / 2 * 2 = q by omega, hq]
theorem pow_cmp {t R n B : Nat} (h1 : R ^ n ≤ B) (h2 : B < (R + 1) ^ n) : t ^ n ≤ B ↔ t ≤ R := by
  constructor
  · intro h
    refine Nat.le_of_not_lt (fun h3 => ?_)
    have := Nat.pow_le_pow_left (show R + 1 ≤ t from h3) n
    omega
  · intro h
    exact Nat.le_trans (Nat.pow_le_pow_left h n) h1
def cbp (p : Nat) : Nat := if p < 8 then 1 else if p < 27 then 2 else if p < 64 then 3 else if p < 125 then 4 else if p < 216 then 5 else 6
def sqp (p : Nat) : Nat := if p < 4 then 1 else if p < 9 then 2 else if p < 16 then 3 else 4
def r3 (k : Nat) : Nat := cbp (pr k) * 4294967296 + ((sT 3).getD k 0 % 4294967296).toNat
def r2 (k : Nat) : Nat := sqp (pr k) * 4294967296 + ((sT 1).getD k 0 % 4294967296).toNat
theorem r3_ok : ∀ k, k < 64 → r3 k ^ 3 ≤ pr k * 2 ^ (32 * 3) ∧ pr k * 2 ^ (32 * 3) < (r3 k + 1) ^ 3 ∧ r3 k < 2 ^ 37 := by decide +kernel
theorem r2_ok : ∀ k, k < 8 → r2 k ^ 2 ≤ pr k * 2 ^ (32 * 2) ∧ pr k * 2 ^ (32 * 2) < (r2 k + 1) ^ 2 ∧ r2 k < 2 ^ 37 := by decide +kernel
theorem r3_kr {k : Nat} : iI (r3 k : Int) = KR k := by
  unfold KR r3
  rw [iI_md, iI_md ((sT 3).getD k 0)]
  congr 1
  omega
theorem r2_st {k : Nat} : iI (r2 k : Int) = sha0 0 k := by
  unfold sha0 r2
  rw [if_pos rfl, iI_md, iI_md ((sT 1).getD k 0)]
  congr 1
  omega
def kap (σ : St) : Nat := if σ 10 0 4 = 1 then 0 else 1
theorem kap_0 {σ : St} (h : σ 10 0 4 = 1) : kap σ = 0 := if_pos h
theorem kap_1 {σ : St} (h : σ 10 0 4 = 0) : kap σ = 1 := if_neg (by rw [h]; decide)
theorem kap_e {σ s : St} (h : s 10 0 4 = σ 10 0 4) : kap s = kap σ := by unfold kap; rw [h]
def CK (σ : St) : Prop := σ 10 0 4 = 1 ∧ (∀ k, k < 64 → iI (σ 13 7 k) = KR k) ∧ ∀ k, k < 8 → iI (σ 13 8 k) = sha0 0 k
def CLs : List (Nat × Nat) := (10, 0) :: (13, 7) :: (13, 8) :: RLs

set_option maxHeartbeats 1000000 in
set_option maxRecDepth 100000 in
theorem c_X8_root (l : Launch) (w : Wl) (σ : St) (h19 : ∀ q, w.2 19 q → q < 4096) (p : Nat) (hp : p < 1000) (of : Nat) (hof : of = 2 ∨ of = 3) (R : Nat) (hR1 : R ^ of ≤ p * 2 ^ (32 * of)) (hR2 : p * 2 ^ (32 * of) < (R + 1) ^ of) (hR : R < 2 ^ 37) : Cm l yX8_root cX8_root 7 (Option.some Jvm.ClassFile.FieldType.int) 1 32 (37 * (of + 1)) (37 * (10 * (of + 1))) wI [.int (iI ((p : Int))), .int (iI ((of : Int)))] w σ (fun a σ' => a = (R : Int) ∧ Fr RLs σ σ') := by
  refine Cm.of (own := RX8) (lv := [(0, .int (iI ((p : Int)))), (1, .int (iI ((of : Int))))]) (by decide +kernel) rfl (Nat.le_of_ble_eq_true rfl) rfl (fun X hX hxl hR0 hcl hret => ?_)
  subst hxl
  have loop : ∀ (n r : Nat) (z : Nat × Nat) (t : St), n ≤ 37 → r = R / 2 ^ n * 2 ^ n → z.1 + n * (of + 1) ≤ 37 * (of + 1) → z.2 + n * (10 * (of + 1)) ≤ 37 * (10 * (of + 1)) → Fr RLs σ t → V X z w 6 [(4, .int (iI ((n : Int) - 1))), (2, .long (jI ((r : Int)))), (0, .int (iI ((p : Int)))), (1, .int (iI ((of : Int))))] t [] := by
    intro n
    induction n with
    | zero =>
      intro r z t hn hr hz1 hz2 hf
      rw [Nat.pow_zero, Nat.div_one, Nat.mul_one] at hr
      subst hr
      refine v_iload hX 0 rfl (atL dAX8_root_0 4 rfl) ?_
      refine v_if_lt hX ⟨by omega, by omega⟩ (tgt := 38) (atL dAX8_root_0 5 rfl) (by decide) (fun h8 => ?_) (fun h8 => absurd h8 (by omega))
      refine v_lload_n hX 1 rfl (atL dAX8_root_0 21 rfl) ?_
      refine v_l2i hX (jI_l2i _) (atL dAX8_root_0 22 rfl) ?_
      exact v_iret hX (atL dAX8_root_0 23 rfl) ((hret _ _ ⟨rfl, hf⟩ _ ⟨by omega, by omega⟩))
    | succ n ih =>
      intro r z t hn hr hz1 hz2 hf
      rw [show ((n + 1 : Nat) : Int) - 1 = (n : Int) by omega]
      obtain ⟨hb1, hb2, hb3⟩ := bit_t hR (show n ≤ 36 by omega)
      rw [← hr] at hb1 hb2 hb3
      have hdv : 2 ^ (n + 1) ∣ r := ⟨R / 2 ^ (n + 1), by rw [hr, Nat.mul_comm]⟩
      obtain ⟨B, hB⟩ : ∃ q, 2 ^ n = q := ⟨_, rfl⟩
      have hBl : B < 2 ^ (n + 1) := by rw [← hB]; exact Nat.pow_lt_pow_right (by omega) (by omega)
      rw [hB] at hb1 hb2 hb3
      rw [Nat.add_mul, Nat.one_mul] at hz1 hz2
      have hcmp := pow_cmp (t := r + B) hR1 hR2
      have hrl : r + B < 137438953472 := hb1
      refine v_iload hX 0 rfl (atL dAX8_root_0 4 rfl) ?_
      refine v_if_lt hX ⟨by omega, by omega⟩ (tgt := 38) (atL dAX8_root_0 5 rfl) (by decide) (fun h8 => absurd h8 (by omega)) (fun h8 => ?_)
      refine v_lload_n hX 1 rfl (atL dAX8_root_0 6 rfl) ?_
      refine v_lconst hX (atL dAX8_root_0 7 rfl) ?_
      show V X _ w _ _ _ (.long (jI (1)) :: _)
      refine v_iload hX 0 rfl (atL dAX8_root_0 8 rfl) ?_
      refine v_lshl hX (r := jI ((B : Int))) ((jI_shl 1 n (by omega)).trans (congrArg jI (show (1 : Int) * ((2 ^ n : Nat) : Int) = (B : Int) by rw [hB]; omega))) (atL dAX8_root_0 9 rfl) ?_
      refine v_lor hX (r := jI (((r + B : Nat) : Int))) (jI_or (k := n + 1) hBl hdv (by omega)) (atL dAX8_root_0 10 rfl) ?_
      refine v_lstore hX (lv' := [(5, .long (jI (((r + B : Nat) : Int)))), (4, .int (iI ((n : Int)))), (2, .long (jI ((r : Int)))), (0, .int (iI ((p : Int)))), (1, .int (iI ((of : Int))))]) (Nat.le_of_ble_eq_true rfl) rfl (atL dAX8_root_0 11 rfl) ?_
      refine v_lload hX 0 rfl (atL dAX8_root_0 12 rfl) ?_
      refine v_iload_n hX 3 rfl (atL dAX8_root_0 13 rfl) ?_
      refine v_iload_n hX 4 rfl (atL dAX8_root_0 14 rfl) ?_
      refine v_callSM hX (As := [.long (jI (((r + B : Nat) : Int))), .int (iI ((p : Int))), .int (iI ((of : Int)))]) (rest := []) (c_X8_isAtMost (xl X) w t h19 (r + B) hb1 p (by omega) of hof) lk_X8_302 rfl (by rw [hR0]; exact ⟨Nat.le_of_ble_eq_true rfl, Nat.le_of_ble_eq_true rfl⟩) (by rw [hR0]; exact ⟨by show _ ≤ 37 * (of + 1); omega, by show _ ≤ 37 * (10 * (of + 1)); omega⟩) rfl (Nat.le_of_ble_eq_true rfl) (atL dAX8_root_0 15 rfl) (fun a1 t2 g1 => ?_)
      obtain ⟨g1a, g1b⟩ := g1
      have g1d : a1 = 0 ∨ a1 = 1 := by rcases g1a with q | q <;> omega
      show V X _ w _ _ t2 [.int (iI (a1))]
      refine v_if_eq hX ⟨by omega, by omega⟩ (tgt := 32) (atL dAX8_root_0 16 rfl) (by decide) (fun h26 => ?_) (fun h26 => ?_)
      · refine v_iinc hX (lv' := [(4, .int (iI (((n : Int)) + (-1)))), (5, .long (jI (((r + B : Nat) : Int)))), (2, .long (jI ((r : Int)))), (0, .int (iI ((p : Int)))), (1, .int (iI ((of : Int))))]) 1 rfl (iI_add _ _) (Nat.le_of_ble_eq_true rfl) rfl (atL dAX8_root_0 19 rfl) ?_
        refine v_goto hX (tgt := 6) (atL dAX8_root_0 20 rfl) (by decide) ?_
        refine v_sub (lv' := [(4, .int (iI (((n : Int)) + (-1)))), (2, .long (jI ((r : Int)))), (0, .int (iI ((p : Int)))), (1, .int (iI ((of : Int))))]) [0, 2, 3, 4] rfl ?_
        rw [show (n : Int) + (-1) = (n : Int) - 1 by omega]
        exact ih _ _ t2 (by omega) (by rw [hB]; exact (hb3 (fun q => g1a.f h26 (hcmp.mpr q))).symm) (by show z.1 + (of + 1) + _ ≤ _; omega) (by show z.2 + 10 * (of + 1) + _ ≤ _; omega) (hf.tr' g1b)
      · refine v_lload hX 0 rfl (atL dAX8_root_0 17 rfl) ?_
        refine v_lstore_n hX (i := 2) rfl (lv' := [(2, .long (jI (((r + B : Nat) : Int)))), (5, .long (jI (((r + B : Nat) : Int)))), (4, .int (iI ((n : Int)))), (0, .int (iI ((p : Int)))), (1, .int (iI ((of : Int))))]) (Nat.le_of_ble_eq_true rfl) rfl (atL dAX8_root_0 18 rfl) ?_
        refine v_iinc hX (lv' := [(4, .int (iI (((n : Int)) + (-1)))), (2, .long (jI (((r + B : Nat) : Int)))), (5, .long (jI (((r + B : Nat) : Int)))), (0, .int (iI ((p : Int)))), (1, .int (iI ((of : Int))))]) 2 rfl (iI_add _ _) (Nat.le_of_ble_eq_true rfl) rfl (atL dAX8_root_0 19 rfl) ?_
        refine v_goto hX (tgt := 6) (atL dAX8_root_0 20 rfl) (by decide) ?_
        refine v_sub (lv' := [(4, .int (iI (((n : Int)) + (-1)))), (2, .long (jI (((r + B : Nat) : Int)))), (0, .int (iI ((p : Int)))), (1, .int (iI ((of : Int))))]) [0, 1, 3, 4] rfl ?_
        rw [show (n : Int) + (-1) = (n : Int) - 1 by omega]
        exact ih _ _ t2 (by omega) (by rw [hB]; exact (hb2 (hcmp.mp (g1a.t h26))).symm) (by show z.1 + (of + 1) + _ ≤ _; omega) (by show z.2 + 10 * (of + 1) + _ ≤ _; omega) (hf.tr' g1b)
  refine v_lconst hX (atL dAX8_root_0 0 rfl) ?_
  show V X _ w _ _ _ (.long (jI (0)) :: _)
  refine v_lstore_n hX (i := 2) rfl (lv' := [(2, .long (jI (0))), (0, .int (iI ((p : Int)))), (1, .int (iI ((of : Int))))]) (Nat.le_of_ble_eq_true rfl) rfl (atL dAX8_root_0 1 rfl) ?_
  refine v_bipush hX (by decide +kernel) (atL dAX8_root_0 2 rfl) ?_
  refine v_istore hX (lv' := [(4, .int (iI (36))), (2, .long (jI (0))), (0, .int (iI ((p : Int)))), (1, .int (iI ((of : Int))))]) (Nat.le_of_ble_eq_true rfl) rfl (atL dAX8_root_0 3 rfl) ?_
  refine v_sub (lv' := [(4, .int (iI (36))), (2, .long (jI (0))), (0, .int (iI ((p : Int)))), (1, .int (iI ((of : Int))))]) [0, 1, 2, 3] rfl ?_
  have e9 := loop 37 0 (0, 0) σ (Nat.le_refl _) (by rw [Nat.div_eq_of_lt hR, Nat.zero_mul]) (by show 0 + _ ≤ _; omega) (by show 0 + _ ≤ _; omega) Fr.rf
  exact e9

set_option maxHeartbeats 1000000 in
set_option maxRecDepth 100000 in
theorem c_X8_constants [Gh] (l : Launch) (w : Wl) (σ : St) (hk0 : w.2 13 0) (h19 : ∀ q, w.2 19 q → q < 4096) (hC : CO σ) : Cm l yX8_constants cX8_constants 2 none 2 58 (kap σ * 10360) (kap σ * 103600) wN [.ref (w.1 13 0)] w σ (fun _ σ' => CK σ' ∧ Fr CLs σ σ' ∧ ∀ j, j ≠ 4 → σ' 10 0 j = σ 10 0 j) := by
  refine Cm.of (own := RX8) (lv := [(0, .ref (w.1 13 0))]) (by decide +kernel) rfl (Nat.le_of_ble_eq_true rfl) rfl (fun X hX hxl hR hcl hret => ?_)
  subst hxl
  have hQ : ∀ q, (14, q) ∈ mn σ 13 0 → w.2 14 q := fun q h => hcl 13 0 hk0 (14, q) h
  have hQ5 : ∀ q, (14, q) ∈ mn σ 13 0 → w.2 15 q := fun q h => hcl 14 q (hQ q h) (15, q) (by simp [mn, tp])
  have hQ16 : ∀ q, (16, q) ∈ mn σ 13 0 → w.2 16 q := fun q h => hcl 13 0 hk0 (16, q) h
  rcases hC with ⟨h0, -⟩ | h1
  · skip
    have hk1 : kap σ = 1 := kap_1 h0
    have L2 : ∀ (d k : Nat) (z : Nat × Nat) (t : St), k + d = 8 → z.1 ≤ 9472 + k * 111 → z.2 ≤ 94720 + k * 1110 → (∀ j, j < k → iI (t 13 8 j) = sha0 0 j) → (∀ j, j < 64 → iI (t 13 7 j) = KR j) → Fr CLs σ t → t 10 0 4 = 1 → (∀ j, j ≠ 4 → t 10 0 j = σ 10 0 j) → V X z w 43 [(1, .int (iI ((k : Int)))), (0, .ref (w.1 13 0))] t [] := by
      intro d
      induction d with
      | zero =>
        intro k z t hk hz1 hz2 ht7 ht9 hf h4 hj
        obtain rfl : k = 8 := by omega
        refine v_iload_n hX 0 rfl (atL dAX8_constants_0 24 rfl) ?_
        refine v_bipush hX (by decide +kernel) (atL dAX8_constants_0 25 rfl) ?_
        refine v_icmp_ge hX ⟨by omega, by omega⟩ ⟨by omega, by omega⟩ (tgt := 69) (atL dAX8_constants_0 26 rfl) (by decide) (fun h46 => ?_) (fun h46 => absurd h46 (by omega))
        exact v_vret hX (atL dAX8_constants_0 37 rfl) ((hret () _ ⟨⟨h4, ht9, ht7⟩, hf, hj⟩ _ ⟨by rw [hk1]; omega, by rw [hk1]; omega⟩))
      | succ d ih =>
        intro k z t hk hz1 hz2 ht7 ht9 hf h4 hj
        obtain ⟨ho1, ho2, ho3⟩ := r2_ok k (by omega)
        have hpl := pr_le k (by omega)
        refine v_iload_n hX 0 rfl (atL dAX8_constants_0 24 rfl) ?_
        refine v_bipush hX (by decide +kernel) (atL dAX8_constants_0 25 rfl) ?_
        refine v_icmp_ge hX ⟨by omega, by omega⟩ ⟨by omega, by omega⟩ (tgt := 69) (atL dAX8_constants_0 26 rfl) (by decide) (fun h46 => absurd h46 (by omega)) (fun h46 => ?_)
        refine v_aload_n hX 1 rfl (atL dAX8_constants_0 27 rfl) ?_
        refine gf_X8_107 hX hk0 (atL dAX8_constants_0 28 rfl) ?_
        refine v_iload_n hX 0 rfl (atL dAX8_constants_0 29 rfl) ?_
        refine v_iload_n hX 0 rfl (atL dAX8_constants_0 30 rfl) ?_
        refine v_callS hX (As := [.int (iI ((k : Int)))]) (rest := [.int (iI ((k : Int))), .ref (w.1 16 8)]) (c_X8_prime (xl X) w t k (by omega)) lk_X8_220 rfl (by rw [hR]; exact ⟨Nat.le_of_ble_eq_true rfl, Nat.le_of_ble_eq_true rfl⟩) (by rw [hR, hk1]; exact ⟨by show z.1 ≤ 1 * 10360; omega, by show z.2 ≤ 1 * 103600; omega⟩) rfl (Nat.le_of_ble_eq_true rfl) (atL dAX8_constants_0 31 rfl) (fun a1 z1 g1 => ?_)
        obtain ⟨g1a, g1b⟩ := g1
        rw [g1b]
        subst g1a
        show V X _ w _ _ t [.int (iI ((pr k : Int))), .int (iI ((k : Int))), .ref (w.1 16 8)]
        refine v_iconst hX (atL dAX8_constants_0 32 rfl) ?_
        refine v_callSM hX (As := [.int (iI ((pr k : Int))), .int (iI (2))]) (rest := [.int (iI ((k : Int))), .ref (w.1 16 8)]) (c_X8_root (xl X) w t h19 (pr k) (by omega) 2 (by decide) (r2 k) ho1 ho2 ho3) lk_X8_311 rfl (by rw [hR]; exact ⟨Nat.le_of_ble_eq_true rfl, Nat.le_of_ble_eq_true rfl⟩) (by rw [hR, hk1]; exact ⟨by show z.1 + 37 * (2 + 1) ≤ 1 * 10360; omega, by show z.2 + 37 * (10 * (2 + 1)) ≤ 1 * 103600; omega⟩) rfl (Nat.le_of_ble_eq_true rfl) (atL dAX8_constants_0 33 rfl) (fun a2 t2 g2 => ?_)
        obtain ⟨g2a, g2f⟩ := g2
        subst g2a
        have hf2 : Fr CLs t t2 := g2f.mono (by decide)
        show V X _ w _ _ t2 [.int (iI ((r2 k : Int))), .int (iI ((k : Int))), .ref (w.1 16 8)]
        refine v_iast hX (c := 13) k (hQ16 8 (by simp [mn, tp])) (by decide) (fun _ _ => rfl) rfl (show k < 8 by omega) (by decide) (atL dAX8_constants_0 34 rfl) ?_
        refine v_iinc hX (lv' := [(1, .int (iI (((k : Int)) + 1))), (0, .ref (w.1 13 0))]) 0 rfl (iI_add _ _) (Nat.le_of_ble_eq_true rfl) rfl (atL dAX8_constants_0 35 rfl) ?_
        refine v_goto hX (tgt := 43) (atL dAX8_constants_0 36 rfl) (by decide) ?_
        refine v_sub (lv' := [(1, .int (iI (((k : Int)) + 1))), (0, .ref (w.1 13 0))]) [0, 1] rfl ?_
        rw [show (k : Int) + 1 = ((k + 1 : Nat) : Int) by omega]
        refine ih (k + 1) _ _ (by omega) (by show z.1 + 37 * (2 + 1) ≤ _; omega) (by show z.2 + 37 * (10 * (2 + 1)) ≤ _; omega) (fun j hj2 => ?_) (fun j hj2 => by rw [su_i (by decide), g2f 13 7 (by decide)]; exact ht9 j hj2) ((hf.tr' hf2).tr' (Fr.su (by decide))) (by rw [su_c (by decide), g2f 10 0 (by decide)]; exact h4) (fun j h => by rw [su_c (by decide), g2f 10 0 (by decide)]; exact hj j h)
        by_cases e : j = k
        · rw [e, su_s]; exact r2_st
        · rw [su_j e, g2f 13 8 (by decide)]; exact ht7 j (by omega)
    have L1 : ∀ (d k : Nat) (z : Nat × Nat) (t : St), k + d = 64 → z.1 ≤ 0 + k * 148 → z.2 ≤ 0 + k * 1480 → (∀ j, j < k → iI (t 13 7 j) = KR j) → Fr CLs σ t → t 10 0 4 = 1 → (∀ j, j ≠ 4 → t 10 0 j = σ 10 0 j) → V X z w 15 [(1, .int (iI ((k : Int)))), (0, .ref (w.1 13 0))] t [] := by
      intro d
      induction d with
      | zero =>
        intro k z t hk hz1 hz2 ht7 hf h4 hj
        obtain rfl : k = 64 := by omega
        refine v_iload_n hX 0 rfl (atL dAX8_constants_0 9 rfl) ?_
        refine v_bipush hX (by decide +kernel) (atL dAX8_constants_0 10 rfl) ?_
        refine v_icmp_ge hX ⟨by omega, by omega⟩ ⟨by omega, by omega⟩ (tgt := 41) (atL dAX8_constants_0 11 rfl) (by decide) (fun h18 => ?_) (fun h18 => absurd h18 (by omega))
        refine v_iconst hX (atL dAX8_constants_0 22 rfl) ?_
        refine v_istore_n hX (i := 1) rfl (lv' := [(1, .int (iI (0))), (0, .ref (w.1 13 0))]) (Nat.le_of_ble_eq_true rfl) rfl (atL dAX8_constants_0 23 rfl) ?_
        refine v_sub (lv' := [(1, .int (iI (0))), (0, .ref (w.1 13 0))]) [0, 1] rfl ?_
        exact L2 8 0 z t (by omega) (by omega) (by omega) (fun j hj2 => absurd hj2 (by omega)) ht7 hf h4 hj
      | succ d ih =>
        intro k z t hk hz1 hz2 ht7 hf h4 hj
        obtain ⟨ho1, ho2, ho3⟩ := r3_ok k (by omega)
        have hpl := pr_le k (by omega)
        refine v_iload_n hX 0 rfl (atL dAX8_constants_0 9 rfl) ?_
        refine v_bipush hX (by decide +kernel) (atL dAX8_constants_0 10 rfl) ?_
        refine v_icmp_ge hX ⟨by omega, by omega⟩ ⟨by omega, by omega⟩ (tgt := 41) (atL dAX8_constants_0 11 rfl) (by decide) (fun h18 => absurd h18 (by omega)) (fun h18 => ?_)
        refine v_aload_n hX 1 rfl (atL dAX8_constants_0 12 rfl) ?_
        refine gf_X8_104 hX hk0 (atL dAX8_constants_0 13 rfl) ?_
        refine v_iload_n hX 0 rfl (atL dAX8_constants_0 14 rfl) ?_
        refine v_iload_n hX 0 rfl (atL dAX8_constants_0 15 rfl) ?_
        refine v_callS hX (As := [.int (iI ((k : Int)))]) (rest := [.int (iI ((k : Int))), .ref (w.1 16 7)]) (c_X8_prime (xl X) w t k (by omega)) lk_X8_220 rfl (by rw [hR]; exact ⟨Nat.le_of_ble_eq_true rfl, Nat.le_of_ble_eq_true rfl⟩) (by rw [hR, hk1]; exact ⟨by show z.1 ≤ 1 * 10360; omega, by show z.2 ≤ 1 * 103600; omega⟩) rfl (Nat.le_of_ble_eq_true rfl) (atL dAX8_constants_0 16 rfl) (fun a1 z1 g1 => ?_)
        obtain ⟨g1a, g1b⟩ := g1
        rw [g1b]
        subst g1a
        show V X _ w _ _ t [.int (iI ((pr k : Int))), .int (iI ((k : Int))), .ref (w.1 16 7)]
        refine v_iconst hX (atL dAX8_constants_0 17 rfl) ?_
        refine v_callSM hX (As := [.int (iI ((pr k : Int))), .int (iI (3))]) (rest := [.int (iI ((k : Int))), .ref (w.1 16 7)]) (c_X8_root (xl X) w t h19 (pr k) (by omega) 3 (by decide) (r3 k) ho1 ho2 ho3) lk_X8_311 rfl (by rw [hR]; exact ⟨Nat.le_of_ble_eq_true rfl, Nat.le_of_ble_eq_true rfl⟩) (by rw [hR, hk1]; exact ⟨by show z.1 + 37 * (3 + 1) ≤ 1 * 10360; omega, by show z.2 + 37 * (10 * (3 + 1)) ≤ 1 * 103600; omega⟩) rfl (Nat.le_of_ble_eq_true rfl) (atL dAX8_constants_0 18 rfl) (fun a2 t2 g2 => ?_)
        obtain ⟨g2a, g2f⟩ := g2
        subst g2a
        have hf2 : Fr CLs t t2 := g2f.mono (by decide)
        show V X _ w _ _ t2 [.int (iI ((r3 k : Int))), .int (iI ((k : Int))), .ref (w.1 16 7)]
        refine v_iast hX (c := 13) k (hQ16 7 (by simp [mn, tp])) (by decide) (fun _ _ => rfl) rfl (show k < 64 by omega) (by decide) (atL dAX8_constants_0 19 rfl) ?_
        refine v_iinc hX (lv' := [(1, .int (iI (((k : Int)) + 1))), (0, .ref (w.1 13 0))]) 0 rfl (iI_add _ _) (Nat.le_of_ble_eq_true rfl) rfl (atL dAX8_constants_0 20 rfl) ?_
        refine v_goto hX (tgt := 15) (atL dAX8_constants_0 21 rfl) (by decide) ?_
        refine v_sub (lv' := [(1, .int (iI (((k : Int)) + 1))), (0, .ref (w.1 13 0))]) [0, 1] rfl ?_
        rw [show (k : Int) + 1 = ((k + 1 : Nat) : Int) by omega]
        refine ih (k + 1) _ _ (by omega) (by show z.1 + 37 * (3 + 1) ≤ _; omega) (by show z.2 + 37 * (10 * (3 + 1)) ≤ _; omega) (fun j hj2 => ?_) ((hf.tr' hf2).tr' (Fr.su (by decide))) (by rw [su_c (by decide), g2f 10 0 (by decide)]; exact h4) (fun j h => by rw [su_c (by decide), g2f 10 0 (by decide)]; exact hj j h)
        by_cases e : j = k
        · rw [e, su_s]; exact r3_kr
        · rw [su_j e, g2f 13 7 (by decide)]; exact ht7 j (by omega)
    refine v_aload_n hX 0 rfl (atL dAX8_constants_0 0 rfl) ?_
    refine gf_X8_307 hX (v := 0) (h0) hk0 (atL dAX8_constants_0 1 rfl) ?_
    refine v_if_eq hX ⟨by omega, by omega⟩ (tgt := 8) (atL dAX8_constants_0 2 rfl) (by decide) (fun h4 => ?_) (fun h4 => absurd h4 (by omega))
    refine v_aload_n hX 0 rfl (atL dAX8_constants_0 4 rfl) ?_
    refine v_iconst hX (atL dAX8_constants_0 5 rfl) ?_
    refine pf_X8_307 hX hk0 (atL dAX8_constants_0 6 rfl) ?_
    refine v_iconst hX (atL dAX8_constants_0 7 rfl) ?_
    refine v_istore_n hX (i := 1) rfl (lv' := [(1, .int (iI (0))), (0, .ref (w.1 13 0))]) (Nat.le_of_ble_eq_true rfl) rfl (atL dAX8_constants_0 8 rfl) ?_
    refine v_sub (lv' := [(1, .int (iI (0))), (0, .ref (w.1 13 0))]) [0, 1] rfl ?_
    exact L1 64 0 (0, 0) _ (by omega) (by show 0 ≤ _; omega) (by show 0 ≤ _; omega) (fun j hj2 => absurd hj2 (by omega)) (Fr.su (by decide)) su_s (fun j h => su_j h)
  · skip
    refine v_aload_n hX 0 rfl (atL dAX8_constants_0 0 rfl) ?_
    refine gf_X8_307 hX (v := 1) (h1.1) hk0 (atL dAX8_constants_0 1 rfl) ?_
    refine v_if_eq hX ⟨by omega, by omega⟩ (tgt := 8) (atL dAX8_constants_0 2 rfl) (by decide) (fun h4 => absurd h4 (by omega)) (fun h4 => ?_)
    exact v_vret hX (atL dAX8_constants_0 3 rfl) ((hret () _ ⟨h1, Fr.rf, fun _ _ => rfl⟩ _ ⟨Nat.zero_le _, Nat.zero_le _⟩))

set_option maxHeartbeats 1000000 in
set_option maxRecDepth 100000 in
theorem c_X8_begins (l : Launch) (w : Wl) (σ : St) (hk0 : w.2 13 0) (h : Int) (hh : rI h) (k : Nat) (hk : k < 8) (h8 : ∀ k, k < 8 → iI (σ 13 8 k) = sha0 0 k) : Cn l yX8_begins cX8_begins 3 (Option.some Jvm.ClassFile.FieldType.int) 0 0 wI [.ref (w.1 13 0), .int (iI (h)), .int (iI ((k : Int)))] w σ (fun a σ' => iI a = sha0 h k ∧ σ' = σ) := by
  refine Cn.of (own := RX8) (lv := [(0, .ref (w.1 13 0)), (1, .int (iI (h))), (2, .int (iI ((k : Int))))]) (by decide +kernel) rfl (Nat.le_of_ble_eq_true rfl) rfl (fun X hX hxl hR hcl hret => ?_)
  subst hxl
  have hQ : ∀ q, (14, q) ∈ mn σ 13 0 → w.2 14 q := fun q h => hcl 13 0 hk0 (14, q) h
  have hQ5 : ∀ q, (14, q) ∈ mn σ 13 0 → w.2 15 q := fun q h => hcl 14 q (hQ q h) (15, q) (by simp [mn, tp])
  have hQ16 : ∀ q, (16, q) ∈ mn σ 13 0 → w.2 16 q := fun q h => hcl 13 0 hk0 (16, q) h
  refine v_iload_n hX 1 rfl (atL dAX8_begins_0 0 rfl) ?_
  refine v_if_ne hX hh (tgt := 11) (atL dAX8_begins_0 1 rfl) (by decide) (fun h1 => ?_) (fun h1 => ?_)
  · refine v_iload_n hX 2 rfl (atL dAX8_begins_0 7 rfl) ?_
    rcases (show (k : Int) = 0 ∨ (k : Int) = 1 ∨ (k : Int) = 2 ∨ (k : Int) = 3 ∨ (k : Int) = 4 ∨ (k : Int) = 5 ∨ (k : Int) = 6 ∨ ((k : Int) < 0 ∨ 6 < (k : Int)) by omega) with tq12 | tq12 | tq12 | tq12 | tq12 | tq12 | tq12 | tq12
    · refine v_tsIn hX (c := 0) tq12 ⟨by omega, by omega⟩ (atL dAX8_begins_0 8 rfl) (by decide) (by decide) rfl (tgt := 56) (by decide) ?_
      refine v_ldcw hX (r := -1056596264) wd_1343 (by decide +kernel) (atL dAX8_begins_0 9 rfl) ?_
      exact v_iret hX (atL dAX8_begins_0 10 rfl) (hret _ _ ⟨by unfold sha0; rw [if_neg (by omega), show k = 0 by omega]; rfl, rfl⟩)
    · refine v_tsIn hX (c := 1) tq12 ⟨by omega, by omega⟩ (atL dAX8_begins_0 8 rfl) (by decide) (by decide) rfl (tgt := 60) (by decide) ?_
      refine v_ldcw hX (r := 914150663) wd_1344 (by decide +kernel) (atL dAX8_begins_0 11 rfl) ?_
      exact v_iret hX (atL dAX8_begins_0 12 rfl) (hret _ _ ⟨by unfold sha0; rw [if_neg (by omega), show k = 1 by omega]; rfl, rfl⟩)
    · refine v_tsIn hX (c := 2) tq12 ⟨by omega, by omega⟩ (atL dAX8_begins_0 8 rfl) (by decide) (by decide) rfl (tgt := 64) (by decide) ?_
      refine v_ldcw hX (r := 812702999) wd_1345 (by decide +kernel) (atL dAX8_begins_0 13 rfl) ?_
      exact v_iret hX (atL dAX8_begins_0 14 rfl) (hret _ _ ⟨by unfold sha0; rw [if_neg (by omega), show k = 2 by omega]; rfl, rfl⟩)
    · refine v_tsIn hX (c := 3) tq12 ⟨by omega, by omega⟩ (atL dAX8_begins_0 8 rfl) (by decide) (by decide) rfl (tgt := 68) (by decide) ?_
      refine v_ldcw hX (r := -150054599) wd_1346 (by decide +kernel) (atL dAX8_begins_0 15 rfl) ?_
      exact v_iret hX (atL dAX8_begins_0 16 rfl) (hret _ _ ⟨by unfold sha0; rw [if_neg (by omega), show k = 3 by omega]; rfl, rfl⟩)
    · refine v_tsIn hX (c := 4) tq12 ⟨by omega, by omega⟩ (atL dAX8_begins_0 8 rfl) (by decide) (by decide) rfl (tgt := 72) (by decide) ?_
      refine v_ldcw hX (r := -4191439) wd_1347 (by decide +kernel) (atL dAX8_begins_0 17 rfl) ?_
      exact v_iret hX (atL dAX8_begins_0 18 rfl) (hret _ _ ⟨by unfold sha0; rw [if_neg (by omega), show k = 4 by omega]; rfl, rfl⟩)
    · refine v_tsIn hX (c := 5) tq12 ⟨by omega, by omega⟩ (atL dAX8_begins_0 8 rfl) (by decide) (by decide) rfl (tgt := 76) (by decide) ?_
      refine v_ldcw hX (r := 1750603025) wd_1348 (by decide +kernel) (atL dAX8_begins_0 19 rfl) ?_
      exact v_iret hX (atL dAX8_begins_0 20 rfl) (hret _ _ ⟨by unfold sha0; rw [if_neg (by omega), show k = 5 by omega]; rfl, rfl⟩)
    · refine v_tsIn hX (c := 6) tq12 ⟨by omega, by omega⟩ (atL dAX8_begins_0 8 rfl) (by decide) (by decide) rfl (tgt := 80) (by decide) ?_
      refine v_ldcw hX (r := 1694076839) wd_1349 (by decide +kernel) (atL dAX8_begins_0 21 rfl) ?_
      exact v_iret hX (atL dAX8_begins_0 22 rfl) (hret _ _ ⟨by unfold sha0; rw [if_neg (by omega), show k = 6 by omega]; rfl, rfl⟩)
    · refine v_tsOut hX ⟨by omega, by omega⟩ tq12 (atL dAX8_begins_0 8 rfl) (tgt := 84) (by decide) ?_
      refine v_ldcw hX (r := -1090891868) wd_1350 (by decide +kernel) (atL dAX8_begins_0 23 rfl) ?_
      exact v_iret hX (atL dAX8_begins_0 24 rfl) (hret _ _ ⟨by unfold sha0; rw [if_neg (by omega), show k = 7 by omega]; rfl, rfl⟩)
  · refine v_aload_n hX 0 rfl (atL dAX8_begins_0 2 rfl) ?_
    refine gf_X8_107 hX hk0 (atL dAX8_begins_0 3 rfl) ?_
    refine v_iload_n hX 2 rfl (atL dAX8_begins_0 4 rfl) ?_
    refine v_iald hX (r := iI (σ 13 8 k)) k (hQ16 8 (by simp [mn, tp])) (fun _ => rfl) rfl (show k < 8 by omega) (by decide) (congrArg iI (rfl)) (atL dAX8_begins_0 5 rfl) ?_
    exact v_iret hX (atL dAX8_begins_0 6 rfl) (hret _ _ ⟨by rw [h8 k hk, show h = 0 by omega], rfl⟩)
