theorem n_byt (v k : Nat) : n_dgt v (k / 2) / 2 ^ (8 * (k % 2)) % 256 = v / 256 ^ k % 256 := by
  unfold n_dgt
  have e : (256 : Nat) ^ k = 65536 ^ (k / 2) * 256 ^ (k % 2) := by
    conv => lhs; rw [show k = 2 * (k / 2) + k % 2 by omega]
    rw [Nat.pow_add, Nat.pow_mul]
  rw [e, ← Nat.div_div_eq_div_mul]
  generalize v / 65536 ^ (k / 2) = X
  rcases Nat.mod_two_eq_zero_or_one k with c | c
  · simp only [c, Nat.mul_zero, Nat.pow_zero]
    omega
  · rw [c, Nat.mul_one, Nat.pow_one, show (2 : Nat) ^ 8 = 256 from rfl]
    omega
theorem beP_push {v n q : Nat} : beP v n q ++ [v / 256 ^ (n - 1 - q) % 256] = beP v n (q + 1) := by
  unfold beP
  rw [List.range_succ, List.map_append]
  rfl
theorem beP_next {v n kk : Nat} (h : kk + 1 ≤ n) : beP v n (n - (kk + 1)) ++ [v / 256 ^ kk % 256] = beP v n (n - kk) := by
  have e := beP_push (v := v) (n := n) (q := n - (kk + 1))
  rw [show n - 1 - (n - (kk + 1)) = kk by omega, show n - (kk + 1) + 1 = n - kk by omega] at e
  exact e
theorem beP_ln {v n q : Nat} : (beP v n q).length = q := by simp [beP]

set_option maxHeartbeats 1000000 in
set_option maxRecDepth 100000 in
theorem c_X8_putsNumber (l : Launch) (w : Wl) (σ : St) (hk0 : w.2 13 0) (M : List Nat) (hM : RO σ M) (i v : Nat) (hi : w.2 14 i) (hN : NN σ i v) (n : Nat) (hl9 : M.length + n ≤ 1000) : Cn l yX8_putsNumber cX8_putsNumber 4 none 1 21 wN [.ref (w.1 13 0), .ref (w.1 14 i), .int (iI ((n : Int)))] w σ (fun _ σ' => RO σ' (M ++ be v n) ∧ FP σ σ') := by
  refine Cn.of (own := RX8) (lv := [(0, .ref (w.1 13 0)), (1, .ref (w.1 14 i)), (2, .int (iI ((n : Int))))]) (by decide +kernel) rfl (Nat.le_of_ble_eq_true rfl) rfl (fun X hX hxl hR hcl hret => ?_)
  subst hxl
  have hQ : ∀ q, (14, q) ∈ mn σ 13 0 → w.2 14 q := fun q h => hcl 13 0 hk0 (14, q) h
  have hQ5 : ∀ q, (14, q) ∈ mn σ 13 0 → w.2 15 q := fun q h => hcl 14 q (hQ q h) (15, q) (by simp [mn, tp])
  have hQ16 : ∀ q, (16, q) ∈ mn σ 13 0 → w.2 16 q := fun q h => hcl 13 0 hk0 (16, q) h
  have hi2 : w.2 15 i := hcl 14 i hi (15, i) (by simp [mn, tp])
  obtain ⟨u, hu, hu8, hd, ht, hv⟩ := hN
  have loop : ∀ (kk : Nat) (t : St), kk ≤ n → RO t (M ++ beP v n (n - kk)) → FP σ t → V X (0, 0) w 4 [(3, .int (iI ((kk : Int) - 1))), (0, .ref (w.1 13 0)), (1, .ref (w.1 14 i)), (2, .int (iI ((n : Int))))] t [] := by
    intro kk
    induction kk with
    | zero =>
      intro t hk hr hf
      refine v_iload_n hX 0 rfl (atL dAX8_putsNumber_0 4 rfl) ?_
      refine v_if_lt hX ⟨by omega, by omega⟩ (tgt := 51) (atL dAX8_putsNumber_0 5 rfl) (by decide) (fun h5 => ?_) (fun h5 => absurd h5 (by omega))
      exact v_vret hX (atL dAX8_putsNumber_0 32 rfl) (hret () _ ⟨by rw [Nat.sub_zero] at hr; exact hr, hf⟩)
    | succ kk ih =>
      intro t hk hr hf
      rw [show ((kk + 1 : Nat) : Int) - 1 = (kk : Int) by omega]
      have htu : t 11 i 0 = (u : Int) := by rw [hf.1 11 i (by simp)]; exact hu
      have hq : (if kk / 2 < u then t 12 i (kk / 2) else 0) = (n_dgt v (kk / 2) : Int) := by rw [hf.1 12 i (by simp)]; exact n_dgt_WN hd hv (kk / 2)
      have hby := n_byt v kk
      have hl := n_dgt_lt v (kk / 2)
      have hdv : n_dgt v (kk / 2) / 2 ^ (8 * (kk % 2)) ≤ n_dgt v (kk / 2) := Nat.div_le_self _ _
      obtain ⟨bb, hbb⟩ : ∃ q, v / 256 ^ kk % 256 = q := ⟨_, rfl⟩
      rw [hbb] at hby
      obtain ⟨dd, hdd⟩ : ∃ q, n_dgt v (kk / 2) / 2 ^ (8 * (kk % 2)) = q := ⟨_, rfl⟩
      rw [hdd] at hby hdv
      refine v_iload_n hX 0 rfl (atL dAX8_putsNumber_0 4 rfl) ?_
      refine v_if_lt hX ⟨by omega, by omega⟩ (tgt := 51) (atL dAX8_putsNumber_0 5 rfl) (by decide) (fun h5 => absurd h5 (by omega)) (fun h5 => ?_)
      refine v_aload_n hX 1 rfl (atL dAX8_putsNumber_0 6 rfl) ?_
      refine v_iload_n hX 0 rfl (atL dAX8_putsNumber_0 7 rfl) ?_
      refine v_iconst hX (atL dAX8_putsNumber_0 8 rfl) ?_
      refine v_idiv hX (fun e0 => absurd ((iI_eq (b := 0) ⟨by omega, by omega⟩ ⟨by omega, by omega⟩).mp e0) (by omega)) (iI_div (by omega) (by omega) (by omega) (by omega)) (atL dAX8_putsNumber_0 9 rfl) ?_
      refine v_aload_n hX 2 rfl (atL dAX8_putsNumber_0 10 rfl) ?_
      refine gf_X8_164 hX (v := (u : Int)) (htu) hi (atL dAX8_putsNumber_0 11 rfl) ?_
      refine v_icmp_ge hX ⟨by omega, by omega⟩ ⟨by omega, by omega⟩ (tgt := 41) (atL dAX8_putsNumber_0 12 rfl) (by decide) (fun h16 => ?_) (fun h16 => ?_)
      · refine v_iconstE hX (r := (bb : Int)) (by have hz : n_dgt v (kk / 2) = 0 := (by rw [if_neg (by omega)] at hq; omega); rw [hz, Nat.zero_div] at hdd; omega) (atL dAX8_putsNumber_0 28 rfl) ?_
        refine v_callV hX (As := [.int (iI ((bb : Int)))]) (rest := []) (c_X8_puts (xl X) w t hk0 (M ++ beP v n (n - (kk + 1))) hr (by rw [List.length_append, beP_ln]; omega) bb) lk_X8_251 hk0 (fun _ => rfl) rfl rfl rfl (by rw [hR]; exact ⟨Nat.le_of_ble_eq_true rfl, Nat.le_of_ble_eq_true rfl⟩) ⟨Nat.zero_le _, Nat.zero_le _⟩ rfl (Nat.le_of_ble_eq_true rfl) (atL dAX8_putsNumber_0 29 rfl) (fun _ t2 g2 => ?_)
        obtain ⟨g2a, g2b⟩ := g2
        rw [List.append_assoc, ← hbb, beP_next hk] at g2a
        show V X _ w _ _ t2 []
        refine v_iinc hX (lv' := [(3, .int (iI (((kk : Int)) + (-1)))), (0, .ref (w.1 13 0)), (1, .ref (w.1 14 i)), (2, .int (iI ((n : Int))))]) 0 rfl (iI_add _ _) (Nat.le_of_ble_eq_true rfl) rfl (atL dAX8_putsNumber_0 30 rfl) ?_
        refine v_goto hX (tgt := 4) (atL dAX8_putsNumber_0 31 rfl) (by decide) ?_
        refine v_sub (lv' := [(3, .int (iI (((kk : Int)) + (-1)))), (0, .ref (w.1 13 0)), (1, .ref (w.1 14 i)), (2, .int (iI ((n : Int))))]) [0, 1, 2, 3] rfl ?_
        rw [show (kk : Int) + (-1) = (kk : Int) - 1 by omega]
        exact ih _ (by omega) g2a (hf.tr g2b)
      · refine v_aload_n hX 2 rfl (atL dAX8_putsNumber_0 13 rfl) ?_
        refine gf_X8_175 hX hi (atL dAX8_putsNumber_0 14 rfl) ?_
        refine v_iload_n hX 0 rfl (atL dAX8_putsNumber_0 15 rfl) ?_
        refine v_iconst hX (atL dAX8_putsNumber_0 16 rfl) ?_
        refine v_idiv hX (fun e0 => absurd ((iI_eq (b := 0) ⟨by omega, by omega⟩ ⟨by omega, by omega⟩).mp e0) (by omega)) (iI_div (by omega) (by omega) (by omega) (by omega)) (atL dAX8_putsNumber_0 17 rfl) ?_
        refine v_iald hX (r := iI ((n_dgt v (kk / 2) : Int))) ((kk / 2)) hi2 (fun _ => rfl) (by omega) (by omega) (by decide) (congrArg iI (by rw [← hq, if_pos (by omega)])) (atL dAX8_putsNumber_0 18 rfl) ?_
        refine v_bipush hX (by decide +kernel) (atL dAX8_putsNumber_0 19 rfl) ?_
        refine v_iload_n hX 0 rfl (atL dAX8_putsNumber_0 20 rfl) ?_
        refine v_iconst hX (atL dAX8_putsNumber_0 21 rfl) ?_
        refine v_irem hX (fun e0 => absurd ((iI_eq (b := 0) ⟨by omega, by omega⟩ ⟨by omega, by omega⟩).mp e0) (by omega)) (iI_rem (by omega) (by omega) (by omega) (by omega)) (atL dAX8_putsNumber_0 22 rfl) ?_
        refine v_imul hX (iI_mul _ _) (atL dAX8_putsNumber_0 23 rfl) ?_
        rw [show (8 * (((kk : Int)) % 2)) = ((8 * (kk % 2) : Nat) : Int) from (by omega)]
        refine v_ishr hX (r := iI ((dd : Int))) (by rw [iI_shr ⟨by omega, by omega⟩ (8 * (kk % 2)) (by omega), ← Int.natCast_ediv, hdd]) (atL dAX8_putsNumber_0 24 rfl) ?_
        refine v_sipush hX (by decide +kernel) (atL dAX8_putsNumber_0 25 rfl) ?_
        refine v_iand hX (r := iI (((dd : Int)) % 256)) (iI_mask _ 8 (by decide)) (atL dAX8_putsNumber_0 26 rfl) ?_
        rw [show (((dd : Int)) % 256) = (bb : Int) from (by omega)]
        refine v_goto hX (tgt := 42) (atL dAX8_putsNumber_0 27 rfl) (by decide) ?_
        refine v_callV hX (As := [.int (iI ((bb : Int)))]) (rest := []) (c_X8_puts (xl X) w t hk0 (M ++ beP v n (n - (kk + 1))) hr (by rw [List.length_append, beP_ln]; omega) bb) lk_X8_251 hk0 (fun _ => rfl) rfl rfl rfl (by rw [hR]; exact ⟨Nat.le_of_ble_eq_true rfl, Nat.le_of_ble_eq_true rfl⟩) ⟨Nat.zero_le _, Nat.zero_le _⟩ rfl (Nat.le_of_ble_eq_true rfl) (atL dAX8_putsNumber_0 29 rfl) (fun _ t2 g2 => ?_)
        obtain ⟨g2a, g2b⟩ := g2
        rw [List.append_assoc, ← hbb, beP_next hk] at g2a
        show V X _ w _ _ t2 []
        refine v_iinc hX (lv' := [(3, .int (iI (((kk : Int)) + (-1)))), (0, .ref (w.1 13 0)), (1, .ref (w.1 14 i)), (2, .int (iI ((n : Int))))]) 0 rfl (iI_add _ _) (Nat.le_of_ble_eq_true rfl) rfl (atL dAX8_putsNumber_0 30 rfl) ?_
        refine v_goto hX (tgt := 4) (atL dAX8_putsNumber_0 31 rfl) (by decide) ?_
        refine v_sub (lv' := [(3, .int (iI (((kk : Int)) + (-1)))), (0, .ref (w.1 13 0)), (1, .ref (w.1 14 i)), (2, .int (iI ((n : Int))))]) [0, 1, 2, 3] rfl ?_
        rw [show (kk : Int) + (-1) = (kk : Int) - 1 by omega]
        exact ih _ (by omega) g2a (hf.tr g2b)
  refine v_iload_n hX 2 rfl (atL dAX8_putsNumber_0 0 rfl) ?_
  refine v_iconst hX (atL dAX8_putsNumber_0 1 rfl) ?_
  refine v_isub hX (iI_sub _ _) (atL dAX8_putsNumber_0 2 rfl) ?_
  refine v_istore_n hX (i := 3) rfl (lv' := [(3, .int (iI (((n : Int)) - 1))), (0, .ref (w.1 13 0)), (1, .ref (w.1 14 i)), (2, .int (iI ((n : Int))))]) (Nat.le_of_ble_eq_true rfl) rfl (atL dAX8_putsNumber_0 3 rfl) ?_
  refine v_sub (lv' := [(3, .int (iI (((n : Int)) - 1))), (0, .ref (w.1 13 0)), (1, .ref (w.1 14 i)), (2, .int (iI ((n : Int))))]) [0, 1, 2, 3] rfl ?_
  exact loop n σ (Nat.le_refl n) (by rw [Nat.sub_self]; show RO σ (M ++ []); rw [List.append_nil]; exact hM) FP.rf
