set_option maxHeartbeats 1000000 in
set_option maxRecDepth 100000 in
theorem c_X5_setSquare (l : Launch) (w : Wl) (σ : St) (i : Nat) (hi : w.2 3 i) (hdi : WDg σ i) (o v : Nat) (ho : w.2 3 o) (hM : WN σ o v) (hno : o ≠ i) (hv40 : v < 268435456 ^ 40) : Cn l yX5_setSquare cX5_setSquare 11 none 1 22 wN [.ref (w.1 3 i), .ref (w.1 3 o)] w σ (fun _ σ' => WN σ' i (v * v) ∧ Fr [(2, i), (3, i)] σ σ') := by
  refine Cn.of (own := RX5) (lv := [(0, .ref (w.1 3 i)), (1, .ref (w.1 3 o))]) (by decide +kernel) rfl (Nat.le_of_ble_eq_true rfl) rfl (fun X hX hxl hR hcl hret => ?_)
  subst hxl
  have hi2 : w.2 4 i := hcl 3 i hi (4, i) (by simp [mn, tp])
  obtain ⟨u, hu, hu8, hd, ht, hv⟩ := hM
  have ho2 : w.2 4 o := hcl 3 o ho (4, o) (by simp [mn, tp])
  have hu4 := used_le hd ht hv hv40
  have hvu := used_lt_pow hd hv (Nat.le_refl u)
  have hdg : ∀ j, j < u → σ 3 o j = (dgt v j : Int) := fun j hj => by rw [← dgt_WN hd hv j, if_pos hj]
  have inner : 0 < u → u ≤ 40 → ∀ (k lo c : Nat) (s : St), k < 2 * u - 1 → lo ≤ (k + 1) / 2 → (k + 1) / 2 ≤ lo + 20 → (k + 1) / 2 ≤ u → k < lo + u → s 3 o = σ 3 o → (V X (0, 0) w 106 [(10, .int (iI (((k + 1) / 2 : Nat) : Int))), (8, .long (jI ((sm (fun q => dgt v q * dgt v (k - q)) ((k + 1) / 2) : Nat) : Int))), (7, .int (iI ((lo : Int)))), (6, .int (iI ((k : Int)))), (4, .long (jI ((c : Int)))), (3, .ref (w.1 4 o)), (2, .int (iI (2 * (u : Int)))), (0, .ref (w.1 3 i)), (1, .ref (w.1 3 o))] s []) → ∀ (n i0 S : Nat), i0 + n = (k + 1) / 2 → lo ≤ i0 → S = sm (fun q => dgt v q * dgt v (k - q)) i0 → S ≤ (i0 - lo) * 72057594037927936 → V X (0, 0) w 73 [(10, .int (iI ((i0 : Int)))), (8, .long (jI ((S : Int)))), (7, .int (iI ((lo : Int)))), (6, .int (iI ((k : Int)))), (4, .long (jI ((c : Int)))), (3, .ref (w.1 4 o)), (2, .int (iI (2 * (u : Int)))), (0, .ref (w.1 3 i)), (1, .ref (w.1 3 o))] s [] := by
    intro hu0 hu40 k lo c s hk hlo h20 hhu hkx hso3 hend n
    induction n with
    | zero =>
      intro i0 S hn hl hS hSb
      obtain rfl : i0 = (k + 1) / 2 := by omega
      subst hS
      refine v_iload hX 0 rfl (atL dAX5_setSquare_0 43 rfl) ?_
      refine v_iload hX 3 rfl (atL dAX5_setSquare_0 44 rfl) ?_
      refine v_iload hX 0 rfl (atL dAX5_setSquare_0 45 rfl) ?_
      refine v_isub hX (iI_sub _ _) (atL dAX5_setSquare_0 46 rfl) ?_
      refine v_icmp_ge hX ⟨by omega, by omega⟩ ⟨by omega, by omega⟩ (tgt := 106) (atL dAX5_setSquare_0 47 rfl) (by decide) (fun h80 => ?_) (fun h80 => absurd h80 (by omega))
      exact hend
    | succ n ih =>
      intro i0 S hn hl hS hSb
      have hm1 := dgt_lt v i0
      have hm2 := dgt_lt v (k - i0)
      have hmb := mul_bound hm1 hm2
      refine v_iload hX 0 rfl (atL dAX5_setSquare_0 43 rfl) ?_
      refine v_iload hX 3 rfl (atL dAX5_setSquare_0 44 rfl) ?_
      refine v_iload hX 0 rfl (atL dAX5_setSquare_0 45 rfl) ?_
      refine v_isub hX (iI_sub _ _) (atL dAX5_setSquare_0 46 rfl) ?_
      refine v_icmp_ge hX ⟨by omega, by omega⟩ ⟨by omega, by omega⟩ (tgt := 106) (atL dAX5_setSquare_0 47 rfl) (by decide) (fun h80 => absurd h80 (by omega)) (fun h80 => ?_)
      refine v_lload hX 1 rfl (atL dAX5_setSquare_0 48 rfl) ?_
      refine v_aload_n hX 5 rfl (atL dAX5_setSquare_0 49 rfl) ?_
      refine v_iload hX 0 rfl (atL dAX5_setSquare_0 50 rfl) ?_
      refine v_lald hX (r := jI ((dgt v i0 : Int))) i0 ho2 (fun _ => rfl) rfl (by omega) (by decide) (congrArg jI (by rw [hso3]; exact hdg i0 (by omega))) (atL dAX5_setSquare_0 51 rfl) ?_
      refine v_aload_n hX 5 rfl (atL dAX5_setSquare_0 52 rfl) ?_
      refine v_iload hX 3 rfl (atL dAX5_setSquare_0 53 rfl) ?_
      refine v_iload hX 0 rfl (atL dAX5_setSquare_0 54 rfl) ?_
      refine v_isub hX (iI_sub _ _) (atL dAX5_setSquare_0 55 rfl) ?_
      refine v_lald hX (r := jI ((dgt v (k - i0) : Int))) (k - i0) ho2 (fun _ => rfl) (by omega) (by omega) (by decide) (congrArg jI (by rw [hso3]; exact hdg (k - i0) (by omega))) (atL dAX5_setSquare_0 56 rfl) ?_
      refine v_lmul hX (jI_mul _ _) (atL dAX5_setSquare_0 57 rfl) ?_
      refine v_ladd hX (jI_add _ _) (atL dAX5_setSquare_0 58 rfl) ?_
      rw [show (S : Int) + (dgt v i0 : Int) * (dgt v (k - i0) : Int) = ((S + dgt v i0 * dgt v (k - i0) : Nat) : Int) by rw [Int.natCast_add, Int.natCast_mul]]
      refine v_lstore hX (lv' := [(8, .long (jI (((S + dgt v i0 * dgt v (k - i0) : Nat) : Int)))), (10, .int (iI ((i0 : Int)))), (7, .int (iI ((lo : Int)))), (6, .int (iI ((k : Int)))), (4, .long (jI ((c : Int)))), (3, .ref (w.1 4 o)), (2, .int (iI (2 * (u : Int)))), (0, .ref (w.1 3 i)), (1, .ref (w.1 3 o))]) (Nat.le_of_ble_eq_true rfl) rfl (atL dAX5_setSquare_0 59 rfl) ?_
      refine v_iinc hX (lv' := [(10, .int (iI (((i0 : Int)) + 1))), (8, .long (jI (((S + dgt v i0 * dgt v (k - i0) : Nat) : Int)))), (7, .int (iI ((lo : Int)))), (6, .int (iI ((k : Int)))), (4, .long (jI ((c : Int)))), (3, .ref (w.1 4 o)), (2, .int (iI (2 * (u : Int)))), (0, .ref (w.1 3 i)), (1, .ref (w.1 3 o))]) 1 rfl (iI_add _ _) (Nat.le_of_ble_eq_true rfl) rfl (atL dAX5_setSquare_1 0 rfl) ?_
      refine v_goto hX (tgt := 73) (atL dAX5_setSquare_1 1 rfl) (by decide) ?_
      refine v_sub (lv' := [(10, .int (iI (((i0 : Int)) + 1))), (8, .long (jI (((S + dgt v i0 * dgt v (k - i0) : Nat) : Int)))), (7, .int (iI ((lo : Int)))), (6, .int (iI ((k : Int)))), (4, .long (jI ((c : Int)))), (3, .ref (w.1 4 o)), (2, .int (iI (2 * (u : Int)))), (0, .ref (w.1 3 i)), (1, .ref (w.1 3 o))]) [0, 1, 2, 3, 4, 5, 6, 7, 8] rfl ?_
      rw [show (i0 : Int) + 1 = ((i0 + 1 : Nat) : Int) by omega]
      refine ih (i0 + 1) _ (by omega) (by omega) ?_ ?_
      · rw [hS]; rfl
      · rw [show i0 + 1 - lo = (i0 - lo) + 1 by omega, Nat.add_mul]; omega
  have outer : 0 < u → u ≤ 40 → ∀ (n k c : Nat) (s : St), k + n = 2 * u - 1 → c < 34359738368 → WDg s i → Fr [(2, i), (3, i)] σ s → vB 268435456 (fW s i) k + c * 268435456 ^ k = vB 268435456 (cv (dgt v) (dgt v)) k → V X (0, 0) w 34 [(6, .int (iI ((k : Int)))), (4, .long (jI ((c : Int)))), (3, .ref (w.1 4 o)), (2, .int (iI (2 * (u : Int)))), (0, .ref (w.1 3 i)), (1, .ref (w.1 3 o))] s [] := by
    intro hu0 hu40 n
    induction n with
    | zero =>
      intro k c s hk hc hds hfr hval
      have hpr : vB 268435456 (fW s i) k + c * 268435456 ^ k = v * v := by rw [hval, cv_prod (fun j hj => dgt_0 hvu hj) (fun j hj => dgt_0 hvu hj) hu0 hu0 (by omega), dgt_all hvu]
      have hlt : v * v < 268435456 ^ (k + 1) := by rw [show k + 1 = u + u by omega, Nat.pow_add]; exact Nat.mul_lt_mul'' hvu hvu
      have hcB := top_lt hpr hlt
      have hso : s 2 o 0 = (u : Int) := by rw [hfr 2 o (by simp [hno])]; exact hu
      refine v_iload hX 0 rfl (atL dAX5_setSquare_0 21 rfl) ?_
      refine v_iload_n hX 3 rfl (atL dAX5_setSquare_0 22 rfl) ?_
      refine v_iconst hX (atL dAX5_setSquare_0 23 rfl) ?_
      refine v_isub hX (iI_sub _ _) (atL dAX5_setSquare_0 24 rfl) ?_
      refine v_icmp_ge hX ⟨by omega, by omega⟩ ⟨by omega, by omega⟩ (tgt := 167) (atL dAX5_setSquare_0 25 rfl) (by decide) (fun h39 => ?_) (fun h39 => absurd h39 (by omega))
      refine v_aload_n hX 4 rfl (atL dAX5_setSquare_1 39 rfl) ?_
      refine gf_X5_9 hX hi (atL dAX5_setSquare_1 40 rfl) ?_
      refine v_iload_n hX 3 rfl (atL dAX5_setSquare_1 41 rfl) ?_
      refine v_iconst hX (atL dAX5_setSquare_1 42 rfl) ?_
      refine v_isub hX (iI_sub _ _) (atL dAX5_setSquare_1 43 rfl) ?_
      refine v_lload hX 1 rfl (atL dAX5_setSquare_1 44 rfl) ?_
      refine v_last hX (c := 3) k hi2 (by decide) (fun _ _ => rfl) (by omega) (by omega) (by decide) (atL dAX5_setSquare_1 45 rfl) ?_
      refine v_aload_n hX 4 rfl (atL dAX5_setSquare_1 46 rfl) ?_
      refine v_iload_n hX 3 rfl (atL dAX5_setSquare_1 47 rfl) ?_
      rw [show 2 * (u : Int) = ((k + 1 : Nat) : Int) by omega]
      refine v_callV hX (As := [.int (iI (((k + 1 : Nat) : Int)))]) (rest := []) (c_X5_trim (xl X) w (su s 3 i k ((c : Int))) i (k + 1) hi (hds.su ⟨by omega, by omega⟩) (by omega)) lk_X5_29 hi (fun _ => rfl) rfl rfl rfl (by rw [hR]; exact ⟨Nat.le_of_ble_eq_true rfl, Nat.le_of_ble_eq_true rfl⟩) ⟨Nat.zero_le _, Nat.zero_le _⟩ rfl (Nat.le_of_ble_eq_true rfl) (atL dAX5_setSquare_1 48 rfl) (fun _ s1 h1 => ?_)
      obtain ⟨t, h1a, rfl, h1b, h1c⟩ := h1
      show V X _ w _ _ (su (su s 3 i k ((c : Int))) 2 i 0 ((t : Int))) []
      exact v_vret hX (atL dAX5_setSquare_1 49 rfl) (hret () _ ⟨trim_nm (hds.su ⟨by omega, by omega⟩) (by omega) h1a h1b h1c (by rw [vB_suN]; exact hpr), (hfr.tr' (Fr.su (by simp))).tr' (Fr.su (by simp))⟩)
    | succ n ih =>
      intro k c s hk hc hds hfr hval
      have hso : s 2 o 0 = (u : Int) := by rw [hfr 2 o (by simp [hno])]; exact hu
      have hso3 := hfr 3 o (by simp [hno])
      have hcv := cv_sq (dgt v) k
      have cont0 : ∀ (lo : Nat), lo ≤ (k + 1) / 2 → (k + 1) / 2 ≤ lo + 20 → (k + 1) / 2 ≤ u → k < lo + u → (∀ j, j < lo → u ≤ k - j) → V X (0, 0) w 73 [(10, .int (iI (lo : Int))), (8, .long (jI 0)), (7, .int (iI (lo : Int))), (6, .int (iI ((k : Int)))), (4, .long (jI ((c : Int)))), (3, .ref (w.1 4 o)), (2, .int (iI (2 * (u : Int)))), (0, .ref (w.1 3 i)), (1, .ref (w.1 3 o))] s [] := by
        intro lo hlh h20 hhu hkx hzl
        have hz0 : sm (fun q => dgt v q * dgt v (k - q)) lo = 0 := sm_none (fun j hj => by show dgt v j * dgt v (k - j) = 0; rw [dgt_0 hvu (hzl j hj), Nat.mul_zero])
        have hsb : sm (fun q => dgt v q * dgt v (k - q)) ((k + 1) / 2) ≤ ((k + 1) / 2 - lo) * 72057594037927936 := by
          have hgen : ∀ m, lo ≤ m → sm (fun q => dgt v q * dgt v (k - q)) m ≤ (m - lo) * 72057594037927936 := by
            intro m hm
            induction m with
            | zero => show 0 ≤ _; omega
            | succ m ihm =>
              rcases Nat.lt_or_ge m lo with hml | hml
              · rw [show m + 1 = lo by omega, hz0]; omega
              · have := ihm hml
                have := mul_bound (dgt_lt v m) (dgt_lt v (k - m))
                show sm (fun q => dgt v q * dgt v (k - q)) m + dgt v m * dgt v (k - m) ≤ _
                rw [show m + 1 - lo = (m - lo) + 1 by omega, Nat.add_mul]
                omega
          exact hgen _ (by omega)
        refine inner hu0 hu40 k lo c s (by omega) hlh h20 hhu hkx hso3 ?_ ((k + 1) / 2 - lo) lo 0 (by omega) (Nat.le_refl lo) (by rw [hz0]) (by omega)
        obtain ⟨T, hT⟩ : ∃ T, sm (fun q => dgt v q * dgt v (k - q)) ((k + 1) / 2) = T := ⟨_, rfl⟩
        rw [hT] at hsb hcv ⊢
        refine v_lload hX 1 rfl (atL dAX5_setSquare_1 2 rfl) ?_
        refine v_lload hX 1 rfl (atL dAX5_setSquare_1 3 rfl) ?_
        refine v_lload hX 4 rfl (atL dAX5_setSquare_1 4 rfl) ?_
        refine v_ladd hX (jI_add _ _) (atL dAX5_setSquare_1 5 rfl) ?_
        refine v_ladd hX (jI_add _ _) (atL dAX5_setSquare_1 6 rfl) ?_
        refine v_lstore hX (lv' := [(8, .long (jI (((T : Int)) + (((T : Int)) + ((c : Int)))))), (10, .int (iI ((((k + 1) / 2 : Nat) : Int)))), (7, .int (iI ((lo : Int)))), (6, .int (iI ((k : Int)))), (4, .long (jI ((c : Int)))), (3, .ref (w.1 4 o)), (2, .int (iI (2 * (u : Int)))), (0, .ref (w.1 3 i)), (1, .ref (w.1 3 o))]) (Nat.le_of_ble_eq_true rfl) rfl (atL dAX5_setSquare_1 7 rfl) ?_
        refine v_iload hX 3 rfl (atL dAX5_setSquare_1 8 rfl) ?_
        refine v_iconst hX (atL dAX5_setSquare_1 9 rfl) ?_
        refine v_irem hX (fun e0 => absurd ((iI_eq (b := 0) ⟨by omega, by omega⟩ ⟨by omega, by omega⟩).mp e0) (by omega)) (iI_rem (by omega) (by omega) (by omega) (by omega)) (atL dAX5_setSquare_1 10 rfl) ?_
        refine v_if_ne hX ⟨by omega, by omega⟩ (tgt := 141) (atL dAX5_setSquare_1 11 rfl) (by decide) (fun h120 => ?_) (fun h120 => ?_)
        · rw [show ((T : Int)) + (((T : Int)) + ((c : Int))) = ((T + (T + c) : Nat) : Int) from (by rw [Int.natCast_add, Int.natCast_add])]
          have hmq : True := trivial
          rw [if_neg (by omega)] at hcv
          obtain ⟨M, hM⟩ : ∃ M, T + (T + c) = M := ⟨_, rfl⟩
          have hMb : M < 4611686018427387904 := by omega
          have hMc : M = c + cv (dgt v) (dgt v) k := by omega
          rw [hM]
          refine v_aload_n hX 7 rfl (atL dAX5_setSquare_1 26 rfl) ?_
          refine gf_X5_9 hX hi (atL dAX5_setSquare_1 27 rfl) ?_
          refine v_iload hX 3 rfl (atL dAX5_setSquare_1 28 rfl) ?_
          refine v_lload hX 0 rfl (atL dAX5_setSquare_1 29 rfl) ?_
          refine v_ldc2 hX (r := 268435455) wd_413 (by decide +kernel) (atL dAX5_setSquare_1 30 rfl) ?_
          refine v_land hX (r := jI (((M : Int)) % 268435456)) (jI_mask _ 28 (by decide)) (atL dAX5_setSquare_1 31 rfl) ?_
          refine v_last hX (c := 3) k hi2 (by decide) (fun _ _ => rfl) rfl (by omega) (by decide) (atL dAX5_setSquare_1 32 rfl) ?_
          refine v_lload hX 0 rfl (atL dAX5_setSquare_1 33 rfl) ?_
          refine v_bipush hX (by decide +kernel) (atL dAX5_setSquare_1 34 rfl) ?_
          refine v_lshr hX (r := jI (((M : Int)) / 268435456)) (jI_shr ⟨by omega, by omega⟩ 28 (by decide)) (atL dAX5_setSquare_1 35 rfl) ?_
          refine v_lstore hX (lv' := [(4, .long (jI (((M : Int)) / 268435456))), (8, .long (jI ((M : Int)))), (10, .int (iI ((((k + 1) / 2 : Nat) : Int)))), (7, .int (iI ((lo : Int)))), (6, .int (iI ((k : Int)))), (3, .ref (w.1 4 o)), (2, .int (iI (2 * (u : Int)))), (0, .ref (w.1 3 i)), (1, .ref (w.1 3 o))]) (Nat.le_of_ble_eq_true rfl) rfl (atL dAX5_setSquare_1 36 rfl) ?_
          refine v_iinc hX (lv' := [(6, .int (iI (((k : Int)) + 1))), (4, .long (jI (((M : Int)) / 268435456))), (8, .long (jI ((M : Int)))), (10, .int (iI ((((k + 1) / 2 : Nat) : Int)))), (7, .int (iI ((lo : Int)))), (3, .ref (w.1 4 o)), (2, .int (iI (2 * (u : Int)))), (0, .ref (w.1 3 i)), (1, .ref (w.1 3 o))]) 4 rfl (iI_add _ _) (Nat.le_of_ble_eq_true rfl) rfl (atL dAX5_setSquare_1 37 rfl) ?_
          refine v_goto hX (tgt := 34) (atL dAX5_setSquare_1 38 rfl) (by decide) ?_
          refine v_sub (lv' := [(6, .int (iI (((k : Int)) + 1))), (4, .long (jI (((M : Int)) / 268435456))), (3, .ref (w.1 4 o)), (2, .int (iI (2 * (u : Int)))), (0, .ref (w.1 3 i)), (1, .ref (w.1 3 o))]) [0, 1, 5, 6, 7, 8] rfl ?_
          rw [show (M : Int) / 268435456 = ((M / 268435456 : Nat) : Int) by omega, show (M : Int) % 268435456 = ((M % 268435456 : Nat) : Int) by omega, show (k : Int) + 1 = ((k + 1 : Nat) : Int) by omega]
          refine ih (k + 1) (M / 268435456) _ (by omega) (by omega) (hds.su ⟨by omega, by omega⟩) (hfr.tr' (Fr.su (by simp))) ?_
          rw [vB_suN, Nat.pow_succ, flush_step, vB_suc, ← hval, hMc, Nat.add_mul]
          omega
        · refine v_lload hX 0 rfl (atL dAX5_setSquare_1 12 rfl) ?_
          refine v_aload_n hX 5 rfl (atL dAX5_setSquare_1 13 rfl) ?_
          refine v_iload hX 3 rfl (atL dAX5_setSquare_1 14 rfl) ?_
          refine v_iconst hX (atL dAX5_setSquare_1 15 rfl) ?_
          refine v_idiv hX (fun e0 => absurd ((iI_eq (b := 0) ⟨by omega, by omega⟩ ⟨by omega, by omega⟩).mp e0) (by omega)) (iI_div (by omega) (by omega) (by omega) (by omega)) (atL dAX5_setSquare_1 16 rfl) ?_
          refine v_lald hX (r := jI ((dgt v (k / 2) : Int))) (k / 2) ho2 (fun _ => rfl) (by omega) (by omega) (by decide) (congrArg jI (by rw [hso3]; exact hdg (k / 2) (by omega))) (atL dAX5_setSquare_1 17 rfl) ?_
          refine v_aload_n hX 5 rfl (atL dAX5_setSquare_1 18 rfl) ?_
          refine v_iload hX 3 rfl (atL dAX5_setSquare_1 19 rfl) ?_
          refine v_iconst hX (atL dAX5_setSquare_1 20 rfl) ?_
          refine v_idiv hX (fun e0 => absurd ((iI_eq (b := 0) ⟨by omega, by omega⟩ ⟨by omega, by omega⟩).mp e0) (by omega)) (iI_div (by omega) (by omega) (by omega) (by omega)) (atL dAX5_setSquare_1 21 rfl) ?_
          refine v_lald hX (r := jI ((dgt v (k / 2) : Int))) (k / 2) ho2 (fun _ => rfl) (by omega) (by omega) (by decide) (congrArg jI (by rw [hso3]; exact hdg (k / 2) (by omega))) (atL dAX5_setSquare_1 22 rfl) ?_
          refine v_lmul hX (jI_mul _ _) (atL dAX5_setSquare_1 23 rfl) ?_
          refine v_ladd hX (jI_add _ _) (atL dAX5_setSquare_1 24 rfl) ?_
          refine v_lstore hX (lv' := [(8, .long (jI ((((T : Int)) + (((T : Int)) + ((c : Int)))) + (((dgt v (k / 2) : Int)) * ((dgt v (k / 2) : Int)))))), (10, .int (iI ((((k + 1) / 2 : Nat) : Int)))), (7, .int (iI ((lo : Int)))), (6, .int (iI ((k : Int)))), (4, .long (jI ((c : Int)))), (3, .ref (w.1 4 o)), (2, .int (iI (2 * (u : Int)))), (0, .ref (w.1 3 i)), (1, .ref (w.1 3 o))]) (Nat.le_of_ble_eq_true rfl) rfl (atL dAX5_setSquare_1 25 rfl) ?_
          rw [show (((T : Int)) + (((T : Int)) + ((c : Int)))) + (((dgt v (k / 2) : Int)) * ((dgt v (k / 2) : Int))) = ((T + (T + c) + dgt v (k / 2) * dgt v (k / 2) : Nat) : Int) from (by rw [Int.natCast_add, Int.natCast_add, Int.natCast_add, Int.natCast_mul])]
          have hmq := mul_bound (dgt_lt v (k / 2)) (dgt_lt v (k / 2))
          rw [if_pos (by omega)] at hcv
          obtain ⟨M, hM⟩ : ∃ M, T + (T + c) + dgt v (k / 2) * dgt v (k / 2) = M := ⟨_, rfl⟩
          have hMb : M < 4611686018427387904 := by omega
          have hMc : M = c + cv (dgt v) (dgt v) k := by omega
          rw [hM]
          refine v_aload_n hX 7 rfl (atL dAX5_setSquare_1 26 rfl) ?_
          refine gf_X5_9 hX hi (atL dAX5_setSquare_1 27 rfl) ?_
          refine v_iload hX 3 rfl (atL dAX5_setSquare_1 28 rfl) ?_
          refine v_lload hX 0 rfl (atL dAX5_setSquare_1 29 rfl) ?_
          refine v_ldc2 hX (r := 268435455) wd_413 (by decide +kernel) (atL dAX5_setSquare_1 30 rfl) ?_
          refine v_land hX (r := jI (((M : Int)) % 268435456)) (jI_mask _ 28 (by decide)) (atL dAX5_setSquare_1 31 rfl) ?_
          refine v_last hX (c := 3) k hi2 (by decide) (fun _ _ => rfl) rfl (by omega) (by decide) (atL dAX5_setSquare_1 32 rfl) ?_
          refine v_lload hX 0 rfl (atL dAX5_setSquare_1 33 rfl) ?_
          refine v_bipush hX (by decide +kernel) (atL dAX5_setSquare_1 34 rfl) ?_
          refine v_lshr hX (r := jI (((M : Int)) / 268435456)) (jI_shr ⟨by omega, by omega⟩ 28 (by decide)) (atL dAX5_setSquare_1 35 rfl) ?_
          refine v_lstore hX (lv' := [(4, .long (jI (((M : Int)) / 268435456))), (8, .long (jI ((M : Int)))), (10, .int (iI ((((k + 1) / 2 : Nat) : Int)))), (7, .int (iI ((lo : Int)))), (6, .int (iI ((k : Int)))), (3, .ref (w.1 4 o)), (2, .int (iI (2 * (u : Int)))), (0, .ref (w.1 3 i)), (1, .ref (w.1 3 o))]) (Nat.le_of_ble_eq_true rfl) rfl (atL dAX5_setSquare_1 36 rfl) ?_
          refine v_iinc hX (lv' := [(6, .int (iI (((k : Int)) + 1))), (4, .long (jI (((M : Int)) / 268435456))), (8, .long (jI ((M : Int)))), (10, .int (iI ((((k + 1) / 2 : Nat) : Int)))), (7, .int (iI ((lo : Int)))), (3, .ref (w.1 4 o)), (2, .int (iI (2 * (u : Int)))), (0, .ref (w.1 3 i)), (1, .ref (w.1 3 o))]) 4 rfl (iI_add _ _) (Nat.le_of_ble_eq_true rfl) rfl (atL dAX5_setSquare_1 37 rfl) ?_
          refine v_goto hX (tgt := 34) (atL dAX5_setSquare_1 38 rfl) (by decide) ?_
          refine v_sub (lv' := [(6, .int (iI (((k : Int)) + 1))), (4, .long (jI (((M : Int)) / 268435456))), (3, .ref (w.1 4 o)), (2, .int (iI (2 * (u : Int)))), (0, .ref (w.1 3 i)), (1, .ref (w.1 3 o))]) [0, 1, 5, 6, 7, 8] rfl ?_
          rw [show (M : Int) / 268435456 = ((M / 268435456 : Nat) : Int) by omega, show (M : Int) % 268435456 = ((M % 268435456 : Nat) : Int) by omega, show (k : Int) + 1 = ((k + 1 : Nat) : Int) by omega]
          refine ih (k + 1) (M / 268435456) _ (by omega) (by omega) (hds.su ⟨by omega, by omega⟩) (hfr.tr' (Fr.su (by simp))) ?_
          rw [vB_suN, Nat.pow_succ, flush_step, vB_suc, ← hval, hMc, Nat.add_mul]
          omega
      refine v_iload hX 0 rfl (atL dAX5_setSquare_0 21 rfl) ?_
      refine v_iload_n hX 3 rfl (atL dAX5_setSquare_0 22 rfl) ?_
      refine v_iconst hX (atL dAX5_setSquare_0 23 rfl) ?_
      refine v_isub hX (iI_sub _ _) (atL dAX5_setSquare_0 24 rfl) ?_
      refine v_icmp_ge hX ⟨by omega, by omega⟩ ⟨by omega, by omega⟩ (tgt := 167) (atL dAX5_setSquare_0 25 rfl) (by decide) (fun h39 => absurd h39 (by omega)) (fun h39 => ?_)
      refine v_iload hX 0 rfl (atL dAX5_setSquare_0 26 rfl) ?_
      refine v_aload_n hX 5 rfl (atL dAX5_setSquare_0 27 rfl) ?_
      refine gf_X5_13 hX (v := (u : Int)) (hso) ho (atL dAX5_setSquare_0 28 rfl) ?_
      refine v_icmp_ge hX ⟨by omega, by omega⟩ ⟨by omega, by omega⟩ (tgt := 55) (atL dAX5_setSquare_0 29 rfl) (by decide) (fun h48 => ?_) (fun h48 => ?_)
      · refine v_iload hX 0 rfl (atL dAX5_setSquare_0 32 rfl) ?_
        refine v_aload_n hX 5 rfl (atL dAX5_setSquare_0 33 rfl) ?_
        refine gf_X5_13 hX (v := (u : Int)) (hso) ho (atL dAX5_setSquare_0 34 rfl) ?_
        refine v_isub hX (iI_sub _ _) (atL dAX5_setSquare_0 35 rfl) ?_
        refine v_iconst hX (atL dAX5_setSquare_0 36 rfl) ?_
        refine v_iadd hX (iI_add _ _) (atL dAX5_setSquare_0 37 rfl) ?_
        refine v_istore hX (lv' := [(7, .int (iI ((((k : Int)) - ((u : Int))) + 1))), (6, .int (iI ((k : Int)))), (4, .long (jI ((c : Int)))), (3, .ref (w.1 4 o)), (2, .int (iI (2 * (u : Int)))), (0, .ref (w.1 3 i)), (1, .ref (w.1 3 o))]) (Nat.le_of_ble_eq_true rfl) rfl (atL dAX5_setSquare_0 38 rfl) ?_
        refine v_lconst hX (atL dAX5_setSquare_0 39 rfl) ?_
        show V X _ w _ _ _ (.long (jI (0)) :: _)
        refine v_lstore hX (lv' := [(8, .long (jI (0))), (7, .int (iI ((((k : Int)) - ((u : Int))) + 1))), (6, .int (iI ((k : Int)))), (4, .long (jI ((c : Int)))), (3, .ref (w.1 4 o)), (2, .int (iI (2 * (u : Int)))), (0, .ref (w.1 3 i)), (1, .ref (w.1 3 o))]) (Nat.le_of_ble_eq_true rfl) rfl (atL dAX5_setSquare_0 40 rfl) ?_
        refine v_iload hX 1 rfl (atL dAX5_setSquare_0 41 rfl) ?_
        refine v_istore hX (lv' := [(10, .int (iI ((((k : Int)) - ((u : Int))) + 1))), (8, .long (jI (0))), (7, .int (iI ((((k : Int)) - ((u : Int))) + 1))), (6, .int (iI ((k : Int)))), (4, .long (jI ((c : Int)))), (3, .ref (w.1 4 o)), (2, .int (iI (2 * (u : Int)))), (0, .ref (w.1 3 i)), (1, .ref (w.1 3 o))]) (Nat.le_of_ble_eq_true rfl) rfl (atL dAX5_setSquare_0 42 rfl) ?_
        refine v_sub (lv' := [(10, .int (iI ((((k : Int)) - ((u : Int))) + 1))), (8, .long (jI (0))), (7, .int (iI ((((k : Int)) - ((u : Int))) + 1))), (6, .int (iI ((k : Int)))), (4, .long (jI ((c : Int)))), (3, .ref (w.1 4 o)), (2, .int (iI (2 * (u : Int)))), (0, .ref (w.1 3 i)), (1, .ref (w.1 3 o))]) [0, 1, 2, 3, 4, 5, 6, 7, 8] rfl ?_
        rw [show (((k : Int)) - ((u : Int))) + 1 = ((k - u + 1 : Nat) : Int) by omega]
        exact cont0 (k - u + 1) (by omega) (by omega) (by omega) (by omega) (fun j hj => by omega)
      · refine v_iconst hX (atL dAX5_setSquare_0 30 rfl) ?_
        refine v_goto hX (tgt := 64) (atL dAX5_setSquare_0 31 rfl) (by decide) ?_
        refine v_istore hX (lv' := [(7, .int (iI (0))), (6, .int (iI ((k : Int)))), (4, .long (jI ((c : Int)))), (3, .ref (w.1 4 o)), (2, .int (iI (2 * (u : Int)))), (0, .ref (w.1 3 i)), (1, .ref (w.1 3 o))]) (Nat.le_of_ble_eq_true rfl) rfl (atL dAX5_setSquare_0 38 rfl) ?_
        refine v_lconst hX (atL dAX5_setSquare_0 39 rfl) ?_
        show V X _ w _ _ _ (.long (jI (0)) :: _)
        refine v_lstore hX (lv' := [(8, .long (jI (0))), (7, .int (iI (0))), (6, .int (iI ((k : Int)))), (4, .long (jI ((c : Int)))), (3, .ref (w.1 4 o)), (2, .int (iI (2 * (u : Int)))), (0, .ref (w.1 3 i)), (1, .ref (w.1 3 o))]) (Nat.le_of_ble_eq_true rfl) rfl (atL dAX5_setSquare_0 40 rfl) ?_
        refine v_iload hX 1 rfl (atL dAX5_setSquare_0 41 rfl) ?_
        refine v_istore hX (lv' := [(10, .int (iI (0))), (8, .long (jI (0))), (7, .int (iI (0))), (6, .int (iI ((k : Int)))), (4, .long (jI ((c : Int)))), (3, .ref (w.1 4 o)), (2, .int (iI (2 * (u : Int)))), (0, .ref (w.1 3 i)), (1, .ref (w.1 3 o))]) (Nat.le_of_ble_eq_true rfl) rfl (atL dAX5_setSquare_0 42 rfl) ?_
        refine v_sub (lv' := [(10, .int (iI (0))), (8, .long (jI (0))), (7, .int (iI (0))), (6, .int (iI ((k : Int)))), (4, .long (jI ((c : Int)))), (3, .ref (w.1 4 o)), (2, .int (iI (2 * (u : Int)))), (0, .ref (w.1 3 i)), (1, .ref (w.1 3 o))]) [0, 1, 2, 3, 4, 5, 6, 7, 8] rfl ?_
        exact cont0 (0) (by omega) (by omega) (by omega) (by omega) (fun j hj => by omega)
  refine v_iconst hX (atL dAX5_setSquare_0 0 rfl) ?_
  refine v_aload_n hX 1 rfl (atL dAX5_setSquare_0 1 rfl) ?_
  refine gf_X5_13 hX (v := (u : Int)) (hu) ho (atL dAX5_setSquare_0 2 rfl) ?_
  refine v_imul hX (iI_mul _ _) (atL dAX5_setSquare_0 3 rfl) ?_
  refine v_istore_n hX (i := 2) rfl (lv' := [(2, .int (iI (2 * ((u : Int))))), (0, .ref (w.1 3 i)), (1, .ref (w.1 3 o))]) (Nat.le_of_ble_eq_true rfl) rfl (atL dAX5_setSquare_0 4 rfl) ?_
  refine v_aload_n hX 1 rfl (atL dAX5_setSquare_0 5 rfl) ?_
  refine v_iconst hX (atL dAX5_setSquare_0 6 rfl) ?_
  refine pf_X5_13 hX hi (atL dAX5_setSquare_0 7 rfl) ?_
  refine v_iload_n hX 0 rfl (atL dAX5_setSquare_0 8 rfl) ?_
  refine v_if_eq hX ⟨by omega, by omega⟩ (tgt := 22) (atL dAX5_setSquare_0 9 rfl) (by decide) (fun h13 => ?_) (fun h13 => ?_)
  · exact v_vret hX (atL dAX5_setSquare_0 13 rfl) (hret () _ (by refine ⟨⟨0, su_s, by omega, by rw [su_rc (by decide)]; exact hdi, by omega, ?_⟩, Fr.su (by simp)⟩; show 0 = v * v; rw [(WN_0 ht hd hv).mp (by omega)]))
  · refine v_iload_n hX 0 rfl (atL dAX5_setSquare_0 10 rfl) ?_
    refine v_bipush hX (by decide +kernel) (atL dAX5_setSquare_0 11 rfl) ?_
    refine v_icmp_le hX ⟨by omega, by omega⟩ ⟨by omega, by omega⟩ (tgt := 23) (atL dAX5_setSquare_0 12 rfl) (by decide) (fun h19 => ?_) (fun h19 => absurd h19 (by omega))
    refine v_aload_n hX 2 rfl (atL dAX5_setSquare_0 14 rfl) ?_
    refine gf_X5_9 hX ho (atL dAX5_setSquare_0 15 rfl) ?_
    refine v_astore_n hX (i := 3) rfl (lv' := [(3, .ref (w.1 4 o)), (2, .int (iI (2 * ((u : Int))))), (0, .ref (w.1 3 i)), (1, .ref (w.1 3 o))]) (Nat.le_of_ble_eq_true rfl) rfl (atL dAX5_setSquare_0 16 rfl) ?_
    refine v_lconst hX (atL dAX5_setSquare_0 17 rfl) ?_
    show V X _ w _ _ _ (.long (jI (0)) :: _)
    refine v_lstore hX (lv' := [(4, .long (jI (0))), (3, .ref (w.1 4 o)), (2, .int (iI (2 * ((u : Int))))), (0, .ref (w.1 3 i)), (1, .ref (w.1 3 o))]) (Nat.le_of_ble_eq_true rfl) rfl (atL dAX5_setSquare_0 18 rfl) ?_
    refine v_iconst hX (atL dAX5_setSquare_0 19 rfl) ?_
    refine v_istore hX (lv' := [(6, .int (iI (0))), (4, .long (jI (0))), (3, .ref (w.1 4 o)), (2, .int (iI (2 * ((u : Int))))), (0, .ref (w.1 3 i)), (1, .ref (w.1 3 o))]) (Nat.le_of_ble_eq_true rfl) rfl (atL dAX5_setSquare_0 20 rfl) ?_
    exact outer (by omega) (by omega) (2 * u - 1) 0 0 _ (by omega) (by omega) (by intro j; rw [su_rc (by decide)]; exact hdi j) (Fr.su (by simp)) rfl
