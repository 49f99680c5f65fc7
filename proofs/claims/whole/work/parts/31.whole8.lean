set_option maxHeartbeats 1000000 in
set_option maxRecDepth 100000 in
theorem c_X5_setProduct (l : Launch) (w : Wl) (σ : St) (i : Nat) (hi : w.2 3 i) (hdi : WDg σ i) (o v : Nat) (ho : w.2 3 o) (hM : WN σ o v) (r y : Nat) (hr : w.2 3 r) (hK : WN σ r y) (hno : o ≠ i) (hnr : r ≠ i) (hfit : v * y = 0 ∨ blen v + blen y ≤ 2184) : Cn l yX5_setProduct cX5_setProduct 12 none 1 22 wN [.ref (w.1 3 i), .ref (w.1 3 o), .ref (w.1 3 r)] w σ (fun _ σ' => WN σ' i (v * y) ∧ Fr [(2, i), (3, i)] σ σ') := by
  refine Cn.of (own := RX5) (lv := [(0, .ref (w.1 3 i)), (1, .ref (w.1 3 o)), (2, .ref (w.1 3 r))]) (by decide +kernel) rfl (Nat.le_of_ble_eq_true rfl) rfl (fun X hX hxl hR hcl hret => ?_)
  subst hxl
  have hi2 : w.2 4 i := hcl 3 i hi (4, i) (by simp [mn, tp])
  obtain ⟨u, hu, hu8, hd, ht, hv⟩ := hM
  obtain ⟨x, hx, hx8, he, hxt, hy⟩ := hK
  have ho2 : w.2 4 o := hcl 3 o ho (4, o) (by simp [mn, tp])
  have hr2 : w.2 4 r := hcl 3 r hr (4, r) (by simp [mn, tp])
  have h80 : 0 < u → 0 < x → u + x ≤ 80 := by
    intro h1 h2
    have a1 := WN_bl ht hd hv h1
    have a2 := WN_bl hxt he hy h2
    have b1 := WN.ge hd ht hv h1
    have b2 := WN.ge he hxt hy h2
    have c1 : 0 < 268435456 ^ (u - 1) := Nat.pow_pos (by omega)
    have c2 : 0 < 268435456 ^ (x - 1) := Nat.pow_pos (by omega)
    have c3 : 0 < v * y := Nat.mul_pos (by omega) (by omega)
    have d1 := blen_pos (show (σ 3 o (u - 1)).toNat ≠ 0 by have := ht h1; have := (hd (u - 1)).1; omega)
    have d2 := blen_pos (show (σ 3 r (x - 1)).toNat ≠ 0 by have := hxt h2; have := (he (x - 1)).1; omega)
    omega
  have hvu := used_lt_pow hd hv (Nat.le_refl u)
  have hyx := used_lt_pow he hy (Nat.le_refl x)
  have hdg : ∀ j, j < u → σ 3 o j = (dgt v j : Int) := fun j hj => by rw [← dgt_WN hd hv j, if_pos hj]
  have heg : ∀ j, j < x → σ 3 r j = (dgt y j : Int) := fun j hj => by rw [← dgt_WN he hy j, if_pos hj]
  have inner : 0 < u → 0 < x → u + x ≤ 80 → ∀ (k lo hi0 c : Nat) (s : St), k < u + x - 1 → lo ≤ hi0 + 1 → hi0 ≤ k → hi0 < u → k < lo + x → hi0 + 1 ≤ lo + 40 → c < 34359738368 → s 3 o = σ 3 o → s 3 r = σ 3 r → (V X (0, 0) w 144 [(11, .int (iI ((hi0 + 1 : Nat) : Int))), (10, .int (iI ((hi0 : Int)))), (9, .int (iI ((lo : Int)))), (8, .int (iI ((k : Int)))), (6, .long (jI ((c + sm (fun q => dgt v q * dgt y (k - q)) (hi0 + 1) : Nat) : Int))), (5, .ref (w.1 4 r)), (4, .ref (w.1 4 o)), (3, .int (iI ((u : Int) + (x : Int)))), (0, .ref (w.1 3 i)), (1, .ref (w.1 3 o)), (2, .ref (w.1 3 r))] s []) → ∀ (n i0 S : Nat), i0 + n = hi0 + 1 → lo ≤ i0 → S = c + sm (fun q => dgt v q * dgt y (k - q)) i0 → S ≤ c + (i0 - lo) * 72057594037927936 → V X (0, 0) w 112 [(11, .int (iI ((i0 : Int)))), (10, .int (iI ((hi0 : Int)))), (9, .int (iI ((lo : Int)))), (8, .int (iI ((k : Int)))), (6, .long (jI ((S : Int)))), (5, .ref (w.1 4 r)), (4, .ref (w.1 4 o)), (3, .int (iI ((u : Int) + (x : Int)))), (0, .ref (w.1 3 i)), (1, .ref (w.1 3 o)), (2, .ref (w.1 3 r))] s [] := by
    intro hu0 hx0 hux k lo hi0 c s hk hlo hik hiu hkx h40 hc hso3 hsr3 hend n
    induction n with
    | zero =>
      intro i0 S hn hl hS hSb
      obtain rfl : i0 = hi0 + 1 := by omega
      subst hS
      refine v_iload hX 0 rfl (atL dAX5_setProduct_1 0 rfl) ?_
      refine v_iload hX 1 rfl (atL dAX5_setProduct_1 1 rfl) ?_
      refine v_icmp_gt hX ⟨by omega, by omega⟩ ⟨by omega, by omega⟩ (tgt := 144) (atL dAX5_setProduct_1 2 rfl) (by decide) (fun h116 => ?_) (fun h116 => absurd h116 (by omega))
      exact hend
    | succ n ih =>
      intro i0 S hn hl hS hSb
      have hm1 := dgt_lt v i0
      have hm2 := dgt_lt y (k - i0)
      have hmb := mul_bound hm1 hm2
      refine v_iload hX 0 rfl (atL dAX5_setProduct_1 0 rfl) ?_
      refine v_iload hX 1 rfl (atL dAX5_setProduct_1 1 rfl) ?_
      refine v_icmp_gt hX ⟨by omega, by omega⟩ ⟨by omega, by omega⟩ (tgt := 144) (atL dAX5_setProduct_1 2 rfl) (by decide) (fun h116 => absurd h116 (by omega)) (fun h116 => ?_)
      refine v_lload hX 4 rfl (atL dAX5_setProduct_1 3 rfl) ?_
      refine v_aload hX 6 rfl (atL dAX5_setProduct_1 4 rfl) ?_
      refine v_iload hX 0 rfl (atL dAX5_setProduct_1 5 rfl) ?_
      refine v_lald hX (r := jI ((dgt v i0 : Int))) i0 ho2 (fun _ => rfl) rfl (by omega) (by decide) (congrArg jI (by rw [hso3]; exact hdg i0 (by omega))) (atL dAX5_setProduct_1 6 rfl) ?_
      refine v_aload hX 5 rfl (atL dAX5_setProduct_1 7 rfl) ?_
      refine v_iload hX 3 rfl (atL dAX5_setProduct_1 8 rfl) ?_
      refine v_iload hX 0 rfl (atL dAX5_setProduct_1 9 rfl) ?_
      refine v_isub hX (iI_sub _ _) (atL dAX5_setProduct_1 10 rfl) ?_
      refine v_lald hX (r := jI ((dgt y (k - i0) : Int))) (k - i0) hr2 (fun _ => rfl) (by omega) (by omega) (by decide) (congrArg jI (by rw [hsr3]; exact heg (k - i0) (by omega))) (atL dAX5_setProduct_1 11 rfl) ?_
      refine v_lmul hX (jI_mul _ _) (atL dAX5_setProduct_1 12 rfl) ?_
      refine v_ladd hX (jI_add _ _) (atL dAX5_setProduct_1 13 rfl) ?_
      rw [show (S : Int) + (dgt v i0 : Int) * (dgt y (k - i0) : Int) = ((S + dgt v i0 * dgt y (k - i0) : Nat) : Int) by rw [Int.natCast_add, Int.natCast_mul]]
      refine v_lstore hX (lv' := [(6, .long (jI (((S + dgt v i0 * dgt y (k - i0) : Nat) : Int)))), (11, .int (iI ((i0 : Int)))), (10, .int (iI ((hi0 : Int)))), (9, .int (iI ((lo : Int)))), (8, .int (iI ((k : Int)))), (5, .ref (w.1 4 r)), (4, .ref (w.1 4 o)), (3, .int (iI ((u : Int) + (x : Int)))), (0, .ref (w.1 3 i)), (1, .ref (w.1 3 o)), (2, .ref (w.1 3 r))]) (Nat.le_of_ble_eq_true rfl) rfl (atL dAX5_setProduct_1 14 rfl) ?_
      refine v_iinc hX (lv' := [(11, .int (iI (((i0 : Int)) + 1))), (6, .long (jI (((S + dgt v i0 * dgt y (k - i0) : Nat) : Int)))), (10, .int (iI ((hi0 : Int)))), (9, .int (iI ((lo : Int)))), (8, .int (iI ((k : Int)))), (5, .ref (w.1 4 r)), (4, .ref (w.1 4 o)), (3, .int (iI ((u : Int) + (x : Int)))), (0, .ref (w.1 3 i)), (1, .ref (w.1 3 o)), (2, .ref (w.1 3 r))]) 1 rfl (iI_add _ _) (Nat.le_of_ble_eq_true rfl) rfl (atL dAX5_setProduct_1 15 rfl) ?_
      refine v_goto hX (tgt := 112) (atL dAX5_setProduct_1 16 rfl) (by decide) ?_
      refine v_sub (lv' := [(11, .int (iI (((i0 : Int)) + 1))), (10, .int (iI ((hi0 : Int)))), (9, .int (iI ((lo : Int)))), (8, .int (iI ((k : Int)))), (6, .long (jI (((S + dgt v i0 * dgt y (k - i0) : Nat) : Int)))), (5, .ref (w.1 4 r)), (4, .ref (w.1 4 o)), (3, .int (iI ((u : Int) + (x : Int)))), (0, .ref (w.1 3 i)), (1, .ref (w.1 3 o)), (2, .ref (w.1 3 r))]) [0, 2, 3, 4, 1, 5, 6, 7, 8, 9, 10] rfl ?_
      rw [show (i0 : Int) + 1 = ((i0 + 1 : Nat) : Int) by omega]
      refine ih (i0 + 1) _ (by omega) (by omega) ?_ ?_
      · rw [hS]; show _ = c + (sm (fun q => dgt v q * dgt y (k - q)) i0 + dgt v i0 * dgt y (k - i0)); omega
      · rw [show i0 + 1 - lo = (i0 - lo) + 1 by omega, Nat.add_mul]; omega
  have outer : 0 < u → 0 < x → u + x ≤ 80 → ∀ (n k c : Nat) (s : St), k + n = u + x - 1 → c < 34359738368 → WDg s i → Fr [(2, i), (3, i)] σ s → vB 268435456 (fW s i) k + c * 268435456 ^ k = vB 268435456 (cv (dgt v) (dgt y)) k → ∀ lv0, lv_pick lv0 [0, 1, 2, 3, 4, 5, 6, 7] = [(8, .int (iI ((k : Int)))), (6, .long (jI ((c : Int)))), (5, .ref (w.1 4 r)), (4, .ref (w.1 4 o)), (3, .int (iI ((u : Int) + (x : Int)))), (0, .ref (w.1 3 i)), (1, .ref (w.1 3 o)), (2, .ref (w.1 3 r))] → V X (0, 0) w 54 lv0 s [] := by
    intro hu0 hx0 hux n
    induction n with
    | zero =>
      intro k c s hk hc hds hfr hval lv0 hlv
      refine v_sub _ hlv ?_
      have hpr : vB 268435456 (fW s i) k + c * 268435456 ^ k = v * y := by rw [hval, cv_prod (fun j hj => dgt_0 hvu hj) (fun j hj => dgt_0 hyx hj) hu0 hx0 (by omega), dgt_all hvu, dgt_all hyx]
      have hlt : v * y < 268435456 ^ (k + 1) := by rw [show k + 1 = u + x by omega, Nat.pow_add]; exact Nat.mul_lt_mul'' hvu hyx
      have hcB := top_lt hpr hlt
      have hso : s 2 o 0 = (u : Int) := by rw [hfr 2 o (by simp [hno])]; exact hu
      have hsr : s 2 r 0 = (x : Int) := by rw [hfr 2 r (by simp [hnr])]; exact hx
      refine v_iload hX 0 rfl (atL dAX5_setProduct_0 29 rfl) ?_
      refine v_iload_n hX 4 rfl (atL dAX5_setProduct_0 30 rfl) ?_
      refine v_iconst hX (atL dAX5_setProduct_0 31 rfl) ?_
      refine v_isub hX (iI_sub _ _) (atL dAX5_setProduct_0 32 rfl) ?_
      refine v_icmp_ge hX ⟨by omega, by omega⟩ ⟨by omega, by omega⟩ (tgt := 170) (atL dAX5_setProduct_0 33 rfl) (by decide) (fun h59 => ?_) (fun h59 => absurd h59 (by omega))
      refine v_aload_n hX 5 rfl (atL dAX5_setProduct_1 30 rfl) ?_
      refine gf_X5_9 hX hi (atL dAX5_setProduct_1 31 rfl) ?_
      refine v_iload_n hX 4 rfl (atL dAX5_setProduct_1 32 rfl) ?_
      refine v_iconst hX (atL dAX5_setProduct_1 33 rfl) ?_
      refine v_isub hX (iI_sub _ _) (atL dAX5_setProduct_1 34 rfl) ?_
      refine v_lload hX 1 rfl (atL dAX5_setProduct_1 35 rfl) ?_
      refine v_last hX (c := 3) k hi2 (by decide) (fun _ _ => rfl) (by omega) (by omega) (by decide) (atL dAX5_setProduct_1 36 rfl) ?_
      refine v_aload_n hX 5 rfl (atL dAX5_setProduct_1 37 rfl) ?_
      refine v_iload_n hX 4 rfl (atL dAX5_setProduct_1 38 rfl) ?_
      rw [show (u : Int) + (x : Int) = ((k + 1 : Nat) : Int) by omega]
      refine v_callV hX (As := [.int (iI (((k + 1 : Nat) : Int)))]) (rest := []) (c_X5_trim (xl X) w (su s 3 i k ((c : Int))) i (k + 1) hi (hds.su ⟨by omega, by omega⟩) (by omega)) lk_X5_29 hi (fun _ => rfl) rfl rfl rfl (by rw [hR]; exact ⟨Nat.le_of_ble_eq_true rfl, Nat.le_of_ble_eq_true rfl⟩) ⟨Nat.zero_le _, Nat.zero_le _⟩ rfl (Nat.le_of_ble_eq_true rfl) (atL dAX5_setProduct_1 39 rfl) (fun _ s1 h1 => ?_)
      obtain ⟨t, h1a, rfl, h1b, h1c⟩ := h1
      show V X _ w _ _ (su (su s 3 i k ((c : Int))) 2 i 0 ((t : Int))) []
      exact v_vret hX (atL dAX5_setProduct_1 40 rfl) (hret () _ ⟨trim_nm (hds.su ⟨by omega, by omega⟩) (by omega) h1a h1b h1c (by rw [vB_suN]; exact hpr), (hfr.tr' (Fr.su (by simp))).tr' (Fr.su (by simp))⟩)
    | succ n ih =>
      intro k c s hk hc hds hfr hval lv0 hlv
      refine v_sub _ hlv ?_
      have hso : s 2 o 0 = (u : Int) := by rw [hfr 2 o (by simp [hno])]; exact hu
      have hsr : s 2 r 0 = (x : Int) := by rw [hfr 2 r (by simp [hnr])]; exact hx
      have cont0 : ∀ (lo hi0 : Nat), lo ≤ hi0 → hi0 ≤ k → hi0 < u → k < lo + x → hi0 + 1 ≤ lo + 40 → (∀ j, j < lo → k - j ≥ x) → (∀ j, hi0 < j → j ≤ k → u ≤ j) → V X (0, 0) w 112 [(11, .int (iI (lo : Int))), (10, .int (iI (hi0 : Int))), (9, .int (iI (lo : Int))), (8, .int (iI (k : Int))), (6, .long (jI (c : Int))), (5, .ref (w.1 4 r)), (4, .ref (w.1 4 o)), (3, .int (iI ((u : Int) + (x : Int)))), (0, .ref (w.1 3 i)), (1, .ref (w.1 3 o)), (2, .ref (w.1 3 r))] s [] := by
        intro lo hi0 hlh hik hiu hkx h40 hzl hzh
        have hz0 : sm (fun q => dgt v q * dgt y (k - q)) lo = 0 := sm_none (fun j hj => by show dgt v j * dgt y (k - j) = 0; rw [dgt_0 hyx (hzl j hj), Nat.mul_zero])
        have hz1 : sm (fun q => dgt v q * dgt y (k - q)) (hi0 + 1) = cv (dgt v) (dgt y) k := (sm_zero (by omega) (fun j a b => by show dgt v j * dgt y (k - j) = 0; rw [dgt_0 hvu (hzh j (by omega) (by omega)), Nat.zero_mul])).symm
        have hsb : sm (fun q => dgt v q * dgt y (k - q)) (hi0 + 1) ≤ (hi0 + 1 - lo) * 72057594037927936 := by
          have hgen : ∀ m, lo ≤ m → sm (fun q => dgt v q * dgt y (k - q)) m ≤ (m - lo) * 72057594037927936 := by
            intro m hm
            induction m with
            | zero => show 0 ≤ _; omega
            | succ m ihm =>
              rcases Nat.lt_or_ge m lo with hml | hml
              · rw [show m + 1 = lo by omega, hz0]; omega
              · have := ihm hml
                have := mul_bound (dgt_lt v m) (dgt_lt y (k - m))
                show sm (fun q => dgt v q * dgt y (k - q)) m + dgt v m * dgt y (k - m) ≤ _
                rw [show m + 1 - lo = (m - lo) + 1 by omega, Nat.add_mul]
                omega
          exact hgen _ (by omega)
        refine inner hu0 hx0 hux k lo hi0 c s (by omega) (by omega) hik hiu hkx h40 hc (hfr 3 o (by simp [hno])) (hfr 3 r (by simp [hnr])) ?_ (hi0 + 1 - lo) lo c (by omega) (Nat.le_refl lo) (by rw [hz0]; omega) (by omega)
        rw [hz1] at hsb ⊢
        obtain ⟨M, hM⟩ : ∃ M, c + cv (dgt v) (dgt y) k = M := ⟨_, rfl⟩
        have hMb : M < 4611686018427387904 := by omega
        rw [hM]
        refine v_aload_n hX 8 rfl (atL dAX5_setProduct_1 17 rfl) ?_
        refine gf_X5_9 hX hi (atL dAX5_setProduct_1 18 rfl) ?_
        refine v_iload hX 3 rfl (atL dAX5_setProduct_1 19 rfl) ?_
        refine v_lload hX 4 rfl (atL dAX5_setProduct_1 20 rfl) ?_
        refine v_ldc2 hX (r := 268435455) wd_413 (by decide +kernel) (atL dAX5_setProduct_1 21 rfl) ?_
        refine v_land hX (r := jI (((M : Int)) % 268435456)) (jI_mask _ 28 (by decide)) (atL dAX5_setProduct_1 22 rfl) ?_
        refine v_last hX (c := 3) k hi2 (by decide) (fun _ _ => rfl) rfl (by omega) (by decide) (atL dAX5_setProduct_1 23 rfl) ?_
        refine v_lload hX 4 rfl (atL dAX5_setProduct_1 24 rfl) ?_
        refine v_bipush hX (by decide +kernel) (atL dAX5_setProduct_1 25 rfl) ?_
        refine v_lshr hX (r := jI (((M : Int)) / 268435456)) (jI_shr ⟨by omega, by omega⟩ 28 (by decide)) (atL dAX5_setProduct_1 26 rfl) ?_
        refine v_lstore hX (lv' := [(6, .long (jI (((M : Int)) / 268435456))), (11, .int (iI (((hi0 + 1 : Nat) : Int)))), (10, .int (iI ((hi0 : Int)))), (9, .int (iI ((lo : Int)))), (8, .int (iI ((k : Int)))), (5, .ref (w.1 4 r)), (4, .ref (w.1 4 o)), (3, .int (iI ((u : Int) + (x : Int)))), (0, .ref (w.1 3 i)), (1, .ref (w.1 3 o)), (2, .ref (w.1 3 r))]) (Nat.le_of_ble_eq_true rfl) rfl (atL dAX5_setProduct_1 27 rfl) ?_
        refine v_iinc hX (lv' := [(8, .int (iI (((k : Int)) + 1))), (6, .long (jI (((M : Int)) / 268435456))), (11, .int (iI (((hi0 + 1 : Nat) : Int)))), (10, .int (iI ((hi0 : Int)))), (9, .int (iI ((lo : Int)))), (5, .ref (w.1 4 r)), (4, .ref (w.1 4 o)), (3, .int (iI ((u : Int) + (x : Int)))), (0, .ref (w.1 3 i)), (1, .ref (w.1 3 o)), (2, .ref (w.1 3 r))]) 4 rfl (iI_add _ _) (Nat.le_of_ble_eq_true rfl) rfl (atL dAX5_setProduct_1 28 rfl) ?_
        refine v_goto hX (tgt := 54) (atL dAX5_setProduct_1 29 rfl) (by decide) ?_
        refine v_sub (lv' := [(8, .int (iI (((k : Int)) + 1))), (6, .long (jI (((M : Int)) / 268435456))), (5, .ref (w.1 4 r)), (4, .ref (w.1 4 o)), (3, .int (iI ((u : Int) + (x : Int)))), (0, .ref (w.1 3 i)), (1, .ref (w.1 3 o)), (2, .ref (w.1 3 r))]) [0, 1, 5, 6, 7, 8, 9, 10] rfl ?_
        rw [show (M : Int) / 268435456 = ((M / 268435456 : Nat) : Int) by omega, show (M : Int) % 268435456 = ((M % 268435456 : Nat) : Int) by omega, show (k : Int) + 1 = ((k + 1 : Nat) : Int) by omega]
        refine ih (k + 1) (M / 268435456) _ (by omega) (by omega) (hds.su ⟨by omega, by omega⟩) (hfr.tr' (Fr.su (by simp))) ?_ _ rfl
        rw [vB_suN, Nat.pow_succ, flush_step, vB_suc, ← hval, ← hM, Nat.add_mul]
        omega
      refine v_iload hX 0 rfl (atL dAX5_setProduct_0 29 rfl) ?_
      refine v_iload_n hX 4 rfl (atL dAX5_setProduct_0 30 rfl) ?_
      refine v_iconst hX (atL dAX5_setProduct_0 31 rfl) ?_
      refine v_isub hX (iI_sub _ _) (atL dAX5_setProduct_0 32 rfl) ?_
      refine v_icmp_ge hX ⟨by omega, by omega⟩ ⟨by omega, by omega⟩ (tgt := 170) (atL dAX5_setProduct_0 33 rfl) (by decide) (fun h59 => absurd h59 (by omega)) (fun h59 => ?_)
      refine v_iload hX 0 rfl (atL dAX5_setProduct_0 34 rfl) ?_
      refine v_aload_n hX 7 rfl (atL dAX5_setProduct_0 35 rfl) ?_
      refine gf_X5_13 hX (v := (x : Int)) (hsr) hr (atL dAX5_setProduct_0 36 rfl) ?_
      refine v_icmp_ge hX ⟨by omega, by omega⟩ ⟨by omega, by omega⟩ (tgt := 75) (atL dAX5_setProduct_0 37 rfl) (by decide) (fun h68 => ?_) (fun h68 => ?_)
      · refine v_iload hX 0 rfl (atL dAX5_setProduct_0 40 rfl) ?_
        refine v_aload_n hX 7 rfl (atL dAX5_setProduct_0 41 rfl) ?_
        refine gf_X5_13 hX (v := (x : Int)) (hsr) hr (atL dAX5_setProduct_0 42 rfl) ?_
        refine v_isub hX (iI_sub _ _) (atL dAX5_setProduct_0 43 rfl) ?_
        refine v_iconst hX (atL dAX5_setProduct_0 44 rfl) ?_
        refine v_iadd hX (iI_add _ _) (atL dAX5_setProduct_0 45 rfl) ?_
        refine v_istore hX (lv' := [(9, .int (iI ((((k : Int)) - ((x : Int))) + 1))), (8, .int (iI ((k : Int)))), (6, .long (jI ((c : Int)))), (5, .ref (w.1 4 r)), (4, .ref (w.1 4 o)), (3, .int (iI ((u : Int) + (x : Int)))), (0, .ref (w.1 3 i)), (1, .ref (w.1 3 o)), (2, .ref (w.1 3 r))]) (Nat.le_of_ble_eq_true rfl) rfl (atL dAX5_setProduct_0 46 rfl) ?_
        refine v_iload hX 1 rfl (atL dAX5_setProduct_0 47 rfl) ?_
        refine v_aload_n hX 7 rfl (atL dAX5_setProduct_0 48 rfl) ?_
        refine gf_X5_13 hX (v := (u : Int)) (hso) ho (atL dAX5_setProduct_0 49 rfl) ?_
        refine v_icmp_ge hX ⟨by omega, by omega⟩ ⟨by omega, by omega⟩ (tgt := 100) (atL dAX5_setProduct_0 50 rfl) (by decide) (fun h92 => ?_) (fun h92 => ?_)
        · refine v_aload_n hX 7 rfl (atL dAX5_setProduct_0 53 rfl) ?_
          refine gf_X5_13 hX (v := (u : Int)) (hso) ho (atL dAX5_setProduct_0 54 rfl) ?_
          refine v_iconst hX (atL dAX5_setProduct_0 55 rfl) ?_
          refine v_isub hX (iI_sub _ _) (atL dAX5_setProduct_0 56 rfl) ?_
          refine v_istore hX (lv' := [(10, .int (iI (((u : Int)) - 1))), (9, .int (iI ((((k : Int)) - ((x : Int))) + 1))), (8, .int (iI ((k : Int)))), (6, .long (jI ((c : Int)))), (5, .ref (w.1 4 r)), (4, .ref (w.1 4 o)), (3, .int (iI ((u : Int) + (x : Int)))), (0, .ref (w.1 3 i)), (1, .ref (w.1 3 o)), (2, .ref (w.1 3 r))]) (Nat.le_of_ble_eq_true rfl) rfl (atL dAX5_setProduct_0 57 rfl) ?_
          refine v_iload hX 1 rfl (atL dAX5_setProduct_0 58 rfl) ?_
          refine v_istore hX (lv' := [(11, .int (iI ((((k : Int)) - ((x : Int))) + 1))), (10, .int (iI (((u : Int)) - 1))), (9, .int (iI ((((k : Int)) - ((x : Int))) + 1))), (8, .int (iI ((k : Int)))), (6, .long (jI ((c : Int)))), (5, .ref (w.1 4 r)), (4, .ref (w.1 4 o)), (3, .int (iI ((u : Int) + (x : Int)))), (0, .ref (w.1 3 i)), (1, .ref (w.1 3 o)), (2, .ref (w.1 3 r))]) (Nat.le_of_ble_eq_true rfl) rfl (atL dAX5_setProduct_0 59 rfl) ?_
          refine v_sub (lv' := [(11, .int (iI ((((k : Int)) - ((x : Int))) + 1))), (10, .int (iI (((u : Int)) - 1))), (9, .int (iI ((((k : Int)) - ((x : Int))) + 1))), (8, .int (iI ((k : Int)))), (6, .long (jI ((c : Int)))), (5, .ref (w.1 4 r)), (4, .ref (w.1 4 o)), (3, .int (iI ((u : Int) + (x : Int)))), (0, .ref (w.1 3 i)), (1, .ref (w.1 3 o)), (2, .ref (w.1 3 r))]) [0, 1, 2, 3, 4, 5, 6, 7, 8, 9, 10] rfl ?_
          rw [show (((k : Int)) - ((x : Int))) + 1 = ((k - x + 1 : Nat) : Int) by omega]
          rw [show ((u : Int)) - 1 = ((u - 1 : Nat) : Int) by omega]
          exact cont0 (k - x + 1) (u - 1) (by omega) (by omega) (by omega) (by omega) (by omega) (fun j hj => by omega) (fun j a b => by omega)
        · refine v_iload hX 1 rfl (atL dAX5_setProduct_0 51 rfl) ?_
          refine v_goto hX (tgt := 106) (atL dAX5_setProduct_0 52 rfl) (by decide) ?_
          refine v_istore hX (lv' := [(10, .int (iI ((k : Int)))), (9, .int (iI ((((k : Int)) - ((x : Int))) + 1))), (8, .int (iI ((k : Int)))), (6, .long (jI ((c : Int)))), (5, .ref (w.1 4 r)), (4, .ref (w.1 4 o)), (3, .int (iI ((u : Int) + (x : Int)))), (0, .ref (w.1 3 i)), (1, .ref (w.1 3 o)), (2, .ref (w.1 3 r))]) (Nat.le_of_ble_eq_true rfl) rfl (atL dAX5_setProduct_0 57 rfl) ?_
          refine v_iload hX 1 rfl (atL dAX5_setProduct_0 58 rfl) ?_
          refine v_istore hX (lv' := [(11, .int (iI ((((k : Int)) - ((x : Int))) + 1))), (10, .int (iI ((k : Int)))), (9, .int (iI ((((k : Int)) - ((x : Int))) + 1))), (8, .int (iI ((k : Int)))), (6, .long (jI ((c : Int)))), (5, .ref (w.1 4 r)), (4, .ref (w.1 4 o)), (3, .int (iI ((u : Int) + (x : Int)))), (0, .ref (w.1 3 i)), (1, .ref (w.1 3 o)), (2, .ref (w.1 3 r))]) (Nat.le_of_ble_eq_true rfl) rfl (atL dAX5_setProduct_0 59 rfl) ?_
          refine v_sub (lv' := [(11, .int (iI ((((k : Int)) - ((x : Int))) + 1))), (10, .int (iI ((k : Int)))), (9, .int (iI ((((k : Int)) - ((x : Int))) + 1))), (8, .int (iI ((k : Int)))), (6, .long (jI ((c : Int)))), (5, .ref (w.1 4 r)), (4, .ref (w.1 4 o)), (3, .int (iI ((u : Int) + (x : Int)))), (0, .ref (w.1 3 i)), (1, .ref (w.1 3 o)), (2, .ref (w.1 3 r))]) [0, 1, 2, 3, 4, 5, 6, 7, 8, 9, 10] rfl ?_
          rw [show (((k : Int)) - ((x : Int))) + 1 = ((k - x + 1 : Nat) : Int) by omega]
          exact cont0 (k - x + 1) (k) (by omega) (by omega) (by omega) (by omega) (by omega) (fun j hj => by omega) (fun j a b => by omega)
      · refine v_iconst hX (atL dAX5_setProduct_0 38 rfl) ?_
        refine v_goto hX (tgt := 84) (atL dAX5_setProduct_0 39 rfl) (by decide) ?_
        refine v_istore hX (lv' := [(9, .int (iI (0))), (8, .int (iI ((k : Int)))), (6, .long (jI ((c : Int)))), (5, .ref (w.1 4 r)), (4, .ref (w.1 4 o)), (3, .int (iI ((u : Int) + (x : Int)))), (0, .ref (w.1 3 i)), (1, .ref (w.1 3 o)), (2, .ref (w.1 3 r))]) (Nat.le_of_ble_eq_true rfl) rfl (atL dAX5_setProduct_0 46 rfl) ?_
        refine v_iload hX 1 rfl (atL dAX5_setProduct_0 47 rfl) ?_
        refine v_aload_n hX 7 rfl (atL dAX5_setProduct_0 48 rfl) ?_
        refine gf_X5_13 hX (v := (u : Int)) (hso) ho (atL dAX5_setProduct_0 49 rfl) ?_
        refine v_icmp_ge hX ⟨by omega, by omega⟩ ⟨by omega, by omega⟩ (tgt := 100) (atL dAX5_setProduct_0 50 rfl) (by decide) (fun h92 => ?_) (fun h92 => ?_)
        · refine v_aload_n hX 7 rfl (atL dAX5_setProduct_0 53 rfl) ?_
          refine gf_X5_13 hX (v := (u : Int)) (hso) ho (atL dAX5_setProduct_0 54 rfl) ?_
          refine v_iconst hX (atL dAX5_setProduct_0 55 rfl) ?_
          refine v_isub hX (iI_sub _ _) (atL dAX5_setProduct_0 56 rfl) ?_
          refine v_istore hX (lv' := [(10, .int (iI (((u : Int)) - 1))), (9, .int (iI (0))), (8, .int (iI ((k : Int)))), (6, .long (jI ((c : Int)))), (5, .ref (w.1 4 r)), (4, .ref (w.1 4 o)), (3, .int (iI ((u : Int) + (x : Int)))), (0, .ref (w.1 3 i)), (1, .ref (w.1 3 o)), (2, .ref (w.1 3 r))]) (Nat.le_of_ble_eq_true rfl) rfl (atL dAX5_setProduct_0 57 rfl) ?_
          refine v_iload hX 1 rfl (atL dAX5_setProduct_0 58 rfl) ?_
          refine v_istore hX (lv' := [(11, .int (iI (0))), (10, .int (iI (((u : Int)) - 1))), (9, .int (iI (0))), (8, .int (iI ((k : Int)))), (6, .long (jI ((c : Int)))), (5, .ref (w.1 4 r)), (4, .ref (w.1 4 o)), (3, .int (iI ((u : Int) + (x : Int)))), (0, .ref (w.1 3 i)), (1, .ref (w.1 3 o)), (2, .ref (w.1 3 r))]) (Nat.le_of_ble_eq_true rfl) rfl (atL dAX5_setProduct_0 59 rfl) ?_
          refine v_sub (lv' := [(11, .int (iI (0))), (10, .int (iI (((u : Int)) - 1))), (9, .int (iI (0))), (8, .int (iI ((k : Int)))), (6, .long (jI ((c : Int)))), (5, .ref (w.1 4 r)), (4, .ref (w.1 4 o)), (3, .int (iI ((u : Int) + (x : Int)))), (0, .ref (w.1 3 i)), (1, .ref (w.1 3 o)), (2, .ref (w.1 3 r))]) [0, 1, 2, 3, 4, 5, 6, 7, 8, 9, 10] rfl ?_
          rw [show ((u : Int)) - 1 = ((u - 1 : Nat) : Int) by omega]
          exact cont0 (0) (u - 1) (by omega) (by omega) (by omega) (by omega) (by omega) (fun j hj => by omega) (fun j a b => by omega)
        · refine v_iload hX 1 rfl (atL dAX5_setProduct_0 51 rfl) ?_
          refine v_goto hX (tgt := 106) (atL dAX5_setProduct_0 52 rfl) (by decide) ?_
          refine v_istore hX (lv' := [(10, .int (iI ((k : Int)))), (9, .int (iI (0))), (8, .int (iI ((k : Int)))), (6, .long (jI ((c : Int)))), (5, .ref (w.1 4 r)), (4, .ref (w.1 4 o)), (3, .int (iI ((u : Int) + (x : Int)))), (0, .ref (w.1 3 i)), (1, .ref (w.1 3 o)), (2, .ref (w.1 3 r))]) (Nat.le_of_ble_eq_true rfl) rfl (atL dAX5_setProduct_0 57 rfl) ?_
          refine v_iload hX 1 rfl (atL dAX5_setProduct_0 58 rfl) ?_
          refine v_istore hX (lv' := [(11, .int (iI (0))), (10, .int (iI ((k : Int)))), (9, .int (iI (0))), (8, .int (iI ((k : Int)))), (6, .long (jI ((c : Int)))), (5, .ref (w.1 4 r)), (4, .ref (w.1 4 o)), (3, .int (iI ((u : Int) + (x : Int)))), (0, .ref (w.1 3 i)), (1, .ref (w.1 3 o)), (2, .ref (w.1 3 r))]) (Nat.le_of_ble_eq_true rfl) rfl (atL dAX5_setProduct_0 59 rfl) ?_
          refine v_sub (lv' := [(11, .int (iI (0))), (10, .int (iI ((k : Int)))), (9, .int (iI (0))), (8, .int (iI ((k : Int)))), (6, .long (jI ((c : Int)))), (5, .ref (w.1 4 r)), (4, .ref (w.1 4 o)), (3, .int (iI ((u : Int) + (x : Int)))), (0, .ref (w.1 3 i)), (1, .ref (w.1 3 o)), (2, .ref (w.1 3 r))]) [0, 1, 2, 3, 4, 5, 6, 7, 8, 9, 10] rfl ?_
          exact cont0 (0) (k) (by omega) (by omega) (by omega) (by omega) (by omega) (fun j hj => by omega) (fun j a b => by omega)
  refine v_aload_n hX 1 rfl (atL dAX5_setProduct_0 0 rfl) ?_
  refine gf_X5_13 hX (v := (u : Int)) (hu) ho (atL dAX5_setProduct_0 1 rfl) ?_
  refine v_aload_n hX 2 rfl (atL dAX5_setProduct_0 2 rfl) ?_
  refine gf_X5_13 hX (v := (x : Int)) (hx) hr (atL dAX5_setProduct_0 3 rfl) ?_
  refine v_iadd hX (iI_add _ _) (atL dAX5_setProduct_0 4 rfl) ?_
  refine v_istore_n hX (i := 3) rfl (lv' := [(3, .int (iI (((u : Int)) + ((x : Int))))), (0, .ref (w.1 3 i)), (1, .ref (w.1 3 o)), (2, .ref (w.1 3 r))]) (Nat.le_of_ble_eq_true rfl) rfl (atL dAX5_setProduct_0 5 rfl) ?_
  refine v_aload_n hX 1 rfl (atL dAX5_setProduct_0 6 rfl) ?_
  refine v_iconst hX (atL dAX5_setProduct_0 7 rfl) ?_
  refine pf_X5_13 hX hi (atL dAX5_setProduct_0 8 rfl) ?_
  refine v_aload_n hX 2 rfl (atL dAX5_setProduct_0 9 rfl) ?_
  refine gf_X5_13 hX (v := (u : Int)) ((su_i hno).trans (hu)) ho (atL dAX5_setProduct_0 10 rfl) ?_
  refine v_if_eq hX ⟨by omega, by omega⟩ (tgt := 35) (atL dAX5_setProduct_0 11 rfl) (by decide) (fun h19 => ?_) (fun h19 => ?_)
  · have hz : u = 0 ∨ x = 0 := by omega
    exact v_vret hX (atL dAX5_setProduct_0 18 rfl) (hret () _ (by refine ⟨⟨0, su_s, by omega, by rw [su_rc (by decide)]; exact hdi, by omega, ?_⟩, Fr.su (by simp)⟩; show 0 = v * y; rcases hz with hz | hz; rw [(WN_0 ht hd hv).mp hz, Nat.zero_mul]; rw [(WN_0 hxt he hy).mp hz, Nat.mul_zero]))
  · refine v_aload_n hX 3 rfl (atL dAX5_setProduct_0 12 rfl) ?_
    refine gf_X5_13 hX (v := (x : Int)) ((su_i hnr).trans (hx)) hr (atL dAX5_setProduct_0 13 rfl) ?_
    refine v_if_eq hX ⟨by omega, by omega⟩ (tgt := 35) (atL dAX5_setProduct_0 14 rfl) (by decide) (fun h26 => ?_) (fun h26 => ?_)
    · have hz : u = 0 ∨ x = 0 := by omega
      exact v_vret hX (atL dAX5_setProduct_0 18 rfl) (hret () _ (by refine ⟨⟨0, su_s, by omega, by rw [su_rc (by decide)]; exact hdi, by omega, ?_⟩, Fr.su (by simp)⟩; show 0 = v * y; rcases hz with hz | hz; rw [(WN_0 ht hd hv).mp hz, Nat.zero_mul]; rw [(WN_0 hxt he hy).mp hz, Nat.mul_zero]))
    · refine v_iload_n hX 0 rfl (atL dAX5_setProduct_0 15 rfl) ?_
      refine v_bipush hX (by decide +kernel) (atL dAX5_setProduct_0 16 rfl) ?_
      refine v_icmp_le hX ⟨by omega, by omega⟩ ⟨by omega, by omega⟩ (tgt := 36) (atL dAX5_setProduct_0 17 rfl) (by decide) (fun h32 => ?_) (fun h32 => absurd h32 (by omega))
      refine v_aload_n hX 2 rfl (atL dAX5_setProduct_0 19 rfl) ?_
      refine gf_X5_9 hX ho (atL dAX5_setProduct_0 20 rfl) ?_
      refine v_astore hX (lv' := [(4, .ref (w.1 4 o)), (3, .int (iI (((u : Int)) + ((x : Int))))), (0, .ref (w.1 3 i)), (1, .ref (w.1 3 o)), (2, .ref (w.1 3 r))]) (Nat.le_of_ble_eq_true rfl) rfl (atL dAX5_setProduct_0 21 rfl) ?_
      refine v_aload_n hX 4 rfl (atL dAX5_setProduct_0 22 rfl) ?_
      refine gf_X5_9 hX hr (atL dAX5_setProduct_0 23 rfl) ?_
      refine v_astore hX (lv' := [(5, .ref (w.1 4 r)), (4, .ref (w.1 4 o)), (3, .int (iI (((u : Int)) + ((x : Int))))), (0, .ref (w.1 3 i)), (1, .ref (w.1 3 o)), (2, .ref (w.1 3 r))]) (Nat.le_of_ble_eq_true rfl) rfl (atL dAX5_setProduct_0 24 rfl) ?_
      refine v_lconst hX (atL dAX5_setProduct_0 25 rfl) ?_
      show V X _ w _ _ _ (.long (jI (0)) :: _)
      refine v_lstore hX (lv' := [(6, .long (jI (0))), (5, .ref (w.1 4 r)), (4, .ref (w.1 4 o)), (3, .int (iI (((u : Int)) + ((x : Int))))), (0, .ref (w.1 3 i)), (1, .ref (w.1 3 o)), (2, .ref (w.1 3 r))]) (Nat.le_of_ble_eq_true rfl) rfl (atL dAX5_setProduct_0 26 rfl) ?_
      refine v_iconst hX (atL dAX5_setProduct_0 27 rfl) ?_
      refine v_istore hX (lv' := [(8, .int (iI (0))), (6, .long (jI (0))), (5, .ref (w.1 4 r)), (4, .ref (w.1 4 o)), (3, .int (iI (((u : Int)) + ((x : Int))))), (0, .ref (w.1 3 i)), (1, .ref (w.1 3 o)), (2, .ref (w.1 3 r))]) (Nat.le_of_ble_eq_true rfl) rfl (atL dAX5_setProduct_0 28 rfl) ?_
      exact outer (by omega) (by omega) (by omega) (u + x - 1) 0 0 _ (by omega) (by omega) (by intro j; rw [su_rc (by decide)]; exact hdi j) (Fr.su (by simp)) rfl _ rfl
