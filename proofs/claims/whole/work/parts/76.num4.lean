theorem pr_w {a V y Q P : Nat} : a * (V + y * Q) * P = a * V * P + a * y * (P * Q) := by
  rw [Nat.mul_add, Nat.add_mul, ← Nat.mul_assoc a y Q, Nat.mul_assoc (a * y) Q P, Nat.mul_comm Q P]
theorem n_vB_s1 {s : St} {i m : Nat} {v : Int} {c : Nat} (hv : v = (c : Int)) : vB 65536 (fN (su s 12 i m v) i) (m + 1) = vB 65536 (fN s i) m + c * 65536 ^ m := by
  have h := n_vB_suS (σ := s) (i := i) (m := m) (v := v) (by omega)
  rw [hv] at h ⊢
  have e : ((c : Int)) * ((65536 ^ m : Nat) : Int) = ((c * 65536 ^ m : Nat) : Int) := (Int.natCast_mul c (65536 ^ m)).symm
  rw [e] at h
  omega
theorem pr_step {X Y c d T r q P : Nat} (h : X + c * P = Y) (hs : T = c + d) (hr : r = T % 65536) (hq : q = T / 65536) : X + r * P + q * (P * 65536) = Y + d * P := by
  have e : r + q * 65536 = c + d := by omega
  have e2 : (r + q * 65536) * P = (c + d) * P := by rw [e]
  rw [Nat.add_mul, Nat.add_mul, Nat.mul_assoc q 65536 P, Nat.mul_comm 65536 P] at e2
  omega

set_option maxHeartbeats 1000000 in
set_option maxRecDepth 100000 in
theorem c_X7_product (l : Launch) (w : Wl) (σ : St) (i : Nat) (hi : w.2 14 i) (hdi : NDg σ i) (o v : Nat) (hj : w.2 14 o) (hM : NN σ o v) (r y : Nat) (hr : w.2 14 r) (hK : NN σ r y) (hno : o ≠ i) (hnr : r ≠ i) (a b : Nat) (hva : v < 65536 ^ a) (hyb : y < 65536 ^ b) (hab : a + b ≤ 270) : Cn l yX7_product cX7_product 7 none 1 20 wN [.ref (w.1 14 i), .ref (w.1 14 o), .ref (w.1 14 r)] w σ (fun _ σ' => NN σ' i (v * y) ∧ Fr [(11, i), (12, i)] σ σ') := by
  refine Cn.of (own := RX7) (lv := [(0, .ref (w.1 14 i)), (1, .ref (w.1 14 o)), (2, .ref (w.1 14 r))]) (by decide +kernel) rfl (Nat.le_of_ble_eq_true rfl) rfl (fun X hX hxl hR hcl hret => ?_)
  subst hxl
  have hi2 : w.2 15 i := hcl 14 i hi (15, i) (by simp [mn, tp])
  have hj2 : w.2 15 o := hcl 14 o hj (15, o) (by simp [mn, tp])
  have hr2 : w.2 15 r := hcl 14 r hr (15, r) (by simp [mn, tp])
  obtain ⟨u, hu, hu8, hd, ht, hv⟩ := hM
  obtain ⟨x, hx, hx8, he, hxt, hy⟩ := hK
  have hua := n_used_le hd ht hv hva
  have hxb := n_used_le he hxt hy hyb
  have hgv : ∀ j, j < u → σ 12 o j = (n_dgt v j : Int) := fun j hj => by rw [← n_dgt_WN hd hv j, if_pos hj]
  have hgy : ∀ j, j < x → σ 12 r j = (n_dgt y j : Int) := fun j hj => by rw [← n_dgt_WN he hy j, if_pos hj]
  have hyx : vB 65536 (n_dgt y) x = y := n_dgt_all (n_used_lt_pow he hy (Nat.le_refl x))
  have hvu : vB 65536 (n_dgt v) u = v := n_dgt_all (n_used_lt_pow hd hv (Nat.le_refl u))
  have outer : ∀ (d p : Nat) (s : St), p + d = u → s 11 i 0 = ((u + x : Nat) : Int) → NDg s i → Fr [(11, i), (12, i)] σ s → (∀ j, p + x ≤ j → j < u + x → s 12 i j = 0) → vB 65536 (fN s i) (p + x) = vB 65536 (n_dgt v) p * y → V X (0, 0) w 38 [(3, .int (iI ((p : Int)))), (0, .ref (w.1 14 i)), (1, .ref (w.1 14 o)), (2, .ref (w.1 14 r))] s [] := by
    intro d
    induction d with
    | zero =>
      intro p s hp hsi hds hf hz hval
      obtain rfl : p = u := by omega
      have hso : s 11 o 0 = (p : Int) := by rw [hf 11 o (by simp [hno])]; exact hu
      have hsr : s 11 r 0 = (x : Int) := by rw [hf 11 r (by simp [hnr])]; exact hx
      rw [hvu] at hval
      refine v_iload_n hX 0 rfl (atL dAX7_product_0 22 rfl) ?_
      refine v_aload_n hX 2 rfl (atL dAX7_product_0 23 rfl) ?_
      refine gf_X7_13 hX (v := (p : Int)) (hso) hj (atL dAX7_product_0 24 rfl) ?_
      refine v_icmp_ge hX ⟨by omega, by omega⟩ ⟨by omega, by omega⟩ (tgt := 142) (atL dAX7_product_0 25 rfl) (by decide) (fun h43 => ?_) (fun h43 => absurd h43 (by omega))
      refine v_aload_n hX 1 rfl (atL dAX7_product_1 23 rfl) ?_
      refine v_callV hX (As := []) (rest := []) (c_X7_cut (xl X) w s i hi hds (p + x) (v * y) hsi (by omega) hval) lk_X7_23 hi (fun _ => rfl) rfl rfl rfl (by rw [hR]; exact ⟨Nat.le_of_ble_eq_true rfl, Nat.le_of_ble_eq_true rfl⟩) ⟨Nat.zero_le _, Nat.zero_le _⟩ rfl (Nat.le_of_ble_eq_true rfl) (atL dAX7_product_1 24 rfl) (fun _ s1 h1 => ?_)
      obtain ⟨h1a, h1f⟩ := h1
      show V X _ w _ _ s1 []
      exact v_vret hX (atL dAX7_product_1 25 rfl) (hret () _ ⟨h1a, hf.tr' (h1f.mono (by simp))⟩)
    | succ d ih =>
      intro p s hp hsi hds hf hz hval
      have hso : s 11 o 0 = (u : Int) := by rw [hf 11 o (by simp [hno])]; exact hu
      have hsr : s 11 r 0 = (x : Int) := by rw [hf 11 r (by simp [hnr])]; exact hx
      have inner : ∀ (d k c : Nat) (t : St), k + d = x → c < 65536 → NDg t i → Fr [(12, i)] s t → (∀ j, p + k ≤ j → t 12 i j = s 12 i j) → vB 65536 (fN t i) (p + k) + c * 65536 ^ (p + k) = vB 65536 (fN s i) (p + k) + n_dgt v p * vB 65536 (n_dgt y) k * 65536 ^ p → V X (0, 0) w 52 [(6, .int (iI ((k : Int)))), (4, .long (jI ((c : Int)))), (3, .int (iI ((p : Int)))), (0, .ref (w.1 14 i)), (1, .ref (w.1 14 o)), (2, .ref (w.1 14 r))] t [] := by
        intro d2
        induction d2 with
        | zero =>
          intro k c t hk hc hdt hft hag hv2
          obtain rfl : k = x := by omega
          have htr : t 11 r 0 = (k : Int) := by rw [hft 11 r (by simp)]; exact hsr
          have hti : t 11 i 0 = ((u + k : Nat) : Int) := by rw [hft 11 i (by simp)]; exact hsi
          refine v_iload hX 0 rfl (atL dAX7_product_0 30 rfl) ?_
          refine v_aload_n hX 5 rfl (atL dAX7_product_0 31 rfl) ?_
          refine gf_X7_13 hX (v := (k : Int)) (htr) hr (atL dAX7_product_0 32 rfl) ?_
          refine v_icmp_ge hX ⟨by omega, by omega⟩ ⟨by omega, by omega⟩ (tgt := 122) (atL dAX7_product_0 33 rfl) (by decide) (fun h58 => ?_) (fun h58 => absurd h58 (by omega))
          refine v_aload_n hX 3 rfl (atL dAX7_product_1 12 rfl) ?_
          refine gf_X7_7 hX hi (atL dAX7_product_1 13 rfl) ?_
          refine v_iload_n hX 2 rfl (atL dAX7_product_1 14 rfl) ?_
          refine v_aload_n hX 5 rfl (atL dAX7_product_1 15 rfl) ?_
          refine gf_X7_13 hX (v := (k : Int)) (htr) hr (atL dAX7_product_1 16 rfl) ?_
          refine v_iadd hX (iI_add _ _) (atL dAX7_product_1 17 rfl) ?_
          rw [show (((p : Int)) + ((k : Int))) = ((p + k : Nat) : Int) from (by omega)]
          refine v_lload hX 1 rfl (atL dAX7_product_1 18 rfl) ?_
          refine v_l2i hX (jI_l2i _) (atL dAX7_product_1 19 rfl) ?_
          refine v_iast hX (c := 12) (p + k) hi2 (by decide) (fun _ _ => rfl) rfl (by omega) (by decide) (atL dAX7_product_1 20 rfl) ?_
          refine v_iinc hX (lv' := [(3, .int (iI (((p : Int)) + 1))), (6, .int (iI ((k : Int)))), (4, .long (jI ((c : Int)))), (0, .ref (w.1 14 i)), (1, .ref (w.1 14 o)), (2, .ref (w.1 14 r))]) 2 rfl (iI_add _ _) (Nat.le_of_ble_eq_true rfl) rfl (atL dAX7_product_1 21 rfl) ?_
          refine v_goto hX (tgt := 38) (atL dAX7_product_1 22 rfl) (by decide) ?_
          refine v_sub (lv' := [(3, .int (iI (((p : Int)) + 1))), (0, .ref (w.1 14 i)), (1, .ref (w.1 14 o)), (2, .ref (w.1 14 r))]) [0, 3, 4, 5] rfl ?_
          rw [show (p : Int) + 1 = ((p + 1 : Nat) : Int) by omega]
          refine ih (p + 1) _ (by omega) (by rw [su_c (by decide)]; exact hti) (hdt.su ⟨by omega, by omega⟩) ((hf.tr' (hft.mono (by simp))).tr' (Fr.su (by simp))) (fun j h1 h2 => by rw [su_j (by omega), hag j (by omega)]; exact hz j (by omega) h2) ?_
          rw [show p + 1 + k = (p + k) + 1 by omega, n_vB_s1 rfl, hv2, hval, hyx]
          show _ = (vB 65536 (n_dgt v) p + n_dgt v p * 65536 ^ p) * y
          rw [Nat.add_mul, Nat.mul_right_comm]
        | succ d2 ih2 =>
          intro k c t hk hc hdt hft hag hv2
          have htr : t 11 r 0 = (x : Int) := by rw [hft 11 r (by simp)]; exact hsr
          have hto : t 12 o p = (n_dgt v p : Int) := by rw [hft 12 o (by simp [hno]), hf 12 o (by simp [hno])]; exact hgv p (by omega)
          have htk : t 12 r k = (n_dgt y k : Int) := by rw [hft 12 r (by simp [hnr]), hf 12 r (by simp [hnr])]; exact hgy k (by omega)
          have hdk := hdt (p + k)
          have hsk := hag (p + k) (Nat.le_refl _)
          obtain ⟨e, hee⟩ : ∃ e : Nat, t 12 i (p + k) = (e : Int) := ⟨(t 12 i (p + k)).toNat, by omega⟩
          obtain ⟨m, hm⟩ : ∃ m : Nat, n_dgt v p * n_dgt y k = m := ⟨_, rfl⟩
          have hmi : (n_dgt v p : Int) * (n_dgt y k : Int) = (m : Int) := by rw [← Int.natCast_mul, hm]
          have hmb : m ≤ 65535 * 65535 := by rw [← hm]; exact Nat.mul_le_mul (Nat.le_of_lt_succ (n_dgt_lt v p)) (Nat.le_of_lt_succ (n_dgt_lt y k))
          have hlv := n_dgt_lt v p
          have hly := n_dgt_lt y k
          refine v_iload hX 0 rfl (atL dAX7_product_0 30 rfl) ?_
          refine v_aload_n hX 5 rfl (atL dAX7_product_0 31 rfl) ?_
          refine gf_X7_13 hX (v := (x : Int)) (htr) hr (atL dAX7_product_0 32 rfl) ?_
          refine v_icmp_ge hX ⟨by omega, by omega⟩ ⟨by omega, by omega⟩ (tgt := 122) (atL dAX7_product_0 33 rfl) (by decide) (fun h58 => absurd h58 (by omega)) (fun h58 => ?_)
          refine v_lload hX 1 rfl (atL dAX7_product_0 34 rfl) ?_
          refine v_aload_n hX 4 rfl (atL dAX7_product_0 35 rfl) ?_
          refine gf_X7_7 hX hj (atL dAX7_product_0 36 rfl) ?_
          refine v_iload_n hX 2 rfl (atL dAX7_product_0 37 rfl) ?_
          refine v_iald hX (r := iI ((n_dgt v p : Int))) p hj2 (fun _ => rfl) rfl (by omega) (by decide) (congrArg iI (hto)) (atL dAX7_product_0 38 rfl) ?_
          refine v_i2l hX (iI_i2l ⟨by omega, by omega⟩) (atL dAX7_product_0 39 rfl) ?_
          refine v_aload_n hX 5 rfl (atL dAX7_product_0 40 rfl) ?_
          refine gf_X7_7 hX hr (atL dAX7_product_0 41 rfl) ?_
          refine v_iload hX 0 rfl (atL dAX7_product_0 42 rfl) ?_
          refine v_iald hX (r := iI ((n_dgt y k : Int))) k hr2 (fun _ => rfl) rfl (by omega) (by decide) (congrArg iI (htk)) (atL dAX7_product_0 43 rfl) ?_
          refine v_i2l hX (iI_i2l ⟨by omega, by omega⟩) (atL dAX7_product_0 44 rfl) ?_
          refine v_lmul hX (jI_mul _ _) (atL dAX7_product_0 45 rfl) ?_
          rw [show (((n_dgt v p : Int)) * ((n_dgt y k : Int))) = (m : Int) from hmi]
          refine v_aload_n hX 3 rfl (atL dAX7_product_0 46 rfl) ?_
          refine gf_X7_7 hX hi (atL dAX7_product_0 47 rfl) ?_
          refine v_iload_n hX 2 rfl (atL dAX7_product_0 48 rfl) ?_
          refine v_iload hX 0 rfl (atL dAX7_product_0 49 rfl) ?_
          refine v_iadd hX (iI_add _ _) (atL dAX7_product_0 50 rfl) ?_
          rw [show (((p : Int)) + ((k : Int))) = ((p + k : Nat) : Int) from (by omega)]
          refine v_iald hX (r := iI ((e : Int))) (p + k) hi2 (fun _ => rfl) rfl (by omega) (by decide) (congrArg iI hee) (atL dAX7_product_0 51 rfl) ?_
          refine v_i2l hX (iI_i2l ⟨by omega, by omega⟩) (atL dAX7_product_0 52 rfl) ?_
          refine v_ladd hX (jI_add _ _) (atL dAX7_product_0 53 rfl) ?_
          refine v_ladd hX (jI_add _ _) (atL dAX7_product_0 54 rfl) ?_
          rw [show (((c : Int)) + (((m : Int)) + ((e : Int)))) = ((c + (m + e) : Nat) : Int) from (by omega)]
          refine v_lstore hX (lv' := [(4, .long (jI (((c + (m + e) : Nat) : Int)))), (6, .int (iI ((k : Int)))), (3, .int (iI ((p : Int)))), (0, .ref (w.1 14 i)), (1, .ref (w.1 14 o)), (2, .ref (w.1 14 r))]) (Nat.le_of_ble_eq_true rfl) rfl (atL dAX7_product_0 55 rfl) ?_
          refine v_aload_n hX 3 rfl (atL dAX7_product_0 56 rfl) ?_
          refine gf_X7_7 hX hi (atL dAX7_product_0 57 rfl) ?_
          refine v_iload_n hX 2 rfl (atL dAX7_product_0 58 rfl) ?_
          refine v_iload hX 1 rfl (atL dAX7_product_0 59 rfl) ?_
          refine v_iadd hX (iI_add _ _) (atL dAX7_product_1 0 rfl) ?_
          rw [show (((p : Int)) + ((k : Int))) = ((p + k : Nat) : Int) from (by omega)]
          refine v_lload hX 0 rfl (atL dAX7_product_1 1 rfl) ?_
          refine v_ldc2 hX (r := 65535) wd_1221 (by decide +kernel) (atL dAX7_product_1 2 rfl) ?_
          refine v_land hX (r := jI ((((c + (m + e) : Nat) : Int)) % 65536)) (jI_mask _ 16 (by decide)) (atL dAX7_product_1 3 rfl) ?_
          refine v_l2i hX (jI_l2i _) (atL dAX7_product_1 4 rfl) ?_
          refine v_iast hX (c := 12) (p + k) hi2 (by decide) (fun _ _ => rfl) rfl (by omega) (by decide) (atL dAX7_product_1 5 rfl) ?_
          refine v_lload hX 0 rfl (atL dAX7_product_1 6 rfl) ?_
          refine v_bipush hX (by decide +kernel) (atL dAX7_product_1 7 rfl) ?_
          refine v_lshr hX (r := jI ((((c + (m + e) : Nat) : Int)) / 65536)) (jI_shr ⟨by omega, by omega⟩ 16 (by decide)) (atL dAX7_product_1 8 rfl) ?_
          rw [show ((((c + (m + e) : Nat) : Int)) / 65536) = (((c + (m + e)) / 65536 : Nat) : Int) from (by omega)]
          refine v_lstore hX (lv' := [(4, .long (jI ((((c + (m + e)) / 65536 : Nat) : Int)))), (6, .int (iI ((k : Int)))), (3, .int (iI ((p : Int)))), (0, .ref (w.1 14 i)), (1, .ref (w.1 14 o)), (2, .ref (w.1 14 r))]) (Nat.le_of_ble_eq_true rfl) rfl (atL dAX7_product_1 9 rfl) ?_
          refine v_iinc hX (lv' := [(6, .int (iI (((k : Int)) + 1))), (4, .long (jI ((((c + (m + e)) / 65536 : Nat) : Int)))), (3, .int (iI ((p : Int)))), (0, .ref (w.1 14 i)), (1, .ref (w.1 14 o)), (2, .ref (w.1 14 r))]) 1 rfl (iI_add _ _) (Nat.le_of_ble_eq_true rfl) rfl (atL dAX7_product_1 10 rfl) ?_
          refine v_goto hX (tgt := 52) (atL dAX7_product_1 11 rfl) (by decide) ?_
          refine v_sub (lv' := [(6, .int (iI (((k : Int)) + 1))), (4, .long (jI ((((c + (m + e)) / 65536 : Nat) : Int)))), (3, .int (iI ((p : Int)))), (0, .ref (w.1 14 i)), (1, .ref (w.1 14 o)), (2, .ref (w.1 14 r))]) [0, 1, 2, 3, 4, 5] rfl ?_
          rw [show (k : Int) + 1 = ((k + 1 : Nat) : Int) by omega]
          refine ih2 (k + 1) _ _ (by omega) (by omega) (hdt.su ⟨by omega, by omega⟩) (hft.tr' (Fr.su (by simp))) (fun j hj => by rw [su_j (by omega)]; exact hag j (by omega)) ?_
          have hst := pr_step (d := m + e) hv2 rfl rfl rfl
          rw [show p + (k + 1) = (p + k) + 1 by omega, n_vB_s1 (c := (c + (m + e)) % 65536) (by omega), Nat.pow_succ, hst]
          show _ = vB 65536 (fN s i) (p + k) + (s 12 i (p + k)).toNat * 65536 ^ (p + k) + n_dgt v p * (vB 65536 (n_dgt y) k + n_dgt y k * 65536 ^ k) * 65536 ^ p
          rw [show (s 12 i (p + k)).toNat = e by omega, pr_w, hm, ← Nat.pow_add, Nat.add_mul]
          omega
      refine v_iload_n hX 0 rfl (atL dAX7_product_0 22 rfl) ?_
      refine v_aload_n hX 2 rfl (atL dAX7_product_0 23 rfl) ?_
      refine gf_X7_13 hX (v := (u : Int)) (hso) hj (atL dAX7_product_0 24 rfl) ?_
      refine v_icmp_ge hX ⟨by omega, by omega⟩ ⟨by omega, by omega⟩ (tgt := 142) (atL dAX7_product_0 25 rfl) (by decide) (fun h43 => absurd h43 (by omega)) (fun h43 => ?_)
      refine v_lconst hX (atL dAX7_product_0 26 rfl) ?_
      show V X _ w _ _ _ (.long (jI (0)) :: _)
      refine v_lstore hX (lv' := [(4, .long (jI (0))), (3, .int (iI ((p : Int)))), (0, .ref (w.1 14 i)), (1, .ref (w.1 14 o)), (2, .ref (w.1 14 r))]) (Nat.le_of_ble_eq_true rfl) rfl (atL dAX7_product_0 27 rfl) ?_
      refine v_iconst hX (atL dAX7_product_0 28 rfl) ?_
      refine v_istore hX (lv' := [(6, .int (iI (0))), (4, .long (jI (0))), (3, .int (iI ((p : Int)))), (0, .ref (w.1 14 i)), (1, .ref (w.1 14 o)), (2, .ref (w.1 14 r))]) (Nat.le_of_ble_eq_true rfl) rfl (atL dAX7_product_0 29 rfl) ?_
      refine v_sub (lv' := [(6, .int (iI (0))), (4, .long (jI (0))), (3, .int (iI ((p : Int)))), (0, .ref (w.1 14 i)), (1, .ref (w.1 14 o)), (2, .ref (w.1 14 r))]) [0, 1, 2, 3, 4, 5] rfl ?_
      refine inner x 0 0 s (by omega) (by omega) hds Fr.rf (fun j _ => rfl) ?_
      show _ = _ + n_dgt v p * 0 * 65536 ^ p
      rw [Nat.mul_zero, Nat.zero_mul, Nat.zero_mul]
  have zl : ∀ (d k : Nat) (s : St), k + d = u + x → s 11 i 0 = ((u + x : Nat) : Int) → (∀ j, j < k → s 12 i j = 0) → NDg s i → Fr [(11, i), (12, i)] σ s → V X (0, 0) w 15 [(3, .int (iI ((k : Int)))), (0, .ref (w.1 14 i)), (1, .ref (w.1 14 o)), (2, .ref (w.1 14 r))] s [] := by
    intro d
    induction d with
    | zero =>
      intro k s hk hsi hz hds hf
      obtain rfl : k = u + x := by omega
      refine v_iload_n hX 0 rfl (atL dAX7_product_0 9 rfl) ?_
      refine v_aload_n hX 1 rfl (atL dAX7_product_0 10 rfl) ?_
      refine gf_X7_13 hX (v := ((u + x : Nat) : Int)) (hsi) hi (atL dAX7_product_0 11 rfl) ?_
      refine v_icmp_ge hX ⟨by omega, by omega⟩ ⟨by omega, by omega⟩ (tgt := 36) (atL dAX7_product_0 12 rfl) (by decide) (fun h20 => ?_) (fun h20 => absurd h20 (by omega))
      refine v_iconst hX (atL dAX7_product_0 20 rfl) ?_
      refine v_istore_n hX (i := 3) rfl (lv' := [(3, .int (iI (0))), (0, .ref (w.1 14 i)), (1, .ref (w.1 14 o)), (2, .ref (w.1 14 r))]) (Nat.le_of_ble_eq_true rfl) rfl (atL dAX7_product_0 21 rfl) ?_
      refine v_sub (lv' := [(3, .int (iI (0))), (0, .ref (w.1 14 i)), (1, .ref (w.1 14 o)), (2, .ref (w.1 14 r))]) [0, 1, 2, 3] rfl ?_
      refine outer u 0 s (by omega) hsi hds hf (fun j _ h2 => hz j h2) ?_
      show _ = 0 * y
      rw [Nat.zero_mul, vB_zeros (u := 0) (by omega) (fun j _ h2 => by show (s 12 i j).toNat = 0; rw [hz j (by omega)]; rfl)]
      rfl
    | succ d ih =>
      intro k s hk hsi hz hds hf
      refine v_iload_n hX 0 rfl (atL dAX7_product_0 9 rfl) ?_
      refine v_aload_n hX 1 rfl (atL dAX7_product_0 10 rfl) ?_
      refine gf_X7_13 hX (v := ((u + x : Nat) : Int)) (hsi) hi (atL dAX7_product_0 11 rfl) ?_
      refine v_icmp_ge hX ⟨by omega, by omega⟩ ⟨by omega, by omega⟩ (tgt := 36) (atL dAX7_product_0 12 rfl) (by decide) (fun h20 => absurd h20 (by omega)) (fun h20 => ?_)
      refine v_aload_n hX 1 rfl (atL dAX7_product_0 13 rfl) ?_
      refine gf_X7_7 hX hi (atL dAX7_product_0 14 rfl) ?_
      refine v_iload_n hX 0 rfl (atL dAX7_product_0 15 rfl) ?_
      refine v_iconst hX (atL dAX7_product_0 16 rfl) ?_
      refine v_iast hX (c := 12) k hi2 (by decide) (fun _ _ => rfl) rfl (by omega) (by decide) (atL dAX7_product_0 17 rfl) ?_
      refine v_iinc hX (lv' := [(3, .int (iI (((k : Int)) + 1))), (0, .ref (w.1 14 i)), (1, .ref (w.1 14 o)), (2, .ref (w.1 14 r))]) 0 rfl (iI_add _ _) (Nat.le_of_ble_eq_true rfl) rfl (atL dAX7_product_0 18 rfl) ?_
      refine v_goto hX (tgt := 15) (atL dAX7_product_0 19 rfl) (by decide) ?_
      rw [show (k : Int) + 1 = ((k + 1 : Nat) : Int) by omega]
      refine ih (k + 1) _ (by omega) (by rw [su_c (by decide)]; exact hsi) (fun j hj => ?_) (hds.su ⟨by omega, by omega⟩) (hf.tr' (Fr.su (by simp)))
      by_cases e : j = k
      · rw [e, su_s]
      · rw [su_j e]; exact hz j (by omega)
  refine v_aload_n hX 0 rfl (atL dAX7_product_0 0 rfl) ?_
  refine v_aload_n hX 1 rfl (atL dAX7_product_0 1 rfl) ?_
  refine gf_X7_13 hX (v := (u : Int)) (hu) hj (atL dAX7_product_0 2 rfl) ?_
  refine v_aload_n hX 2 rfl (atL dAX7_product_0 3 rfl) ?_
  refine gf_X7_13 hX (v := (x : Int)) (hx) hr (atL dAX7_product_0 4 rfl) ?_
  refine v_iadd hX (iI_add _ _) (atL dAX7_product_0 5 rfl) ?_
  rw [show (((u : Int)) + ((x : Int))) = ((u + x : Nat) : Int) from (by omega)]
  refine pf_X7_13 hX hi (atL dAX7_product_0 6 rfl) ?_
  refine v_iconst hX (atL dAX7_product_0 7 rfl) ?_
  refine v_istore_n hX (i := 3) rfl (lv' := [(3, .int (iI (0))), (0, .ref (w.1 14 i)), (1, .ref (w.1 14 o)), (2, .ref (w.1 14 r))]) (Nat.le_of_ble_eq_true rfl) rfl (atL dAX7_product_0 8 rfl) ?_
  refine v_sub (lv' := [(3, .int (iI (0))), (0, .ref (w.1 14 i)), (1, .ref (w.1 14 o)), (2, .ref (w.1 14 r))]) [0, 1, 2, 3] rfl ?_
  exact zl (u + x) 0 _ (by omega) su_s (fun j hj => absurd hj (by omega)) (fun j => by rw [su_c (by decide)]; exact hdi j) (Fr.su (by simp))
