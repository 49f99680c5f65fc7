theorem blen_half {d : Nat} (h : 0 < d) : blen (d / 2) + 1 ≤ blen d := by
  have h1 := blen_lt d
  have h2 := blen_pos (show d ≠ 0 by omega)
  have h3 : d / 2 < 2 ^ (blen d - 1) := by
    rw [Nat.div_lt_iff_lt_mul (by omega), ← Nat.pow_succ, show (blen d - 1).succ = blen d by omega]
    exact h1
  have := blen_le h3
  omega

set_option maxHeartbeats 1000000 in
set_option maxRecDepth 100000 in
theorem c_X8_isProbable (l : Launch) (w : Wl) (σ : St) (hk0 : w.2 13 0) (hAN : AN σ) (i n : Nat) (hi : w.2 14 i) (hn1 : NN σ i n) (bi : lb n 134) (li : 17 < i)  : Cn l yX8_isProbable cX8_isProbable 6 (Option.some Jvm.ClassFile.FieldType.boolean) 5 128 wI [.ref (w.1 13 0), .ref (w.1 14 i)] w σ (fun a σ' => tf a (prob n) ∧ AN σ' ∧ Fr [(11, 0), (12, 0), (11, 1), (12, 1), (11, 2), (12, 2), (11, 3), (12, 3), (11, 4), (12, 4), (11, 5), (12, 5), (11, 13), (12, 13), (11, 14), (12, 14), (11, 15), (12, 15), (11, 16), (12, 16), (11, 17), (12, 17)] σ σ') := by
  refine Cn.of (own := RX8) (lv := [(0, .ref (w.1 13 0)), (1, .ref (w.1 14 i))]) (by decide +kernel) rfl (Nat.le_of_ble_eq_true rfl) rfl (fun X hX hxl hR hcl hret => ?_)
  subst hxl
  have hQ : ∀ q, (14, q) ∈ mn σ 13 0 → w.2 14 q := fun q h => hcl 13 0 hk0 (14, q) h
  have hQ5 : ∀ q, (14, q) ∈ mn σ 13 0 → w.2 15 q := fun q h => hcl 14 q (hQ q h) (15, q) (by simp [mn, tp])
  have hQ16 : ∀ q, (16, q) ∈ mn σ 13 0 → w.2 16 q := fun q h => hcl 13 0 hk0 (16, q) h
  have hi2 : w.2 15 i := hcl 14 i hi (15, i) (by simp [mn, tp])
  have LC : 37 < n → n % 2 = 1 → ∀ (d s2 : Nat), n - 1 = d * 2 ^ s2 → d % 2 = 1 → 0 < s2 → s2 < 5000 → ∀ (e k : Nat) (s : St), k + e = 12 → (∀ j, j < k → wit n d s2 (bs j)) → NN s i n → NN s 14 (n - 1) → NN s 15 d → AN s → Fr [(11, 0), (12, 0), (11, 1), (12, 1), (11, 2), (12, 2), (11, 3), (12, 3), (11, 4), (12, 4), (11, 5), (12, 5), (11, 13), (12, 13), (11, 14), (12, 14), (11, 15), (12, 15), (11, 16), (12, 16), (11, 17), (12, 17)] σ s → V X (0, 0) w 127 [(3, .int (iI ((k : Int)))), (2, .int (iI ((s2 : Int)))), (0, .ref (w.1 13 0)), (1, .ref (w.1 14 i))] s [] := by
    intro h37 hodd d s2 hds hd2 hs0 hs5 e
    have hn0 : n ≠ 0 := by omega
    have hdl : lb d 134 := lb_le bi (Nat.le_trans (Nat.le_mul_of_pos_right d (Nat.two_pow_pos s2)) (by omega))
    have hml : lb (n - 1) 134 := lb_le bi (Nat.sub_le _ _)
    induction e with
    | zero =>
      intro k s hk hw hi0 h14 h15 hA0 hG0
      refine v_iload_n hX 0 rfl (atL dAX8_isProbable_1 3 rfl) ?_
      refine v_bipush hX (by decide +kernel) (atL dAX8_isProbable_1 4 rfl) ?_
      refine v_icmp_ge hX ⟨by omega, by omega⟩ ⟨by omega, by omega⟩ (tgt := 264) (atL dAX8_isProbable_1 5 rfl) (by decide) (fun h130 => ?_) (fun h130 => absurd h130 (by omega))
      refine v_iconst hX (atL dAX8_isProbable_2 9 rfl) ?_
      exact v_zret hX (by decide +kernel) (atL dAX8_isProbable_2 10 rfl) (hret _ _ ⟨tf_p ((prob_of h37 hodd hds hd2).mpr (fun j hj => hw j (by omega))), hA0, hG0⟩)
    | succ e ih =>
      intro k s hk hw hi0 h14 h15 hA0 hG0
      have hpb := pr_bs k (by omega)
      have LD : ∀ (f j : Nat) (g : Int) (s3 : St), j + f = s2 → 1 ≤ j → ((g = 1 ∧ wit n d s2 (bs k)) ∨ (g = 0 ∧ bs k ^ d % n ≠ 1 ∧ ∀ q, q < j → bs k ^ (d * 2 ^ q) % n ≠ n - 1)) → NN s3 17 (bs k ^ (d * 2 ^ (j - 1)) % n) ∨ g = 1 → NN s3 i n → NN s3 14 (n - 1) → NN s3 15 d → AN s3 → Fr [(11, 0), (12, 0), (11, 1), (12, 1), (11, 2), (12, 2), (11, 3), (12, 3), (11, 4), (12, 4), (11, 5), (12, 5), (11, 13), (12, 13), (11, 14), (12, 14), (11, 15), (12, 15), (11, 16), (12, 16), (11, 17), (12, 17)] σ s3 → V X (0, 0) w 196 [(5, .int (iI ((j : Int)))), (4, .int (iI (g))), (3, .int (iI ((k : Int)))), (2, .int (iI ((s2 : Int)))), (0, .ref (w.1 13 0)), (1, .ref (w.1 14 i))] s3 [] := by
        intro f
        induction f with
        | zero =>
          intro j g s3 hj hj1 hgv h17 hi0 h14 h15 hA0 hG0
          have hgr : g = 0 ∨ g = 1 := by rcases hgv with q | q <;> omega
          obtain rfl : j = s2 := by omega
          refine v_iload hX 0 rfl (atL dAX8_isProbable_1 37 rfl) ?_
          refine v_iload_n hX 3 rfl (atL dAX8_isProbable_1 38 rfl) ?_
          refine v_icmp_ge hX ⟨by omega, by omega⟩ ⟨by omega, by omega⟩ (tgt := 251) (atL dAX8_isProbable_1 39 rfl) (by decide) (fun h199 => ?_) (fun h199 => absurd h199 (by omega))
          refine v_iload hX 1 rfl (atL dAX8_isProbable_2 3 rfl) ?_
          refine v_if_ne hX ⟨by omega, by omega⟩ (tgt := 258) (atL dAX8_isProbable_2 4 rfl) (by decide) (fun h253 => ?_) (fun h253 => ?_)
          · refine v_iinc hX (lv' := [(3, .int (iI (((k : Int)) + 1))), (5, .int (iI ((j : Int)))), (4, .int (iI (g))), (2, .int (iI ((j : Int)))), (0, .ref (w.1 13 0)), (1, .ref (w.1 14 i))]) 2 rfl (iI_add _ _) (Nat.le_of_ble_eq_true rfl) rfl (atL dAX8_isProbable_2 7 rfl) ?_
            refine v_goto hX (tgt := 127) (atL dAX8_isProbable_2 8 rfl) (by decide) ?_
            refine v_sub (lv' := [(3, .int (iI (((k : Int)) + 1))), (2, .int (iI ((j : Int)))), (0, .ref (w.1 13 0)), (1, .ref (w.1 14 i))]) [0, 3, 4, 5] rfl ?_
            rw [show (k : Int) + 1 = ((k + 1 : Nat) : Int) by omega]
            exact ih (k + 1) _ (by omega) (fun q hq => by by_cases c : q = k; rw [c]; exact (hgv.resolve_right (fun c => by omega)).2; exact hw q (by omega)) hi0 h14 h15 hA0 hG0
          · refine v_iconst hX (atL dAX8_isProbable_2 5 rfl) ?_
            exact v_zret hX (by decide +kernel) (atL dAX8_isProbable_2 6 rfl) (hret _ _ ⟨tf_n (fun q => by have z := (prob_of h37 hodd hds hd2).mp q k (by omega); rcases (hgv.resolve_left (fun c => by omega)).2 with ⟨c1, c2⟩; rcases z with z | ⟨i5, z1, z2⟩; exact c1 z; exact c2 i5 (by omega) z2), hA0, hG0⟩)
        | succ f ihf =>
          intro j g s3 hj hj1 hgv h17 hi0 h14 h15 hA0 hG0
          have hgr : g = 0 ∨ g = 1 := by rcases hgv with q | q <;> omega
          refine v_iload hX 0 rfl (atL dAX8_isProbable_1 37 rfl) ?_
          refine v_iload_n hX 3 rfl (atL dAX8_isProbable_1 38 rfl) ?_
          refine v_icmp_ge hX ⟨by omega, by omega⟩ ⟨by omega, by omega⟩ (tgt := 251) (atL dAX8_isProbable_1 39 rfl) (by decide) (fun h199 => absurd h199 (by omega)) (fun h199 => ?_)
          refine v_iload hX 1 rfl (atL dAX8_isProbable_1 40 rfl) ?_
          refine v_if_ne hX ⟨by omega, by omega⟩ (tgt := 251) (atL dAX8_isProbable_1 41 rfl) (by decide) (fun h204 => ?_) (fun h204 => ?_)
          · refine v_iload hX 1 rfl (atL dAX8_isProbable_2 3 rfl) ?_
            refine v_if_ne hX ⟨by omega, by omega⟩ (tgt := 258) (atL dAX8_isProbable_2 4 rfl) (by decide) (fun h253 => ?_) (fun h253 => ?_)
            · refine v_iinc hX (lv' := [(3, .int (iI (((k : Int)) + 1))), (5, .int (iI ((j : Int)))), (4, .int (iI (g))), (2, .int (iI ((s2 : Int)))), (0, .ref (w.1 13 0)), (1, .ref (w.1 14 i))]) 2 rfl (iI_add _ _) (Nat.le_of_ble_eq_true rfl) rfl (atL dAX8_isProbable_2 7 rfl) ?_
              refine v_goto hX (tgt := 127) (atL dAX8_isProbable_2 8 rfl) (by decide) ?_
              refine v_sub (lv' := [(3, .int (iI (((k : Int)) + 1))), (2, .int (iI ((s2 : Int)))), (0, .ref (w.1 13 0)), (1, .ref (w.1 14 i))]) [0, 3, 4, 5] rfl ?_
              rw [show (k : Int) + 1 = ((k + 1 : Nat) : Int) by omega]
              exact ih (k + 1) _ (by omega) (fun q hq => by by_cases c : q = k; rw [c]; exact (hgv.resolve_right (fun c => by omega)).2; exact hw q (by omega)) hi0 h14 h15 hA0 hG0
            · refine v_iconst hX (atL dAX8_isProbable_2 5 rfl) ?_
              exact v_zret hX (by decide +kernel) (atL dAX8_isProbable_2 6 rfl) (hret _ _ ⟨tf_n (fun q => by have z := (prob_of h37 hodd hds hd2).mp q k (by omega); rcases (hgv.resolve_left (fun c => by omega)).2 with ⟨c1, c2⟩; rcases z with z | ⟨i5, z1, z2⟩; exact c1 z; exact c2 i5 (by omega) z2), hA0, hG0⟩)
          · have hg0 : g = 0 := by omega
            have hg3 := (hgv.resolve_left (fun c => by omega)).2
            have h17b := h17.resolve_right (fun c => by omega)
            have hsq : bs k ^ (d * 2 ^ (j - 1)) % n * (bs k ^ (d * 2 ^ (j - 1)) % n) % n = bs k ^ (d * 2 ^ j) % n := by have := sq_pow (b := bs k) (d := d) (k := j - 1) (n := n); rw [show j - 1 + 1 = j by omega] at this; exact this
            obtain ⟨rr, hrr⟩ : ∃ q, bs k ^ (d * 2 ^ (j - 1)) % n = q := ⟨_, rfl⟩
            rw [hrr] at h17b hsq
            have hrl : lb rr 134 := by rw [← hrr]; exact lb_mod hn0 bi
            refine v_aload_n hX 4 rfl (atL dAX8_isProbable_1 42 rfl) ?_
            refine v_aload_n hX 4 rfl (atL dAX8_isProbable_1 43 rfl) ?_
            refine gf_X8_64 hX hk0 (atL dAX8_isProbable_1 44 rfl) ?_
            refine v_aload_n hX 4 rfl (atL dAX8_isProbable_1 45 rfl) ?_
            refine gf_X8_64 hX hk0 (atL dAX8_isProbable_1 46 rfl) ?_
            refine v_aload_n hX 5 rfl (atL dAX8_isProbable_1 47 rfl) ?_
            refine v_aload_n hX 4 rfl (atL dAX8_isProbable_1 48 rfl) ?_
            refine gf_X8_64 hX hk0 (atL dAX8_isProbable_1 49 rfl) ?_
            refine v_callV hX (As := [.ref (w.1 14 17), .ref (w.1 14 17), .ref (w.1 14 i), .ref (w.1 14 17)]) (rest := []) (c_X8_times (xl X) w s3 hk0 hA0 17 rr (hQ 17 (by simp [mn, tp])) h17b (n_mono hrl (by omega)) (by omega) 17 rr (hQ 17 (by simp [mn, tp])) h17b (n_mono hrl (by omega)) (by omega) i n hi hi0 hn0 (by omega) 17 (hQ 17 (by simp [mn, tp])) (by omega)) lk_X8_204 hk0 (fun _ => rfl) rfl rfl rfl (by rw [hR]; exact ⟨Nat.le_of_ble_eq_true rfl, Nat.le_of_ble_eq_true rfl⟩) ⟨Nat.zero_le _, Nat.zero_le _⟩ rfl (Nat.le_of_ble_eq_true rfl) (atL dAX8_isProbable_1 50 rfl) (fun _ s1 e1 => ?_)
            obtain ⟨hw1, hAp1, hf1⟩ := e1
            have hA1 := hAp1
            have hn1_i := nm.fr hi0 hf1 (by simp <;> omega) (by simp <;> omega)
            have hn1_14 := nm.fr h14 hf1 (by simp <;> omega) (by simp <;> omega)
            have hn1_15 := nm.fr h15 hf1 (by simp <;> omega) (by simp <;> omega)
            have hG1 := hG0.tr' (hf1.mono (by simp))
            show V X _ w _ _ s1 []
            refine v_aload_n hX 4 rfl (atL dAX8_isProbable_1 51 rfl) ?_
            refine gf_X8_64 hX hk0 (atL dAX8_isProbable_1 52 rfl) ?_
            refine v_aload_n hX 4 rfl (atL dAX8_isProbable_1 53 rfl) ?_
            refine gf_X8_55 hX hk0 (atL dAX8_isProbable_1 54 rfl) ?_
            refine v_callN hX (As := [.ref (w.1 14 14)]) (rest := []) (c_X7_compare (xl X) w s1 17 (rr * rr % n) (hQ 17 (by simp [mn, tp])) hw1 14 (n - 1) (hQ 14 (by simp [mn, tp])) hn1_14) lk_X8_160 (hQ 17 (by simp [mn, tp])) (fun _ => rfl) rfl rfl rfl (by rw [hR]; exact ⟨Nat.le_of_ble_eq_true rfl, Nat.le_of_ble_eq_true rfl⟩) ⟨Nat.zero_le _, Nat.zero_le _⟩ rfl (Nat.le_of_ble_eq_true rfl) (atL dAX8_isProbable_1 55 rfl) (fun r2 z2 g2 => ?_)
            obtain ⟨ga2, gb2⟩ := g2
            rw [gb2]
            have gc2 : (r2 = -1 ∧ rr * rr % n < n - 1) ∨ (r2 = 0 ∧ rr * rr % n = n - 1) ∨ (r2 = 1 ∧ n - 1 < rr * rr % n) := ord3 ga2
            show V X _ w _ _ s1 [.int (iI (r2))]
            refine v_if_ne hX ⟨by omega, by omega⟩ (tgt := 242) (atL dAX8_isProbable_1 56 rfl) (by decide) (fun h235 => ?_) (fun h235 => ?_)
            · refine v_iconst hX (atL dAX8_isProbable_1 59 rfl) ?_
              refine v_istore hX (lv' := [(4, .int (iI (0))), (5, .int (iI ((j : Int)))), (3, .int (iI ((k : Int)))), (2, .int (iI ((s2 : Int)))), (0, .ref (w.1 13 0)), (1, .ref (w.1 14 i))]) (Nat.le_of_ble_eq_true rfl) rfl (atL dAX8_isProbable_2 0 rfl) ?_
              refine v_iinc hX (lv' := [(5, .int (iI (((j : Int)) + 1))), (4, .int (iI (0))), (3, .int (iI ((k : Int)))), (2, .int (iI ((s2 : Int)))), (0, .ref (w.1 13 0)), (1, .ref (w.1 14 i))]) 1 rfl (iI_add _ _) (Nat.le_of_ble_eq_true rfl) rfl (atL dAX8_isProbable_2 1 rfl) ?_
              refine v_goto hX (tgt := 196) (atL dAX8_isProbable_2 2 rfl) (by decide) ?_
              refine v_sub (lv' := [(5, .int (iI (((j : Int)) + 1))), (4, .int (iI (0))), (3, .int (iI ((k : Int)))), (2, .int (iI ((s2 : Int)))), (0, .ref (w.1 13 0)), (1, .ref (w.1 14 i))]) [0, 1, 2, 3, 4, 5] rfl ?_
              rw [show (j : Int) + 1 = ((j + 1 : Nat) : Int) by omega]
              exact ihf (j + 1) _ _ (by omega) (by omega) (Or.inr ⟨rfl, hg3.1, fun q hq => by by_cases c : q = j; rw [c, ← hsq]; omega; exact hg3.2 q (by omega)⟩) (Or.inl (by rw [show j + 1 - 1 = j by omega, ← hsq]; exact hw1)) hn1_i hn1_14 hn1_15 hA1 hG1
            · refine v_iconst hX (atL dAX8_isProbable_1 57 rfl) ?_
              refine v_goto hX (tgt := 243) (atL dAX8_isProbable_1 58 rfl) (by decide) ?_
              refine v_istore hX (lv' := [(4, .int (iI (1))), (5, .int (iI ((j : Int)))), (3, .int (iI ((k : Int)))), (2, .int (iI ((s2 : Int)))), (0, .ref (w.1 13 0)), (1, .ref (w.1 14 i))]) (Nat.le_of_ble_eq_true rfl) rfl (atL dAX8_isProbable_2 0 rfl) ?_
              refine v_iinc hX (lv' := [(5, .int (iI (((j : Int)) + 1))), (4, .int (iI (1))), (3, .int (iI ((k : Int)))), (2, .int (iI ((s2 : Int)))), (0, .ref (w.1 13 0)), (1, .ref (w.1 14 i))]) 1 rfl (iI_add _ _) (Nat.le_of_ble_eq_true rfl) rfl (atL dAX8_isProbable_2 1 rfl) ?_
              refine v_goto hX (tgt := 196) (atL dAX8_isProbable_2 2 rfl) (by decide) ?_
              refine v_sub (lv' := [(5, .int (iI (((j : Int)) + 1))), (4, .int (iI (1))), (3, .int (iI ((k : Int)))), (2, .int (iI ((s2 : Int)))), (0, .ref (w.1 13 0)), (1, .ref (w.1 14 i))]) [0, 1, 2, 3, 4, 5] rfl ?_
              rw [show (j : Int) + 1 = ((j + 1 : Nat) : Int) by omega]
              exact ihf (j + 1) _ _ (by omega) (by omega) (Or.inl ⟨rfl, Or.inr ⟨j, by omega, by rw [← hsq]; omega⟩⟩) (Or.inl (by rw [show j + 1 - 1 = j by omega, ← hsq]; exact hw1)) hn1_i hn1_14 hn1_15 hA1 hG1
      refine v_iload_n hX 0 rfl (atL dAX8_isProbable_1 3 rfl) ?_
      refine v_bipush hX (by decide +kernel) (atL dAX8_isProbable_1 4 rfl) ?_
      refine v_icmp_ge hX ⟨by omega, by omega⟩ ⟨by omega, by omega⟩ (tgt := 264) (atL dAX8_isProbable_1 5 rfl) (by decide) (fun h130 => absurd h130 (by omega)) (fun h130 => ?_)
      refine v_aload_n hX 2 rfl (atL dAX8_isProbable_1 6 rfl) ?_
      refine gf_X8_61 hX hk0 (atL dAX8_isProbable_1 7 rfl) ?_
      refine v_iload_n hX 0 rfl (atL dAX8_isProbable_1 8 rfl) ?_
      refine v_callS hX (As := [.int (iI ((k : Int)))]) (rest := [.ref (w.1 14 16)]) (c_X8_prime (xl X) w s k (by omega)) lk_X8_220 rfl (by rw [hR]; exact ⟨Nat.le_of_ble_eq_true rfl, Nat.le_of_ble_eq_true rfl⟩) ⟨Nat.zero_le _, Nat.zero_le _⟩ rfl (Nat.le_of_ble_eq_true rfl) (atL dAX8_isProbable_1 9 rfl) (fun r3 z3 g3 => ?_)
      obtain ⟨ga3, gb3⟩ := g3
      rw [gb3]
      subst ga3
      have hpl3 := pr_le k (by omega)
      show V X _ w _ _ s [.int (iI ((pr k : Int))), .ref (w.1 14 16)]
      refine v_callN hX (As := [.int (iI ((pr k : Int)))]) (rest := []) (c_X7_set (xl X) w s 16 (hQ 16 (by simp [mn, tp])) (hA0 16) (pr k) (by omega)) lk_X8_196 (hQ 16 (by simp [mn, tp])) (fun _ => rfl) rfl rfl rfl (by rw [hR]; exact ⟨Nat.le_of_ble_eq_true rfl, Nat.le_of_ble_eq_true rfl⟩) ⟨Nat.zero_le _, Nat.zero_le _⟩ rfl (Nat.le_of_ble_eq_true rfl) (atL dAX8_isProbable_1 10 rfl) (fun _ s4 e4 => ?_)
      obtain ⟨hw4, hf4⟩ := e4
      have hA4 := hA0.one hf4 hw4
      have hn4_i := nm.fr hi0 hf4 (by simp <;> omega) (by simp <;> omega)
      have hn4_14 := nm.fr h14 hf4 (by simp <;> omega) (by simp <;> omega)
      have hn4_15 := nm.fr h15 hf4 (by simp <;> omega) (by simp <;> omega)
      have hG4 := hG0.tr' (hf4.mono (by simp))
      show V X _ w _ _ s4 []
      refine v_aload_n hX 2 rfl (atL dAX8_isProbable_1 11 rfl) ?_
      refine v_aload_n hX 2 rfl (atL dAX8_isProbable_1 12 rfl) ?_
      refine gf_X8_61 hX hk0 (atL dAX8_isProbable_1 13 rfl) ?_
      refine v_aload_n hX 2 rfl (atL dAX8_isProbable_1 14 rfl) ?_
      refine gf_X8_58 hX hk0 (atL dAX8_isProbable_1 15 rfl) ?_
      refine v_aload_n hX 3 rfl (atL dAX8_isProbable_1 16 rfl) ?_
      refine v_aload_n hX 2 rfl (atL dAX8_isProbable_1 17 rfl) ?_
      refine gf_X8_64 hX hk0 (atL dAX8_isProbable_1 18 rfl) ?_
      refine v_callV hX (As := [.ref (w.1 14 16), .ref (w.1 14 15), .ref (w.1 14 i), .ref (w.1 14 17)]) (rest := []) (c_X8_raise (xl X) w s4 hk0 hA4 16 (pr k) (hQ 16 (by simp [mn, tp])) hw4 (n_mono (show lb (pr k) 1 from (by show pr k < 65536 ^ 1; omega)) (by omega)) (by omega) 15 d (hQ 15 (by simp [mn, tp])) hn4_15 (by omega) i n hi hn4_i (n_mono bi (by omega)) hn0 (by omega) 17 (hQ 17 (by simp [mn, tp])) (by omega)) lk_X8_231 hk0 (fun _ => rfl) rfl rfl rfl (by rw [hR]; exact ⟨Nat.le_of_ble_eq_true rfl, Nat.le_of_ble_eq_true rfl⟩) ⟨Nat.zero_le _, Nat.zero_le _⟩ rfl (Nat.le_of_ble_eq_true rfl) (atL dAX8_isProbable_1 19 rfl) (fun _ s5 e5 => ?_)
      obtain ⟨hw5, hAp5, hf5⟩ := e5
      have hA5 := hAp5
      have hn5_i := nm.fr hn4_i hf5 (by simp <;> omega) (by simp <;> omega)
      have hn5_14 := nm.fr hn4_14 hf5 (by simp <;> omega) (by simp <;> omega)
      have hn5_15 := nm.fr hn4_15 hf5 (by simp <;> omega) (by simp <;> omega)
      have hn5_16 := nm.fr hw4 hf5 (by simp <;> omega) (by simp <;> omega)
      have hG5 := hG4.tr' (hf5.mono (by simp))
      show V X _ w _ _ s5 []
      obtain ⟨p1, hp1⟩ : ∃ q, bs k ^ d % n = q := ⟨_, rfl⟩
      have hw17 : NN s5 17 p1 := by have z := hw5; rw [hpb, hp1] at z; exact z
      have hp1l : lb p1 134 := by rw [← hp1]; exact lb_mod hn0 bi
      refine v_aload_n hX 2 rfl (atL dAX8_isProbable_1 20 rfl) ?_
      refine gf_X8_64 hX hk0 (atL dAX8_isProbable_1 21 rfl) ?_
      refine v_iconst hX (atL dAX8_isProbable_1 22 rfl) ?_
      refine v_callN hX (As := [.int (iI (1))]) (rest := []) (c_X7_is (xl X) w s5 17 p1 (hQ 17 (by simp [mn, tp])) hw17 1 (by omega)) lk_X8_200 (hQ 17 (by simp [mn, tp])) (fun _ => rfl) rfl rfl rfl (by rw [hR]; exact ⟨Nat.le_of_ble_eq_true rfl, Nat.le_of_ble_eq_true rfl⟩) ⟨Nat.zero_le _, Nat.zero_le _⟩ rfl (Nat.le_of_ble_eq_true rfl) (atL dAX8_isProbable_1 23 rfl) (fun r6 z6 g6 => ?_)
      obtain ⟨gc6, gb6⟩ := g6
      rw [gb6]
      have gd6 : r6 = 0 ∨ r6 = 1 := by rcases gc6 with q | q <;> omega
      show V X _ w _ _ s5 [.int (iI (r6))]
      refine v_if_ne hX ⟨by omega, by omega⟩ (tgt := 186) (atL dAX8_isProbable_1 24 rfl) (by decide) (fun h169 => ?_) (fun h169 => ?_)
      · refine v_iconst hX (atL dAX8_isProbable_1 31 rfl) ?_
        refine v_goto hX (tgt := 191) (atL dAX8_isProbable_1 32 rfl) (by decide) ?_
        refine v_istore hX (lv' := [(4, .int (iI (1))), (3, .int (iI ((k : Int)))), (2, .int (iI ((s2 : Int)))), (0, .ref (w.1 13 0)), (1, .ref (w.1 14 i))]) (Nat.le_of_ble_eq_true rfl) rfl (atL dAX8_isProbable_1 34 rfl) ?_
        refine v_iconst hX (atL dAX8_isProbable_1 35 rfl) ?_
        refine v_istore hX (lv' := [(5, .int (iI (1))), (4, .int (iI (1))), (3, .int (iI ((k : Int)))), (2, .int (iI ((s2 : Int)))), (0, .ref (w.1 13 0)), (1, .ref (w.1 14 i))]) (Nat.le_of_ble_eq_true rfl) rfl (atL dAX8_isProbable_1 36 rfl) ?_
        refine v_sub (lv' := [(5, .int (iI (1))), (4, .int (iI (1))), (3, .int (iI ((k : Int)))), (2, .int (iI ((s2 : Int)))), (0, .ref (w.1 13 0)), (1, .ref (w.1 14 i))]) [0, 1, 2, 3, 4, 5] rfl ?_
        refine LD (s2 - 1) 1 _ _ (by omega) (by omega) (Or.inl ⟨rfl, Or.inl (by rw [hp1]; exact gc6.t h169)⟩) (Or.inl ?_) hn5_i hn5_14 hn5_15 hA5 hG5
        rw [Nat.sub_self, Nat.pow_zero, Nat.mul_one, hp1]
        exact hw17
      · refine v_aload_n hX 2 rfl (atL dAX8_isProbable_1 25 rfl) ?_
        refine gf_X8_64 hX hk0 (atL dAX8_isProbable_1 26 rfl) ?_
        refine v_aload_n hX 2 rfl (atL dAX8_isProbable_1 27 rfl) ?_
        refine gf_X8_55 hX hk0 (atL dAX8_isProbable_1 28 rfl) ?_
        refine v_callN hX (As := [.ref (w.1 14 14)]) (rest := []) (c_X7_compare (xl X) w s5 17 p1 (hQ 17 (by simp [mn, tp])) hw17 14 (n - 1) (hQ 14 (by simp [mn, tp])) hn5_14) lk_X8_160 (hQ 17 (by simp [mn, tp])) (fun _ => rfl) rfl rfl rfl (by rw [hR]; exact ⟨Nat.le_of_ble_eq_true rfl, Nat.le_of_ble_eq_true rfl⟩) ⟨Nat.zero_le _, Nat.zero_le _⟩ rfl (Nat.le_of_ble_eq_true rfl) (atL dAX8_isProbable_1 29 rfl) (fun r7 z7 g7 => ?_)
        obtain ⟨ga7, gb7⟩ := g7
        rw [gb7]
        have gc7 : (r7 = -1 ∧ p1 < n - 1) ∨ (r7 = 0 ∧ p1 = n - 1) ∨ (r7 = 1 ∧ n - 1 < p1) := ord3 ga7
        show V X _ w _ _ s5 [.int (iI (r7))]
        refine v_if_ne hX ⟨by omega, by omega⟩ (tgt := 190) (atL dAX8_isProbable_1 30 rfl) (by decide) (fun h183 => ?_) (fun h183 => ?_)
        · refine v_iconst hX (atL dAX8_isProbable_1 33 rfl) ?_
          refine v_istore hX (lv' := [(4, .int (iI (0))), (3, .int (iI ((k : Int)))), (2, .int (iI ((s2 : Int)))), (0, .ref (w.1 13 0)), (1, .ref (w.1 14 i))]) (Nat.le_of_ble_eq_true rfl) rfl (atL dAX8_isProbable_1 34 rfl) ?_
          refine v_iconst hX (atL dAX8_isProbable_1 35 rfl) ?_
          refine v_istore hX (lv' := [(5, .int (iI (1))), (4, .int (iI (0))), (3, .int (iI ((k : Int)))), (2, .int (iI ((s2 : Int)))), (0, .ref (w.1 13 0)), (1, .ref (w.1 14 i))]) (Nat.le_of_ble_eq_true rfl) rfl (atL dAX8_isProbable_1 36 rfl) ?_
          refine v_sub (lv' := [(5, .int (iI (1))), (4, .int (iI (0))), (3, .int (iI ((k : Int)))), (2, .int (iI ((s2 : Int)))), (0, .ref (w.1 13 0)), (1, .ref (w.1 14 i))]) [0, 1, 2, 3, 4, 5] rfl ?_
          refine LD (s2 - 1) 1 _ _ (by omega) (by omega) (Or.inr ⟨rfl, by rw [hp1]; exact gc6.f (by omega), fun q hq => by rw [show q = 0 by omega, Nat.pow_zero, Nat.mul_one, hp1]; omega⟩) (Or.inl ?_) hn5_i hn5_14 hn5_15 hA5 hG5
          rw [Nat.sub_self, Nat.pow_zero, Nat.mul_one, hp1]
          exact hw17
        · refine v_iconst hX (atL dAX8_isProbable_1 31 rfl) ?_
          refine v_goto hX (tgt := 191) (atL dAX8_isProbable_1 32 rfl) (by decide) ?_
          refine v_istore hX (lv' := [(4, .int (iI (1))), (3, .int (iI ((k : Int)))), (2, .int (iI ((s2 : Int)))), (0, .ref (w.1 13 0)), (1, .ref (w.1 14 i))]) (Nat.le_of_ble_eq_true rfl) rfl (atL dAX8_isProbable_1 34 rfl) ?_
          refine v_iconst hX (atL dAX8_isProbable_1 35 rfl) ?_
          refine v_istore hX (lv' := [(5, .int (iI (1))), (4, .int (iI (1))), (3, .int (iI ((k : Int)))), (2, .int (iI ((s2 : Int)))), (0, .ref (w.1 13 0)), (1, .ref (w.1 14 i))]) (Nat.le_of_ble_eq_true rfl) rfl (atL dAX8_isProbable_1 36 rfl) ?_
          refine v_sub (lv' := [(5, .int (iI (1))), (4, .int (iI (1))), (3, .int (iI ((k : Int)))), (2, .int (iI ((s2 : Int)))), (0, .ref (w.1 13 0)), (1, .ref (w.1 14 i))]) [0, 1, 2, 3, 4, 5] rfl ?_
          refine LD (s2 - 1) 1 _ _ (by omega) (by omega) (Or.inl ⟨rfl, Or.inr ⟨0, hs0, by rw [Nat.pow_zero, Nat.mul_one, hp1]; omega⟩⟩) (Or.inl ?_) hn5_i hn5_14 hn5_15 hA5 hG5
          rw [Nat.sub_self, Nat.pow_zero, Nat.mul_one, hp1]
          exact hw17
  have LB : 37 < n → n % 2 = 1 → ∀ (d s2 : Nat) (s : St), 0 < d → n - 1 = d * 2 ^ s2 → (0 < s2 ∨ d % 2 = 0) → s2 + blen d ≤ 4400 → lb d 134 → NN s i n → NN s 14 (n - 1) → NN s 15 d → AN s → Fr [(11, 0), (12, 0), (11, 1), (12, 1), (11, 2), (12, 2), (11, 3), (12, 3), (11, 4), (12, 4), (11, 5), (12, 5), (11, 13), (12, 13), (11, 14), (12, 14), (11, 15), (12, 15), (11, 16), (12, 16), (11, 17), (12, 17)] σ s → V X (0, 0) w 102 [(2, .int (iI ((s2 : Int)))), (0, .ref (w.1 13 0)), (1, .ref (w.1 14 i))] s [] := by
    intro h37 hodd d
    induction d using Nat.strongRecOn with
    | _ d ihd =>
      intro s2 s hd0 hds hse hbl hdl hi0 h14 h15 hA0 hG0
      have hml : lb (n - 1) 134 := lb_le bi (Nat.sub_le _ _)
      refine v_aload_n hX 1 rfl (atL dAX8_isProbable_0 52 rfl) ?_
      refine gf_X8_58 hX hk0 (atL dAX8_isProbable_0 53 rfl) ?_
      refine v_callN hX (As := []) (rest := []) (c_X7_isOdd (xl X) w s 15 d (hQ 15 (by simp [mn, tp])) h15) lk_X8_224 (hQ 15 (by simp [mn, tp])) (fun _ => rfl) rfl rfl rfl (by rw [hR]; exact ⟨Nat.le_of_ble_eq_true rfl, Nat.le_of_ble_eq_true rfl⟩) ⟨Nat.zero_le _, Nat.zero_le _⟩ rfl (Nat.le_of_ble_eq_true rfl) (atL dAX8_isProbable_0 54 rfl) (fun r8 z8 g8 => ?_)
      obtain ⟨gc8, gb8⟩ := g8
      rw [gb8]
      have gd8 : r8 = 0 ∨ r8 = 1 := by rcases gc8 with q | q <;> omega
      show V X _ w _ _ s [.int (iI (r8))]
      refine v_if_ne hX ⟨by omega, by omega⟩ (tgt := 125) (atL dAX8_isProbable_0 55 rfl) (by decide) (fun h109 => ?_) (fun h109 => ?_)
      · refine v_iconst hX (atL dAX8_isProbable_1 1 rfl) ?_
        refine v_istore_n hX (i := 3) rfl (lv' := [(3, .int (iI (0))), (2, .int (iI ((s2 : Int)))), (0, .ref (w.1 13 0)), (1, .ref (w.1 14 i))]) (Nat.le_of_ble_eq_true rfl) rfl (atL dAX8_isProbable_1 2 rfl) ?_
        refine v_sub (lv' := [(3, .int (iI (0))), (2, .int (iI ((s2 : Int)))), (0, .ref (w.1 13 0)), (1, .ref (w.1 14 i))]) [0, 1, 2, 3] rfl ?_
        have hov := gc8.t h109
        exact LC h37 hodd d s2 hds hov (by omega) (by omega) 12 0 _ (by omega) (fun j hj => absurd hj (by omega)) hi0 h14 h15 hA0 hG0
      · refine v_aload_n hX 1 rfl (atL dAX8_isProbable_0 56 rfl) ?_
        refine gf_X8_58 hX hk0 (atL dAX8_isProbable_0 57 rfl) ?_
        refine v_callN hX (As := []) (rest := []) (c_X7_half (xl X) w s 15 d (hQ 15 (by simp [mn, tp])) h15) lk_X8_228 (hQ 15 (by simp [mn, tp])) (fun _ => rfl) rfl rfl rfl (by rw [hR]; exact ⟨Nat.le_of_ble_eq_true rfl, Nat.le_of_ble_eq_true rfl⟩) ⟨Nat.zero_le _, Nat.zero_le _⟩ rfl (Nat.le_of_ble_eq_true rfl) (atL dAX8_isProbable_0 58 rfl) (fun _ s9 e9 => ?_)
        obtain ⟨hw9, hf9⟩ := e9
        have hA9 := hA0.one hf9 hw9
        have hn9_i := nm.fr hi0 hf9 (by simp <;> omega) (by simp <;> omega)
        have hn9_14 := nm.fr h14 hf9 (by simp <;> omega) (by simp <;> omega)
        have hG9 := hG0.tr' (hf9.mono (by simp))
        show V X _ w _ _ s9 []
        refine v_iinc hX (lv' := [(2, .int (iI (((s2 : Int)) + 1))), (0, .ref (w.1 13 0)), (1, .ref (w.1 14 i))]) 0 rfl (iI_add _ _) (Nat.le_of_ble_eq_true rfl) rfl (atL dAX8_isProbable_0 59 rfl) ?_
        refine v_goto hX (tgt := 102) (atL dAX8_isProbable_1 0 rfl) (by decide) ?_
        refine v_sub (lv' := [(2, .int (iI (((s2 : Int)) + 1))), (0, .ref (w.1 13 0)), (1, .ref (w.1 14 i))]) [0, 1, 2] rfl ?_
        have hev := gc8.f h109
        rw [show (s2 : Int) + 1 = ((s2 + 1 : Nat) : Int) by omega]
        exact ihd (d / 2) (by omega) (s2 + 1) _ (by omega) (by rw [hds, Nat.pow_succ, Nat.mul_comm (2 ^ s2) 2, ← Nat.mul_assoc, Nat.div_mul_cancel (Nat.dvd_of_mod_eq_zero (by omega))]) (Or.inl (by omega)) (by have := blen_half hd0; omega) (lb_le hdl (Nat.div_le_self _ _)) hn9_i hn9_14 hw9 hA9 hG9
  have hn0 : True := trivial
  have LA : ∀ (e k : Nat), k + e = 12 → (∀ j, j < k → n ≠ bs j) → V X (0, 0) w 2 [(2, .int (iI ((k : Int)))), (0, .ref (w.1 13 0)), (1, .ref (w.1 14 i))] σ [] := by
    intro e
    induction e with
    | zero =>
      intro k hk hno
      obtain rfl : k = 12 := by omega
      have hA0 := hAN
      have hG0 : Fr [(11, 0), (12, 0), (11, 1), (12, 1), (11, 2), (12, 2), (11, 3), (12, 3), (11, 4), (12, 4), (11, 5), (12, 5), (11, 13), (12, 13), (11, 14), (12, 14), (11, 15), (12, 15), (11, 16), (12, 16), (11, 17), (12, 17)] σ σ := Fr.rf
      obtain ⟨u, hu, hu8, hd, ht, hv⟩ := id hn1
      have hz := NN_0 ht hd hv
      have hd0 := hd 0
      have hu1 : u = 1 → n = (σ 12 i 0).toNat := fun q => by subst q; exact NN_1 hv
      have hu2 : 2 ≤ u → 65536 ≤ n := fun q => NN_2 ht hd hv q
      clear hd ht hv
      have hsm : n ≤ 37 → ¬ prob n := fun c q => by obtain ⟨j, hj, e⟩ := (prob_small c).mp q; exact hno j hj e
      refine v_iload_n hX 0 rfl (atL dAX8_isProbable_0 2 rfl) ?_
      refine v_bipush hX (by decide +kernel) (atL dAX8_isProbable_0 3 rfl) ?_
      refine v_icmp_ge hX ⟨by omega, by omega⟩ ⟨by omega, by omega⟩ (tgt := 27) (atL dAX8_isProbable_0 4 rfl) (by decide) (fun h5 => ?_) (fun h5 => absurd h5 (by omega))
      refine v_aload_n hX 2 rfl (atL dAX8_isProbable_0 14 rfl) ?_
      refine gf_X8_164 hX (v := (u : Int)) (hu) hi (atL dAX8_isProbable_0 15 rfl) ?_
      refine v_if_eq hX ⟨by omega, by omega⟩ (tgt := 60) (atL dAX8_isProbable_0 16 rfl) (by decide) (fun h31 => ?_) (fun h31 => ?_)
      · refine v_iconst hX (atL dAX8_isProbable_0 30 rfl) ?_
        exact v_zret hX (by decide +kernel) (atL dAX8_isProbable_0 31 rfl) (hret _ _ ⟨tf_n (hsm (by have := hz.mp (by omega); omega)), hA0, hG0⟩)
      · refine v_aload_n hX 2 rfl (atL dAX8_isProbable_0 17 rfl) ?_
        refine gf_X8_164 hX (v := (u : Int)) (hu) hi (atL dAX8_isProbable_0 18 rfl) ?_
        refine v_iconst hX (atL dAX8_isProbable_0 19 rfl) ?_
        refine v_icmp_ne hX ⟨by omega, by omega⟩ ⟨by omega, by omega⟩ (tgt := 53) (atL dAX8_isProbable_0 20 rfl) (by decide) (fun h39 => ?_) (fun h39 => ?_)
        · refine v_aload_n hX 2 rfl (atL dAX8_isProbable_0 27 rfl) ?_
          refine v_callN hX (As := []) (rest := []) (c_X7_isOdd (xl X) w σ i n hi hn1) lk_X8_224 hi (fun _ => rfl) rfl rfl rfl (by rw [hR]; exact ⟨Nat.le_of_ble_eq_true rfl, Nat.le_of_ble_eq_true rfl⟩) ⟨Nat.zero_le _, Nat.zero_le _⟩ rfl (Nat.le_of_ble_eq_true rfl) (atL dAX8_isProbable_0 28 rfl) (fun r10 z10 g10 => ?_)
          obtain ⟨gc10, gb10⟩ := g10
          rw [gb10]
          have gd10 : r10 = 0 ∨ r10 = 1 := by rcases gc10 with q | q <;> omega
          show V X _ w _ _ σ [.int (iI (r10))]
          refine v_if_ne hX ⟨by omega, by omega⟩ (tgt := 62) (atL dAX8_isProbable_0 29 rfl) (by decide) (fun h57 => ?_) (fun h57 => ?_)
          · have h37 : 37 < n := by rcases Nat.lt_trichotomy u 1 with c | c | c; omega; have := hu1 c; omega; have := hu2 (by omega); omega
            refine v_aload_n hX 1 rfl (atL dAX8_isProbable_0 32 rfl) ?_
            refine gf_X8_52 hX hk0 (atL dAX8_isProbable_0 33 rfl) ?_
            refine v_iconst hX (atL dAX8_isProbable_0 34 rfl) ?_
            refine v_callN hX (As := [.int (iI (1))]) (rest := []) (c_X7_set (xl X) w σ 13 (hQ 13 (by simp [mn, tp])) (hA0 13) 1 (by omega)) lk_X8_196 (hQ 13 (by simp [mn, tp])) (fun _ => rfl) rfl rfl rfl (by rw [hR]; exact ⟨Nat.le_of_ble_eq_true rfl, Nat.le_of_ble_eq_true rfl⟩) ⟨Nat.zero_le _, Nat.zero_le _⟩ rfl (Nat.le_of_ble_eq_true rfl) (atL dAX8_isProbable_0 35 rfl) (fun _ s11 e11 => ?_)
            obtain ⟨hw11, hf11⟩ := e11
            have hA11 := hA0.one hf11 hw11
            have hn11_i := nm.fr hn1 hf11 (by simp <;> omega) (by simp <;> omega)
            have hG11 := hG0.tr' (hf11.mono (by simp))
            show V X _ w _ _ s11 []
            refine v_aload_n hX 1 rfl (atL dAX8_isProbable_0 36 rfl) ?_
            refine gf_X8_55 hX hk0 (atL dAX8_isProbable_0 37 rfl) ?_
            refine v_aload_n hX 2 rfl (atL dAX8_isProbable_0 38 rfl) ?_
            refine v_callN hX (As := [.ref (w.1 14 i)]) (rest := []) (c_X7_take (xl X) w s11 14 (hQ 14 (by simp [mn, tp])) (hA11 14) i n hi hn11_i) lk_X8_192 (hQ 14 (by simp [mn, tp])) (fun _ => rfl) rfl rfl rfl (by rw [hR]; exact ⟨Nat.le_of_ble_eq_true rfl, Nat.le_of_ble_eq_true rfl⟩) ⟨Nat.zero_le _, Nat.zero_le _⟩ rfl (Nat.le_of_ble_eq_true rfl) (atL dAX8_isProbable_0 39 rfl) (fun _ s12 e12 => ?_)
            obtain ⟨hw12, hf12⟩ := e12
            have hA12 := hA11.one hf12 hw12
            have hn12_i := nm.fr hn11_i hf12 (by simp <;> omega) (by simp <;> omega)
            have hn12_13 := nm.fr hw11 hf12 (by simp <;> omega) (by simp <;> omega)
            have hG12 := hG11.tr' (hf12.mono (by simp))
            show V X _ w _ _ s12 []
            refine v_aload_n hX 1 rfl (atL dAX8_isProbable_0 40 rfl) ?_
            refine gf_X8_55 hX hk0 (atL dAX8_isProbable_0 41 rfl) ?_
            refine v_aload_n hX 1 rfl (atL dAX8_isProbable_0 42 rfl) ?_
            refine gf_X8_52 hX hk0 (atL dAX8_isProbable_0 43 rfl) ?_
            refine v_callN hX (As := [.ref (w.1 14 13)]) (rest := []) (c_X7_less (xl X) w s12 14 n (hQ 14 (by simp [mn, tp])) hw12 13 1 (hQ 13 (by simp [mn, tp])) hn12_13 (by omega) (by omega)) lk_X8_214 (hQ 14 (by simp [mn, tp])) (fun _ => rfl) rfl rfl rfl (by rw [hR]; exact ⟨Nat.le_of_ble_eq_true rfl, Nat.le_of_ble_eq_true rfl⟩) ⟨Nat.zero_le _, Nat.zero_le _⟩ rfl (Nat.le_of_ble_eq_true rfl) (atL dAX8_isProbable_0 44 rfl) (fun _ s13 e13 => ?_)
            obtain ⟨hw13, hf13⟩ := e13
            have hA13 := hA12.one hf13 hw13
            have hn13_i := nm.fr hn12_i hf13 (by simp <;> omega) (by simp <;> omega)
            have hn13_13 := nm.fr hn12_13 hf13 (by simp <;> omega) (by simp <;> omega)
            have hG13 := hG12.tr' (hf13.mono (by simp))
            show V X _ w _ _ s13 []
            refine v_aload_n hX 1 rfl (atL dAX8_isProbable_0 45 rfl) ?_
            refine gf_X8_58 hX hk0 (atL dAX8_isProbable_0 46 rfl) ?_
            refine v_aload_n hX 1 rfl (atL dAX8_isProbable_0 47 rfl) ?_
            refine gf_X8_55 hX hk0 (atL dAX8_isProbable_0 48 rfl) ?_
            refine v_callN hX (As := [.ref (w.1 14 14)]) (rest := []) (c_X7_take (xl X) w s13 15 (hQ 15 (by simp [mn, tp])) (hA13 15) 14 (n - 1) (hQ 14 (by simp [mn, tp])) hw13) lk_X8_192 (hQ 15 (by simp [mn, tp])) (fun _ => rfl) rfl rfl rfl (by rw [hR]; exact ⟨Nat.le_of_ble_eq_true rfl, Nat.le_of_ble_eq_true rfl⟩) ⟨Nat.zero_le _, Nat.zero_le _⟩ rfl (Nat.le_of_ble_eq_true rfl) (atL dAX8_isProbable_0 49 rfl) (fun _ s14 e14 => ?_)
            obtain ⟨hw14, hf14⟩ := e14
            have hA14 := hA13.one hf14 hw14
            have hn14_i := nm.fr hn13_i hf14 (by simp <;> omega) (by simp <;> omega)
            have hn14_13 := nm.fr hn13_13 hf14 (by simp <;> omega) (by simp <;> omega)
            have hn14_14 := nm.fr hw13 hf14 (by simp <;> omega) (by simp <;> omega)
            have hG14 := hG13.tr' (hf14.mono (by simp))
            show V X _ w _ _ s14 []
            refine v_iconst hX (atL dAX8_isProbable_0 50 rfl) ?_
            refine v_istore_n hX (i := 2) rfl (lv' := [(2, .int (iI (0))), (0, .ref (w.1 13 0)), (1, .ref (w.1 14 i))]) (Nat.le_of_ble_eq_true rfl) rfl (atL dAX8_isProbable_0 51 rfl) ?_
            refine v_sub (lv' := [(2, .int (iI (0))), (0, .ref (w.1 13 0)), (1, .ref (w.1 14 i))]) [0, 1, 2] rfl ?_
            have hod := gc10.t h57
            have hml : lb (n - 1) 134 := lb_le bi (Nat.sub_le _ _)
            exact LB h37 hod (n - 1) 0 _ (by omega) (by rw [Nat.pow_zero, Nat.mul_one]) (Or.inr (by omega)) (by have := blen_le (show n - 1 < 2 ^ 4320 from Nat.lt_of_le_of_lt (Nat.sub_le _ _) (NN.le hn1)); omega) hml hn14_i hn14_14 hw14 hA14 hG14
          · refine v_iconst hX (atL dAX8_isProbable_0 30 rfl) ?_
            exact v_zret hX (by decide +kernel) (atL dAX8_isProbable_0 31 rfl) (hret _ _ ⟨tf_n (fun q => by have := gc10.f h57; rcases q with ⟨j, hj, e⟩ | ⟨_, h, _⟩; exact hno j hj e; exact this h), hA0, hG0⟩)
        · refine v_aload_n hX 2 rfl (atL dAX8_isProbable_0 21 rfl) ?_
          refine gf_X8_175 hX hi (atL dAX8_isProbable_0 22 rfl) ?_
          refine v_iconst hX (atL dAX8_isProbable_0 23 rfl) ?_
          refine v_iald hX (r := iI (σ 12 i 0)) 0 hi2 (fun _ => rfl) rfl (by decide) (by decide) (congrArg iI (rfl)) (atL dAX8_isProbable_0 24 rfl) ?_
          refine v_bipush hX (by decide +kernel) (atL dAX8_isProbable_0 25 rfl) ?_
          refine v_icmp_le hX ⟨by omega, by omega⟩ ⟨by omega, by omega⟩ (tgt := 60) (atL dAX8_isProbable_0 26 rfl) (by decide) (fun h50 => ?_) (fun h50 => ?_)
          · refine v_iconst hX (atL dAX8_isProbable_0 30 rfl) ?_
            exact v_zret hX (by decide +kernel) (atL dAX8_isProbable_0 31 rfl) (hret _ _ ⟨tf_n (hsm (by have := hu1 (by omega); omega)), hA0, hG0⟩)
          · refine v_aload_n hX 2 rfl (atL dAX8_isProbable_0 27 rfl) ?_
            refine v_callN hX (As := []) (rest := []) (c_X7_isOdd (xl X) w σ i n hi hn1) lk_X8_224 hi (fun _ => rfl) rfl rfl rfl (by rw [hR]; exact ⟨Nat.le_of_ble_eq_true rfl, Nat.le_of_ble_eq_true rfl⟩) ⟨Nat.zero_le _, Nat.zero_le _⟩ rfl (Nat.le_of_ble_eq_true rfl) (atL dAX8_isProbable_0 28 rfl) (fun r15 z15 g15 => ?_)
            obtain ⟨gc15, gb15⟩ := g15
            rw [gb15]
            have gd15 : r15 = 0 ∨ r15 = 1 := by rcases gc15 with q | q <;> omega
            show V X _ w _ _ σ [.int (iI (r15))]
            refine v_if_ne hX ⟨by omega, by omega⟩ (tgt := 62) (atL dAX8_isProbable_0 29 rfl) (by decide) (fun h57 => ?_) (fun h57 => ?_)
            · have h37 : 37 < n := by rcases Nat.lt_trichotomy u 1 with c | c | c; omega; have := hu1 c; omega; have := hu2 (by omega); omega
              refine v_aload_n hX 1 rfl (atL dAX8_isProbable_0 32 rfl) ?_
              refine gf_X8_52 hX hk0 (atL dAX8_isProbable_0 33 rfl) ?_
              refine v_iconst hX (atL dAX8_isProbable_0 34 rfl) ?_
              refine v_callN hX (As := [.int (iI (1))]) (rest := []) (c_X7_set (xl X) w σ 13 (hQ 13 (by simp [mn, tp])) (hA0 13) 1 (by omega)) lk_X8_196 (hQ 13 (by simp [mn, tp])) (fun _ => rfl) rfl rfl rfl (by rw [hR]; exact ⟨Nat.le_of_ble_eq_true rfl, Nat.le_of_ble_eq_true rfl⟩) ⟨Nat.zero_le _, Nat.zero_le _⟩ rfl (Nat.le_of_ble_eq_true rfl) (atL dAX8_isProbable_0 35 rfl) (fun _ s16 e16 => ?_)
              obtain ⟨hw16, hf16⟩ := e16
              have hA16 := hA0.one hf16 hw16
              have hn16_i := nm.fr hn1 hf16 (by simp <;> omega) (by simp <;> omega)
              have hG16 := hG0.tr' (hf16.mono (by simp))
              show V X _ w _ _ s16 []
              refine v_aload_n hX 1 rfl (atL dAX8_isProbable_0 36 rfl) ?_
              refine gf_X8_55 hX hk0 (atL dAX8_isProbable_0 37 rfl) ?_
              refine v_aload_n hX 2 rfl (atL dAX8_isProbable_0 38 rfl) ?_
              refine v_callN hX (As := [.ref (w.1 14 i)]) (rest := []) (c_X7_take (xl X) w s16 14 (hQ 14 (by simp [mn, tp])) (hA16 14) i n hi hn16_i) lk_X8_192 (hQ 14 (by simp [mn, tp])) (fun _ => rfl) rfl rfl rfl (by rw [hR]; exact ⟨Nat.le_of_ble_eq_true rfl, Nat.le_of_ble_eq_true rfl⟩) ⟨Nat.zero_le _, Nat.zero_le _⟩ rfl (Nat.le_of_ble_eq_true rfl) (atL dAX8_isProbable_0 39 rfl) (fun _ s17 e17 => ?_)
              obtain ⟨hw17, hf17⟩ := e17
              have hA17 := hA16.one hf17 hw17
              have hn17_i := nm.fr hn16_i hf17 (by simp <;> omega) (by simp <;> omega)
              have hn17_13 := nm.fr hw16 hf17 (by simp <;> omega) (by simp <;> omega)
              have hG17 := hG16.tr' (hf17.mono (by simp))
              show V X _ w _ _ s17 []
              refine v_aload_n hX 1 rfl (atL dAX8_isProbable_0 40 rfl) ?_
              refine gf_X8_55 hX hk0 (atL dAX8_isProbable_0 41 rfl) ?_
              refine v_aload_n hX 1 rfl (atL dAX8_isProbable_0 42 rfl) ?_
              refine gf_X8_52 hX hk0 (atL dAX8_isProbable_0 43 rfl) ?_
              refine v_callN hX (As := [.ref (w.1 14 13)]) (rest := []) (c_X7_less (xl X) w s17 14 n (hQ 14 (by simp [mn, tp])) hw17 13 1 (hQ 13 (by simp [mn, tp])) hn17_13 (by omega) (by omega)) lk_X8_214 (hQ 14 (by simp [mn, tp])) (fun _ => rfl) rfl rfl rfl (by rw [hR]; exact ⟨Nat.le_of_ble_eq_true rfl, Nat.le_of_ble_eq_true rfl⟩) ⟨Nat.zero_le _, Nat.zero_le _⟩ rfl (Nat.le_of_ble_eq_true rfl) (atL dAX8_isProbable_0 44 rfl) (fun _ s18 e18 => ?_)
              obtain ⟨hw18, hf18⟩ := e18
              have hA18 := hA17.one hf18 hw18
              have hn18_i := nm.fr hn17_i hf18 (by simp <;> omega) (by simp <;> omega)
              have hn18_13 := nm.fr hn17_13 hf18 (by simp <;> omega) (by simp <;> omega)
              have hG18 := hG17.tr' (hf18.mono (by simp))
              show V X _ w _ _ s18 []
              refine v_aload_n hX 1 rfl (atL dAX8_isProbable_0 45 rfl) ?_
              refine gf_X8_58 hX hk0 (atL dAX8_isProbable_0 46 rfl) ?_
              refine v_aload_n hX 1 rfl (atL dAX8_isProbable_0 47 rfl) ?_
              refine gf_X8_55 hX hk0 (atL dAX8_isProbable_0 48 rfl) ?_
              refine v_callN hX (As := [.ref (w.1 14 14)]) (rest := []) (c_X7_take (xl X) w s18 15 (hQ 15 (by simp [mn, tp])) (hA18 15) 14 (n - 1) (hQ 14 (by simp [mn, tp])) hw18) lk_X8_192 (hQ 15 (by simp [mn, tp])) (fun _ => rfl) rfl rfl rfl (by rw [hR]; exact ⟨Nat.le_of_ble_eq_true rfl, Nat.le_of_ble_eq_true rfl⟩) ⟨Nat.zero_le _, Nat.zero_le _⟩ rfl (Nat.le_of_ble_eq_true rfl) (atL dAX8_isProbable_0 49 rfl) (fun _ s19 e19 => ?_)
              obtain ⟨hw19, hf19⟩ := e19
              have hA19 := hA18.one hf19 hw19
              have hn19_i := nm.fr hn18_i hf19 (by simp <;> omega) (by simp <;> omega)
              have hn19_13 := nm.fr hn18_13 hf19 (by simp <;> omega) (by simp <;> omega)
              have hn19_14 := nm.fr hw18 hf19 (by simp <;> omega) (by simp <;> omega)
              have hG19 := hG18.tr' (hf19.mono (by simp))
              show V X _ w _ _ s19 []
              refine v_iconst hX (atL dAX8_isProbable_0 50 rfl) ?_
              refine v_istore_n hX (i := 2) rfl (lv' := [(2, .int (iI (0))), (0, .ref (w.1 13 0)), (1, .ref (w.1 14 i))]) (Nat.le_of_ble_eq_true rfl) rfl (atL dAX8_isProbable_0 51 rfl) ?_
              refine v_sub (lv' := [(2, .int (iI (0))), (0, .ref (w.1 13 0)), (1, .ref (w.1 14 i))]) [0, 1, 2] rfl ?_
              have hod := gc15.t h57
              have hml : lb (n - 1) 134 := lb_le bi (Nat.sub_le _ _)
              exact LB h37 hod (n - 1) 0 _ (by omega) (by rw [Nat.pow_zero, Nat.mul_one]) (Or.inr (by omega)) (by have := blen_le (show n - 1 < 2 ^ 4320 from Nat.lt_of_le_of_lt (Nat.sub_le _ _) (NN.le hn1)); omega) hml hn19_i hn19_14 hw19 hA19 hG19
            · refine v_iconst hX (atL dAX8_isProbable_0 30 rfl) ?_
              exact v_zret hX (by decide +kernel) (atL dAX8_isProbable_0 31 rfl) (hret _ _ ⟨tf_n (fun q => by have := gc15.f h57; rcases q with ⟨j, hj, e⟩ | ⟨_, h, _⟩; exact hno j hj e; exact this h), hA0, hG0⟩)
    | succ e ih =>
      intro k hk hno
      have hpb := pr_bs k (by omega)
      have hA0 := hAN
      have hG0 : Fr [(11, 0), (12, 0), (11, 1), (12, 1), (11, 2), (12, 2), (11, 3), (12, 3), (11, 4), (12, 4), (11, 5), (12, 5), (11, 13), (12, 13), (11, 14), (12, 14), (11, 15), (12, 15), (11, 16), (12, 16), (11, 17), (12, 17)] σ σ := Fr.rf
      refine v_iload_n hX 0 rfl (atL dAX8_isProbable_0 2 rfl) ?_
      refine v_bipush hX (by decide +kernel) (atL dAX8_isProbable_0 3 rfl) ?_
      refine v_icmp_ge hX ⟨by omega, by omega⟩ ⟨by omega, by omega⟩ (tgt := 27) (atL dAX8_isProbable_0 4 rfl) (by decide) (fun h5 => absurd h5 (by omega)) (fun h5 => ?_)
      refine v_aload_n hX 2 rfl (atL dAX8_isProbable_0 5 rfl) ?_
      refine v_iload_n hX 0 rfl (atL dAX8_isProbable_0 6 rfl) ?_
      refine v_callS hX (As := [.int (iI ((k : Int)))]) (rest := [.ref (w.1 14 i)]) (c_X8_prime (xl X) w σ k (by omega)) lk_X8_220 rfl (by rw [hR]; exact ⟨Nat.le_of_ble_eq_true rfl, Nat.le_of_ble_eq_true rfl⟩) ⟨Nat.zero_le _, Nat.zero_le _⟩ rfl (Nat.le_of_ble_eq_true rfl) (atL dAX8_isProbable_0 7 rfl) (fun r20 z20 g20 => ?_)
      obtain ⟨ga20, gb20⟩ := g20
      rw [gb20]
      subst ga20
      have hpl20 := pr_le k (by omega)
      show V X _ w _ _ σ [.int (iI ((pr k : Int))), .ref (w.1 14 i)]
      refine v_callN hX (As := [.int (iI ((pr k : Int)))]) (rest := []) (c_X7_is (xl X) w σ i n hi hn1 (pr k) (by omega)) lk_X8_200 hi (fun _ => rfl) rfl rfl rfl (by rw [hR]; exact ⟨Nat.le_of_ble_eq_true rfl, Nat.le_of_ble_eq_true rfl⟩) ⟨Nat.zero_le _, Nat.zero_le _⟩ rfl (Nat.le_of_ble_eq_true rfl) (atL dAX8_isProbable_0 8 rfl) (fun r21 z21 g21 => ?_)
      obtain ⟨gc21, gb21⟩ := g21
      rw [gb21]
      have gd21 : r21 = 0 ∨ r21 = 1 := by rcases gc21 with q | q <;> omega
      show V X _ w _ _ σ [.int (iI (r21))]
      refine v_if_eq hX ⟨by omega, by omega⟩ (tgt := 21) (atL dAX8_isProbable_0 9 rfl) (by decide) (fun h16 => ?_) (fun h16 => ?_)
      · refine v_iinc hX (lv' := [(2, .int (iI (((k : Int)) + 1))), (0, .ref (w.1 13 0)), (1, .ref (w.1 14 i))]) 0 rfl (iI_add _ _) (Nat.le_of_ble_eq_true rfl) rfl (atL dAX8_isProbable_0 12 rfl) ?_
        refine v_goto hX (tgt := 2) (atL dAX8_isProbable_0 13 rfl) (by decide) ?_
        rw [show (k : Int) + 1 = ((k + 1 : Nat) : Int) by omega]
        exact ih (k + 1) (by omega) (fun j hj => by by_cases c : j = k; rw [c, ← hpb]; exact gc21.f h16; exact hno j (by omega))
      · refine v_iconst hX (atL dAX8_isProbable_0 10 rfl) ?_
        exact v_zret hX (by decide +kernel) (atL dAX8_isProbable_0 11 rfl) (hret _ _ ⟨tf_p (Or.inl ⟨k, by omega, by rw [← hpb]; exact gc21.t h16⟩), hA0, hG0⟩)
  refine v_iconst hX (atL dAX8_isProbable_0 0 rfl) ?_
  refine v_istore_n hX (i := 2) rfl (lv' := [(2, .int (iI (0))), (0, .ref (w.1 13 0)), (1, .ref (w.1 14 i))]) (Nat.le_of_ble_eq_true rfl) rfl (atL dAX8_isProbable_0 1 rfl) ?_
  exact LA 12 0 (by omega) (fun j hj => absurd hj (by omega))
