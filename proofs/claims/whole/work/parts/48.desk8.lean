set_option maxHeartbeats 1000000 in
set_option maxRecDepth 100000 in
theorem c_X0_invert (l : Launch) (w : Wl) (σ : St) (hk0 : w.2 7 0) (o v : Nat) (ho : w.2 3 o) (hA : WN σ o v) (hv2 : v < 2 ^ 2048) (oN : o < 7 ∨ 22 < o) (b m : Nat) (hb : w.2 3 b) (hM : WN σ b m) (hm2 : m < 2 ^ 2048) (hm0 : m ≠ 0) (bN : b < 7 ∨ 22 < b) (r : Nat) (hr : w.2 3 r) (rN : r < 7 ∨ 22 < r) (hAD : AD σ) : Cn l yX0_invert cX0_invert 6 (Option.some Jvm.ClassFile.FieldType.boolean) 3 87 wI [.ref (w.1 7 0), .ref (w.1 3 o), .ref (w.1 3 b), .ref (w.1 3 r)] w σ (fun a σ' => ((a = 1 ∧ Nat.gcd v m = 1 ∧ ∃ i, WN σ' r i ∧ i < m ∧ v * i % m = 1 % m) ∨ (a = 0 ∧ Nat.gcd v m ≠ 1)) ∧ AD σ' ∧ Fr [(8, 0), (2, 7), (3, 7), (2, 8), (3, 8), (2, 9), (3, 9), (2, 13), (3, 13), (2, 14), (3, 14), (2, 15), (3, 15), (2, 16), (3, 16), (2, 17), (3, 17), (2, 18), (3, 18), (2, r), (3, r)] σ σ') := by
  refine Cn.of (own := RX0) (lv := [(0, .ref (w.1 7 0)), (1, .ref (w.1 3 o)), (2, .ref (w.1 3 b)), (3, .ref (w.1 3 r))]) (by decide +kernel) rfl (Nat.le_of_ble_eq_true rfl) rfl (fun X hX hxl hR hcl hret => ?_)
  subst hxl
  have hD3 : ∀ q, (3, q) ∈ mn σ 7 0 → w.2 3 q := fun q h => hcl 7 0 hk0 (3, q) h
  have loop : ∀ (d k x y p q : Nat) (ng e : Int) (s : St), k + d = 4096 → ((ng = 1 ∧ e = 1) ∨ (ng = 0 ∧ e = -1)) → x < 2 ^ 2048 → y < 2 ^ 2048 → eu k x y → Nat.gcd x y = Nat.gcd v m → iv m v x y p q e → AD s → WN s 13 x → WN s 14 y → WN s 16 p → WN s 17 q → Fr [(8, 0), (2, 7), (3, 7), (2, 8), (3, 8), (2, 9), (3, 9), (2, 13), (3, 13), (2, 14), (3, 14), (2, 15), (3, 15), (2, 16), (3, 16), (2, 17), (3, 17), (2, 18), (3, 18)] σ s → V X (0, 0) w 40 [(5, .int (iI ((k : Int)))), (4, .int (iI (ng))), (0, .ref (w.1 7 0)), (1, .ref (w.1 3 o)), (2, .ref (w.1 3 b)), (3, .ref (w.1 3 r))] s [] := by
    intro d
    induction d with
    | zero =>
      intro k x y p q ng e s hk hng hx hy he hg hiv had w13 w14 w16 w17 hfr
      obtain rfl : k = 4096 := by omega
      have hy0 := eu_end he
      refine v_iload hX 0 rfl (atL dAX0_invert_0 22 rfl) ?_
      refine v_sipush hX (by decide +kernel) (atL dAX0_invert_0 23 rfl) ?_
      refine v_icmp_ge hX ⟨by omega, by omega⟩ ⟨by omega, by omega⟩ (tgt := 166) (atL dAX0_invert_0 24 rfl) (by decide) (fun h45 => ?_) (fun h45 => absurd h45 (by omega))
      refine v_aload_n hX 2 rfl (atL dAX0_invert_1 19 rfl) ?_
      refine gf_X0_37 hX hk0 (atL dAX0_invert_1 20 rfl) ?_
      refine v_iconst hX (atL dAX0_invert_1 21 rfl) ?_
      refine v_callV hX (As := [.int (iI (1))]) (rest := []) (c_X5_isSmall (xl X) w s 13 x (hD3 13 (by simp [mn, tp])) w13 1 (by omega) (by omega)) lk_X0_146 (hD3 13 (by simp [mn, tp])) (fun _ => rfl) rfl rfl rfl (by rw [hR]; exact ⟨Nat.le_of_ble_eq_true rfl, Nat.le_of_ble_eq_true rfl⟩) ⟨Nat.zero_le _, Nat.zero_le _⟩ rfl (Nat.le_of_ble_eq_true rfl) (atL dAX0_invert_1 22 rfl) (fun r1 s1 h1 => ?_)
      obtain ⟨h1a, h1b⟩ := h1
      rw [h1b]
      show V X _ w _ _ s [.int (iI (r1))]
      refine v_if_ne hX ⟨by split at h1a <;> omega, by split at h1a <;> omega⟩ (tgt := 179) (atL dAX0_invert_1 23 rfl) (by decide) (fun h174 => ?_) (fun h174 => ?_)
      · obtain rfl : x = 1 := by split at h1a <;> omega
        subst hy0
        rw [Nat.gcd_zero_right] at hg
        refine v_iload hX 1 rfl (atL dAX0_invert_1 26 rfl) ?_
        refine v_if_eq hX ⟨by omega, by omega⟩ (tgt := 206) (atL dAX0_invert_1 27 rfl) (by decide) (fun h181 => ?_) (fun h181 => ?_)
        · refine v_aload_n hX 5 rfl (atL dAX0_invert_1 38 rfl) ?_
          refine v_aload_n hX 2 rfl (atL dAX0_invert_1 39 rfl) ?_
          refine gf_X0_46 hX hk0 (atL dAX0_invert_1 40 rfl) ?_
          have hi : p < m ∧ v * p % m = 1 % m := by
            obtain rfl : e = -1 := by omega
            exact ⟨iv_m hm0 hiv, iv_n hiv⟩
          refine v_callV hX (As := [.ref (w.1 3 16)]) (rest := []) (c_X5_set (xl X) w s r hr (had r) 16 p (hD3 16 (by simp [mn, tp])) w16 (by omega)) lk_X0_121 hr (fun _ => rfl) rfl rfl rfl (by rw [hR]; exact ⟨Nat.le_of_ble_eq_true rfl, Nat.le_of_ble_eq_true rfl⟩) ⟨Nat.zero_le _, Nat.zero_le _⟩ rfl (Nat.le_of_ble_eq_true rfl) (atL dAX0_invert_1 41 rfl) (fun _ s3 h3 => ?_)
          obtain ⟨h3a, h3f⟩ := h3
          have had3 := had.one h3f h3a
          obtain ⟨hi1, hi2⟩ := hi
          show V X _ w _ _ s3 []
          refine v_iconst hX (atL dAX0_invert_1 42 rfl) ?_
          exact v_zret hX (by decide +kernel) (atL dAX0_invert_1 43 rfl) (hret _ _ ⟨Or.inl ⟨rfl, hg.symm, _, h3a, hi1, hi2⟩, had3, (hfr.mono (by simp)).tr' (h3f.mono (by simp))⟩)
        · refine v_aload_n hX 2 rfl (atL dAX0_invert_1 28 rfl) ?_
          refine gf_X0_46 hX hk0 (atL dAX0_invert_1 29 rfl) ?_
          refine v_callV hX (As := []) (rest := []) (c_X5_isZero (xl X) w s 16 p (hD3 16 (by simp [mn, tp])) w16) lk_X0_124 (hD3 16 (by simp [mn, tp])) (fun _ => rfl) rfl rfl rfl (by rw [hR]; exact ⟨Nat.le_of_ble_eq_true rfl, Nat.le_of_ble_eq_true rfl⟩) ⟨Nat.zero_le _, Nat.zero_le _⟩ rfl (Nat.le_of_ble_eq_true rfl) (atL dAX0_invert_1 30 rfl) (fun r2 s2 h2 => ?_)
          obtain ⟨h2a, h2b⟩ := h2
          rw [h2b]
          show V X _ w _ _ s [.int (iI (r2))]
          refine v_if_ne hX ⟨by split at h2a <;> omega, by split at h2a <;> omega⟩ (tgt := 206) (atL dAX0_invert_1 31 rfl) (by decide) (fun h191 => ?_) (fun h191 => ?_)
          · refine v_aload_n hX 5 rfl (atL dAX0_invert_1 38 rfl) ?_
            refine v_aload_n hX 2 rfl (atL dAX0_invert_1 39 rfl) ?_
            refine gf_X0_46 hX hk0 (atL dAX0_invert_1 40 rfl) ?_
            have hi : p < m ∧ v * p % m = 1 % m := by
              have hp0 : p = 0 := by split at h2a <;> omega
              subst hp0
              obtain rfl : e = 1 := by omega
              have hm1 := iv_z hm0 hiv
              subst hm1
              exact ⟨by omega, by omega⟩
            refine v_callV hX (As := [.ref (w.1 3 16)]) (rest := []) (c_X5_set (xl X) w s r hr (had r) 16 p (hD3 16 (by simp [mn, tp])) w16 (by omega)) lk_X0_121 hr (fun _ => rfl) rfl rfl rfl (by rw [hR]; exact ⟨Nat.le_of_ble_eq_true rfl, Nat.le_of_ble_eq_true rfl⟩) ⟨Nat.zero_le _, Nat.zero_le _⟩ rfl (Nat.le_of_ble_eq_true rfl) (atL dAX0_invert_1 41 rfl) (fun _ s3 h3 => ?_)
            obtain ⟨h3a, h3f⟩ := h3
            have had3 := had.one h3f h3a
            obtain ⟨hi1, hi2⟩ := hi
            show V X _ w _ _ s3 []
            refine v_iconst hX (atL dAX0_invert_1 42 rfl) ?_
            exact v_zret hX (by decide +kernel) (atL dAX0_invert_1 43 rfl) (hret _ _ ⟨Or.inl ⟨rfl, hg.symm, _, h3a, hi1, hi2⟩, had3, (hfr.mono (by simp)).tr' (h3f.mono (by simp))⟩)
          · refine v_aload_n hX 5 rfl (atL dAX0_invert_1 32 rfl) ?_
            refine v_aload_n hX 4 rfl (atL dAX0_invert_1 33 rfl) ?_
            refine v_aload_n hX 2 rfl (atL dAX0_invert_1 34 rfl) ?_
            refine gf_X0_46 hX hk0 (atL dAX0_invert_1 35 rfl) ?_
            have hp0 : p ≠ 0 := by split at h2a <;> omega
            obtain rfl : e = 1 := by omega
            obtain ⟨hi1, hi2⟩ := iv_p hiv hp0
            refine v_callV hX (As := [.ref (w.1 3 b), .ref (w.1 3 16)]) (rest := []) (c_X5_setDifference (xl X) w s r hr (had r) b m hb (hM.fr hfr (by simp; omega) (by simp; omega)) 16 p (hD3 16 (by simp [mn, tp])) w16 hiv.2.2.2.1) lk_X0_150 hr (fun _ => rfl) rfl rfl rfl (by rw [hR]; exact ⟨Nat.le_of_ble_eq_true rfl, Nat.le_of_ble_eq_true rfl⟩) ⟨Nat.zero_le _, Nat.zero_le _⟩ rfl (Nat.le_of_ble_eq_true rfl) (atL dAX0_invert_1 36 rfl) (fun _ s3 h3 => ?_)
            obtain ⟨h3a, h3f⟩ := h3
            have had3 := had.one h3f h3a
            show V X _ w _ _ s3 []
            refine v_goto hX (tgt := 214) (atL dAX0_invert_1 37 rfl) (by decide) ?_
            refine v_iconst hX (atL dAX0_invert_1 42 rfl) ?_
            exact v_zret hX (by decide +kernel) (atL dAX0_invert_1 43 rfl) (hret _ _ ⟨Or.inl ⟨rfl, hg.symm, _, h3a, hi1, hi2⟩, had3, (hfr.mono (by simp)).tr' (h3f.mono (by simp))⟩)
      · refine v_iconst hX (atL dAX0_invert_1 24 rfl) ?_
        exact v_zret hX (by decide +kernel) (atL dAX0_invert_1 25 rfl) (hret _ _ ⟨Or.inr ⟨rfl, by rw [← hg, hy0, Nat.gcd_zero_right]; split at h1a <;> omega⟩, had, hfr.mono (by simp)⟩)
    | succ d ih =>
      intro k x y p q ng e s hk hng hx hy he hg hiv had w13 w14 w16 w17 hfr
      refine v_iload hX 0 rfl (atL dAX0_invert_0 22 rfl) ?_
      refine v_sipush hX (by decide +kernel) (atL dAX0_invert_0 23 rfl) ?_
      refine v_icmp_ge hX ⟨by omega, by omega⟩ ⟨by omega, by omega⟩ (tgt := 166) (atL dAX0_invert_0 24 rfl) (by decide) (fun h45 => absurd h45 (by omega)) (fun h45 => ?_)
      refine v_aload_n hX 2 rfl (atL dAX0_invert_0 25 rfl) ?_
      refine gf_X0_40 hX hk0 (atL dAX0_invert_0 26 rfl) ?_
      refine v_callV hX (As := []) (rest := []) (c_X5_isZero (xl X) w s 14 y (hD3 14 (by simp [mn, tp])) w14) lk_X0_124 (hD3 14 (by simp [mn, tp])) (fun _ => rfl) rfl rfl rfl (by rw [hR]; exact ⟨Nat.le_of_ble_eq_true rfl, Nat.le_of_ble_eq_true rfl⟩) ⟨Nat.zero_le _, Nat.zero_le _⟩ rfl (Nat.le_of_ble_eq_true rfl) (atL dAX0_invert_0 27 rfl) (fun rz sz hz => ?_)
      obtain ⟨hz1, hz2⟩ := hz
      rw [hz2]
      show V X _ w _ _ s [.int (iI (rz))]
      refine v_if_ne hX ⟨by split at hz1 <;> omega, by split at hz1 <;> omega⟩ (tgt := 166) (atL dAX0_invert_0 28 rfl) (by decide) (fun h55 => ?_) (fun h55 => ?_)
      · have hy0 : y = 0 := by split at hz1 <;> omega
        refine v_aload_n hX 2 rfl (atL dAX0_invert_1 19 rfl) ?_
        refine gf_X0_37 hX hk0 (atL dAX0_invert_1 20 rfl) ?_
        refine v_iconst hX (atL dAX0_invert_1 21 rfl) ?_
        refine v_callV hX (As := [.int (iI (1))]) (rest := []) (c_X5_isSmall (xl X) w s 13 x (hD3 13 (by simp [mn, tp])) w13 1 (by omega) (by omega)) lk_X0_146 (hD3 13 (by simp [mn, tp])) (fun _ => rfl) rfl rfl rfl (by rw [hR]; exact ⟨Nat.le_of_ble_eq_true rfl, Nat.le_of_ble_eq_true rfl⟩) ⟨Nat.zero_le _, Nat.zero_le _⟩ rfl (Nat.le_of_ble_eq_true rfl) (atL dAX0_invert_1 22 rfl) (fun r1 s1 h1 => ?_)
        obtain ⟨h1a, h1b⟩ := h1
        rw [h1b]
        show V X _ w _ _ s [.int (iI (r1))]
        refine v_if_ne hX ⟨by split at h1a <;> omega, by split at h1a <;> omega⟩ (tgt := 179) (atL dAX0_invert_1 23 rfl) (by decide) (fun h174 => ?_) (fun h174 => ?_)
        · obtain rfl : x = 1 := by split at h1a <;> omega
          subst hy0
          rw [Nat.gcd_zero_right] at hg
          refine v_iload hX 1 rfl (atL dAX0_invert_1 26 rfl) ?_
          refine v_if_eq hX ⟨by omega, by omega⟩ (tgt := 206) (atL dAX0_invert_1 27 rfl) (by decide) (fun h181 => ?_) (fun h181 => ?_)
          · refine v_aload_n hX 5 rfl (atL dAX0_invert_1 38 rfl) ?_
            refine v_aload_n hX 2 rfl (atL dAX0_invert_1 39 rfl) ?_
            refine gf_X0_46 hX hk0 (atL dAX0_invert_1 40 rfl) ?_
            have hi : p < m ∧ v * p % m = 1 % m := by
              obtain rfl : e = -1 := by omega
              exact ⟨iv_m hm0 hiv, iv_n hiv⟩
            refine v_callV hX (As := [.ref (w.1 3 16)]) (rest := []) (c_X5_set (xl X) w s r hr (had r) 16 p (hD3 16 (by simp [mn, tp])) w16 (by omega)) lk_X0_121 hr (fun _ => rfl) rfl rfl rfl (by rw [hR]; exact ⟨Nat.le_of_ble_eq_true rfl, Nat.le_of_ble_eq_true rfl⟩) ⟨Nat.zero_le _, Nat.zero_le _⟩ rfl (Nat.le_of_ble_eq_true rfl) (atL dAX0_invert_1 41 rfl) (fun _ s3 h3 => ?_)
            obtain ⟨h3a, h3f⟩ := h3
            have had3 := had.one h3f h3a
            obtain ⟨hi1, hi2⟩ := hi
            show V X _ w _ _ s3 []
            refine v_iconst hX (atL dAX0_invert_1 42 rfl) ?_
            exact v_zret hX (by decide +kernel) (atL dAX0_invert_1 43 rfl) (hret _ _ ⟨Or.inl ⟨rfl, hg.symm, _, h3a, hi1, hi2⟩, had3, (hfr.mono (by simp)).tr' (h3f.mono (by simp))⟩)
          · refine v_aload_n hX 2 rfl (atL dAX0_invert_1 28 rfl) ?_
            refine gf_X0_46 hX hk0 (atL dAX0_invert_1 29 rfl) ?_
            refine v_callV hX (As := []) (rest := []) (c_X5_isZero (xl X) w s 16 p (hD3 16 (by simp [mn, tp])) w16) lk_X0_124 (hD3 16 (by simp [mn, tp])) (fun _ => rfl) rfl rfl rfl (by rw [hR]; exact ⟨Nat.le_of_ble_eq_true rfl, Nat.le_of_ble_eq_true rfl⟩) ⟨Nat.zero_le _, Nat.zero_le _⟩ rfl (Nat.le_of_ble_eq_true rfl) (atL dAX0_invert_1 30 rfl) (fun r2 s2 h2 => ?_)
            obtain ⟨h2a, h2b⟩ := h2
            rw [h2b]
            show V X _ w _ _ s [.int (iI (r2))]
            refine v_if_ne hX ⟨by split at h2a <;> omega, by split at h2a <;> omega⟩ (tgt := 206) (atL dAX0_invert_1 31 rfl) (by decide) (fun h191 => ?_) (fun h191 => ?_)
            · refine v_aload_n hX 5 rfl (atL dAX0_invert_1 38 rfl) ?_
              refine v_aload_n hX 2 rfl (atL dAX0_invert_1 39 rfl) ?_
              refine gf_X0_46 hX hk0 (atL dAX0_invert_1 40 rfl) ?_
              have hi : p < m ∧ v * p % m = 1 % m := by
                have hp0 : p = 0 := by split at h2a <;> omega
                subst hp0
                obtain rfl : e = 1 := by omega
                have hm1 := iv_z hm0 hiv
                subst hm1
                exact ⟨by omega, by omega⟩
              refine v_callV hX (As := [.ref (w.1 3 16)]) (rest := []) (c_X5_set (xl X) w s r hr (had r) 16 p (hD3 16 (by simp [mn, tp])) w16 (by omega)) lk_X0_121 hr (fun _ => rfl) rfl rfl rfl (by rw [hR]; exact ⟨Nat.le_of_ble_eq_true rfl, Nat.le_of_ble_eq_true rfl⟩) ⟨Nat.zero_le _, Nat.zero_le _⟩ rfl (Nat.le_of_ble_eq_true rfl) (atL dAX0_invert_1 41 rfl) (fun _ s3 h3 => ?_)
              obtain ⟨h3a, h3f⟩ := h3
              have had3 := had.one h3f h3a
              obtain ⟨hi1, hi2⟩ := hi
              show V X _ w _ _ s3 []
              refine v_iconst hX (atL dAX0_invert_1 42 rfl) ?_
              exact v_zret hX (by decide +kernel) (atL dAX0_invert_1 43 rfl) (hret _ _ ⟨Or.inl ⟨rfl, hg.symm, _, h3a, hi1, hi2⟩, had3, (hfr.mono (by simp)).tr' (h3f.mono (by simp))⟩)
            · refine v_aload_n hX 5 rfl (atL dAX0_invert_1 32 rfl) ?_
              refine v_aload_n hX 4 rfl (atL dAX0_invert_1 33 rfl) ?_
              refine v_aload_n hX 2 rfl (atL dAX0_invert_1 34 rfl) ?_
              refine gf_X0_46 hX hk0 (atL dAX0_invert_1 35 rfl) ?_
              have hp0 : p ≠ 0 := by split at h2a <;> omega
              obtain rfl : e = 1 := by omega
              obtain ⟨hi1, hi2⟩ := iv_p hiv hp0
              refine v_callV hX (As := [.ref (w.1 3 b), .ref (w.1 3 16)]) (rest := []) (c_X5_setDifference (xl X) w s r hr (had r) b m hb (hM.fr hfr (by simp; omega) (by simp; omega)) 16 p (hD3 16 (by simp [mn, tp])) w16 hiv.2.2.2.1) lk_X0_150 hr (fun _ => rfl) rfl rfl rfl (by rw [hR]; exact ⟨Nat.le_of_ble_eq_true rfl, Nat.le_of_ble_eq_true rfl⟩) ⟨Nat.zero_le _, Nat.zero_le _⟩ rfl (Nat.le_of_ble_eq_true rfl) (atL dAX0_invert_1 36 rfl) (fun _ s3 h3 => ?_)
              obtain ⟨h3a, h3f⟩ := h3
              have had3 := had.one h3f h3a
              show V X _ w _ _ s3 []
              refine v_goto hX (tgt := 214) (atL dAX0_invert_1 37 rfl) (by decide) ?_
              refine v_iconst hX (atL dAX0_invert_1 42 rfl) ?_
              exact v_zret hX (by decide +kernel) (atL dAX0_invert_1 43 rfl) (hret _ _ ⟨Or.inl ⟨rfl, hg.symm, _, h3a, hi1, hi2⟩, had3, (hfr.mono (by simp)).tr' (h3f.mono (by simp))⟩)
        · refine v_iconst hX (atL dAX0_invert_1 24 rfl) ?_
          exact v_zret hX (by decide +kernel) (atL dAX0_invert_1 25 rfl) (hret _ _ ⟨Or.inr ⟨rfl, by rw [← hg, hy0, Nat.gcd_zero_right]; split at h1a <;> omega⟩, had, hfr.mono (by simp)⟩)
      · have hyp : 0 < y := by split at hz1 <;> omega
        obtain ⟨hiv2, hq1, hq2, hq3⟩ := iv_s hyp hiv
        refine v_aload_n hX 2 rfl (atL dAX0_invert_0 29 rfl) ?_
        refine v_aload_n hX 2 rfl (atL dAX0_invert_0 30 rfl) ?_
        refine gf_X0_37 hX hk0 (atL dAX0_invert_0 31 rfl) ?_
        refine v_aload_n hX 2 rfl (atL dAX0_invert_0 32 rfl) ?_
        refine gf_X0_40 hX hk0 (atL dAX0_invert_0 33 rfl) ?_
        refine v_aload_n hX 2 rfl (atL dAX0_invert_0 34 rfl) ?_
        refine gf_X0_43 hX hk0 (atL dAX0_invert_0 35 rfl) ?_
        refine v_callV hX (As := [.ref (w.1 3 13), .ref (w.1 3 14), .ref (w.1 3 15)]) (rest := []) (c_X0_divide (xl X) w s hk0 13 x (hD3 13 (by simp [mn, tp])) w13 (p2048 hx) (by decide) 14 y (hD3 14 (by simp [mn, tp])) w14 (by omega) (p2048 hy) 15 (hD3 15 (by simp [mn, tp])) (had _) (by decide) (by decide) (by decide) (had _) (had _) (had _)) lk_X0_128 hk0 (fun _ => rfl) rfl rfl rfl (by rw [hR]; exact ⟨Nat.le_of_ble_eq_true rfl, Nat.le_of_ble_eq_true rfl⟩) ⟨Nat.zero_le _, Nat.zero_le _⟩ rfl (Nat.le_of_ble_eq_true rfl) (atL dAX0_invert_0 36 rfl) (fun _ s1 h1 => ?_)
        have ad1 := had.div h1
        obtain ⟨h1r, h1q, -, -, h1f⟩ := h1
        have a13 := w13.fr h1f (by simp) (by simp)
        have a14 := w14.fr h1f (by simp) (by simp)
        have a16 := w16.fr h1f (by simp) (by simp)
        have a17 := w17.fr h1f (by simp) (by simp)
        show V X _ w _ _ s1 []
        refine v_aload_n hX 2 rfl (atL dAX0_invert_0 37 rfl) ?_
        refine gf_X0_37 hX hk0 (atL dAX0_invert_0 38 rfl) ?_
        refine v_aload_n hX 2 rfl (atL dAX0_invert_0 39 rfl) ?_
        refine gf_X0_40 hX hk0 (atL dAX0_invert_0 40 rfl) ?_
        refine v_callV hX (As := [.ref (w.1 3 14)]) (rest := []) (c_X5_set (xl X) w s1 13 (hD3 13 (by simp [mn, tp])) (ad1 _) 14 y (hD3 14 (by simp [mn, tp])) a14 (by decide)) lk_X0_121 (hD3 13 (by simp [mn, tp])) (fun _ => rfl) rfl rfl rfl (by rw [hR]; exact ⟨Nat.le_of_ble_eq_true rfl, Nat.le_of_ble_eq_true rfl⟩) ⟨Nat.zero_le _, Nat.zero_le _⟩ rfl (Nat.le_of_ble_eq_true rfl) (atL dAX0_invert_0 41 rfl) (fun _ s2 h2 => ?_)
        obtain ⟨h2a, h2f⟩ := h2
        have ad2 := ad1.one h2f h2a
        show V X _ w _ _ s2 []
        refine v_aload_n hX 2 rfl (atL dAX0_invert_0 42 rfl) ?_
        refine gf_X0_40 hX hk0 (atL dAX0_invert_0 43 rfl) ?_
        refine v_aload_n hX 2 rfl (atL dAX0_invert_0 44 rfl) ?_
        refine gf_X0_43 hX hk0 (atL dAX0_invert_0 45 rfl) ?_
        refine v_callV hX (As := [.ref (w.1 3 15)]) (rest := []) (c_X5_set (xl X) w s2 14 (hD3 14 (by simp [mn, tp])) (ad2 _) 15 (x % y) (hD3 15 (by simp [mn, tp])) (h1r.fr h2f (by simp) (by simp)) (by decide)) lk_X0_121 (hD3 14 (by simp [mn, tp])) (fun _ => rfl) rfl rfl rfl (by rw [hR]; exact ⟨Nat.le_of_ble_eq_true rfl, Nat.le_of_ble_eq_true rfl⟩) ⟨Nat.zero_le _, Nat.zero_le _⟩ rfl (Nat.le_of_ble_eq_true rfl) (atL dAX0_invert_0 46 rfl) (fun _ s3 h3 => ?_)
        obtain ⟨h3a, h3f⟩ := h3
        have ad3 := ad2.one h3f h3a
        show V X _ w _ _ s3 []
        refine v_aload_n hX 2 rfl (atL dAX0_invert_0 47 rfl) ?_
        refine gf_X0_52 hX hk0 (atL dAX0_invert_0 48 rfl) ?_
        refine v_aload_n hX 2 rfl (atL dAX0_invert_0 49 rfl) ?_
        refine gf_X0_12 hX hk0 (atL dAX0_invert_0 50 rfl) ?_
        refine v_aload_n hX 2 rfl (atL dAX0_invert_0 51 rfl) ?_
        refine gf_X0_49 hX hk0 (atL dAX0_invert_0 52 rfl) ?_
        refine v_callV hX (As := [.ref (w.1 3 7), .ref (w.1 3 17)]) (rest := []) (c_X5_setProduct (xl X) w s3 18 (hD3 18 (by simp [mn, tp])) (ad3 _) 7 (x / y) (hD3 7 (by simp [mn, tp])) ((h1q.fr h2f (by simp) (by simp)).fr h3f (by simp) (by simp)) 17 q (hD3 17 (by simp [mn, tp])) ((a17.fr h2f (by simp) (by simp)).fr h3f (by simp) (by simp)) (by decide) (by decide) ((blen_fit (Nat.lt_of_le_of_lt hq2 hm2)).imp_right (fun h => by omega))) lk_X0_71 (hD3 18 (by simp [mn, tp])) (fun _ => rfl) rfl rfl rfl (by rw [hR]; exact ⟨Nat.le_of_ble_eq_true rfl, Nat.le_of_ble_eq_true rfl⟩) ⟨Nat.zero_le _, Nat.zero_le _⟩ rfl (Nat.le_of_ble_eq_true rfl) (atL dAX0_invert_0 53 rfl) (fun _ s4 h4 => ?_)
        obtain ⟨h4a, h4f⟩ := h4
        have ad4 := ad3.one h4f h4a
        have b16 := ((a16.fr h2f (by simp) (by simp)).fr h3f (by simp) (by simp)).fr h4f (by simp) (by simp)
        have b17 := ((a17.fr h2f (by simp) (by simp)).fr h3f (by simp) (by simp)).fr h4f (by simp) (by simp)
        show V X _ w _ _ s4 []
        refine v_aload_n hX 2 rfl (atL dAX0_invert_0 54 rfl) ?_
        refine gf_X0_52 hX hk0 (atL dAX0_invert_0 55 rfl) ?_
        refine v_aload_n hX 2 rfl (atL dAX0_invert_0 56 rfl) ?_
        refine gf_X0_52 hX hk0 (atL dAX0_invert_0 57 rfl) ?_
        refine v_aload_n hX 2 rfl (atL dAX0_invert_0 58 rfl) ?_
        refine gf_X0_46 hX hk0 (atL dAX0_invert_0 59 rfl) ?_
        refine v_callV hX (As := [.ref (w.1 3 18), .ref (w.1 3 16)]) (rest := []) (c_X5_setSum (xl X) w s4 18 (hD3 18 (by simp [mn, tp])) (ad4 _) 18 (x / y * q) (hD3 18 (by simp [mn, tp])) h4a 16 p (hD3 16 (by simp [mn, tp])) b16 (lt79 (Nat.lt_of_le_of_lt hq2 hm2)) (lt79 (Nat.lt_of_le_of_lt hiv.2.2.2.1 hm2))) lk_X0_143 (hD3 18 (by simp [mn, tp])) (fun _ => rfl) rfl rfl rfl (by rw [hR]; exact ⟨Nat.le_of_ble_eq_true rfl, Nat.le_of_ble_eq_true rfl⟩) ⟨Nat.zero_le _, Nat.zero_le _⟩ rfl (Nat.le_of_ble_eq_true rfl) (atL dAX0_invert_1 0 rfl) (fun _ s5 h5 => ?_)
        obtain ⟨h5a, h5f⟩ := h5
        have ad5 := ad4.one h5f h5a
        show V X _ w _ _ s5 []
        refine v_aload_n hX 2 rfl (atL dAX0_invert_1 1 rfl) ?_
        refine gf_X0_46 hX hk0 (atL dAX0_invert_1 2 rfl) ?_
        refine v_aload_n hX 2 rfl (atL dAX0_invert_1 3 rfl) ?_
        refine gf_X0_49 hX hk0 (atL dAX0_invert_1 4 rfl) ?_
        refine v_callV hX (As := [.ref (w.1 3 17)]) (rest := []) (c_X5_set (xl X) w s5 16 (hD3 16 (by simp [mn, tp])) (ad5 _) 17 q (hD3 17 (by simp [mn, tp])) (b17.fr h5f (by simp) (by simp)) (by decide)) lk_X0_121 (hD3 16 (by simp [mn, tp])) (fun _ => rfl) rfl rfl rfl (by rw [hR]; exact ⟨Nat.le_of_ble_eq_true rfl, Nat.le_of_ble_eq_true rfl⟩) ⟨Nat.zero_le _, Nat.zero_le _⟩ rfl (Nat.le_of_ble_eq_true rfl) (atL dAX0_invert_1 5 rfl) (fun _ s6 h6 => ?_)
        obtain ⟨h6a, h6f⟩ := h6
        have ad6 := ad5.one h6f h6a
        show V X _ w _ _ s6 []
        refine v_aload_n hX 2 rfl (atL dAX0_invert_1 6 rfl) ?_
        refine gf_X0_49 hX hk0 (atL dAX0_invert_1 7 rfl) ?_
        refine v_aload_n hX 2 rfl (atL dAX0_invert_1 8 rfl) ?_
        refine gf_X0_52 hX hk0 (atL dAX0_invert_1 9 rfl) ?_
        refine v_callV hX (As := [.ref (w.1 3 18)]) (rest := []) (c_X5_set (xl X) w s6 17 (hD3 17 (by simp [mn, tp])) (ad6 _) 18 (x / y * q + p) (hD3 18 (by simp [mn, tp])) (h5a.fr h6f (by simp) (by simp)) (by decide)) lk_X0_121 (hD3 17 (by simp [mn, tp])) (fun _ => rfl) rfl rfl rfl (by rw [hR]; exact ⟨Nat.le_of_ble_eq_true rfl, Nat.le_of_ble_eq_true rfl⟩) ⟨Nat.zero_le _, Nat.zero_le _⟩ rfl (Nat.le_of_ble_eq_true rfl) (atL dAX0_invert_1 10 rfl) (fun _ s7 h7 => ?_)
        obtain ⟨h7a, h7f⟩ := h7
        have ad7 := ad6.one h7f h7a
        have f7 : Fr [(8, 0), (2, 7), (3, 7), (2, 8), (3, 8), (2, 9), (3, 9), (2, 13), (3, 13), (2, 14), (3, 14), (2, 15), (3, 15), (2, 16), (3, 16), (2, 17), (3, 17), (2, 18), (3, 18)] σ s7 := ((((((hfr.tr' (h1f.mono (by simp))).tr' (h2f.mono (by simp))).tr' (h3f.mono (by simp))).tr' (h4f.mono (by simp))).tr' (h5f.mono (by simp))).tr' (h6f.mono (by simp))).tr' (h7f.mono (by simp))
        have c13 := ((((h2a.fr h3f (by simp) (by simp)).fr h4f (by simp) (by simp)).fr h5f (by simp) (by simp)).fr h6f (by simp) (by simp)).fr h7f (by simp) (by simp)
        have c14 := (((h3a.fr h4f (by simp) (by simp)).fr h5f (by simp) (by simp)).fr h6f (by simp) (by simp)).fr h7f (by simp) (by simp)
        have hr1 := Nat.mod_lt x hyp
        show V X _ w _ _ s7 []
        refine v_iload hX 1 rfl (atL dAX0_invert_1 11 rfl) ?_
        refine v_if_ne hX ⟨by omega, by omega⟩ (tgt := 157) (atL dAX0_invert_1 12 rfl) (by decide) (fun h150 => ?_) (fun h150 => ?_)
        · refine v_iconst hX (atL dAX0_invert_1 15 rfl) ?_
          refine v_istore hX (lv' := [(4, .int (iI (0))), (5, .int (iI ((k : Int)))), (0, .ref (w.1 7 0)), (1, .ref (w.1 3 o)), (2, .ref (w.1 3 b)), (3, .ref (w.1 3 r))]) (Nat.le_of_ble_eq_true rfl) rfl (atL dAX0_invert_1 16 rfl) ?_
          refine v_iinc hX (lv' := [(5, .int (iI (((k : Int)) + 1))), (4, .int (iI (0))), (0, .ref (w.1 7 0)), (1, .ref (w.1 3 o)), (2, .ref (w.1 3 b)), (3, .ref (w.1 3 r))]) 1 rfl (iI_add _ _) (Nat.le_of_ble_eq_true rfl) rfl (atL dAX0_invert_1 17 rfl) ?_
          refine v_goto hX (tgt := 40) (atL dAX0_invert_1 18 rfl) (by decide) ?_
          refine v_sub (lv' := [(5, .int (iI (((k : Int)) + 1))), (4, .int (iI (0))), (0, .ref (w.1 7 0)), (1, .ref (w.1 3 o)), (2, .ref (w.1 3 b)), (3, .ref (w.1 3 r))]) [0, 1, 2, 3, 4, 5] rfl ?_
          rw [show (k : Int) + 1 = ((k + 1 : Nat) : Int) by omega]
          exact ih (k + 1) y (x % y) q (x / y * q + p) 0 (-e) s7 (by omega) (by omega) hy (by omega) (eu_s hyp (by omega) he) (by rw [← hg, Nat.gcd_comm x y, Nat.gcd_rec y x, Nat.gcd_comm]) hiv2 ad7 c13 c14 (h6a.fr h7f (by simp) (by simp)) h7a f7
        · refine v_iconst hX (atL dAX0_invert_1 13 rfl) ?_
          refine v_goto hX (tgt := 158) (atL dAX0_invert_1 14 rfl) (by decide) ?_
          refine v_istore hX (lv' := [(4, .int (iI (1))), (5, .int (iI ((k : Int)))), (0, .ref (w.1 7 0)), (1, .ref (w.1 3 o)), (2, .ref (w.1 3 b)), (3, .ref (w.1 3 r))]) (Nat.le_of_ble_eq_true rfl) rfl (atL dAX0_invert_1 16 rfl) ?_
          refine v_iinc hX (lv' := [(5, .int (iI (((k : Int)) + 1))), (4, .int (iI (1))), (0, .ref (w.1 7 0)), (1, .ref (w.1 3 o)), (2, .ref (w.1 3 b)), (3, .ref (w.1 3 r))]) 1 rfl (iI_add _ _) (Nat.le_of_ble_eq_true rfl) rfl (atL dAX0_invert_1 17 rfl) ?_
          refine v_goto hX (tgt := 40) (atL dAX0_invert_1 18 rfl) (by decide) ?_
          refine v_sub (lv' := [(5, .int (iI (((k : Int)) + 1))), (4, .int (iI (1))), (0, .ref (w.1 7 0)), (1, .ref (w.1 3 o)), (2, .ref (w.1 3 b)), (3, .ref (w.1 3 r))]) [0, 1, 2, 3, 4, 5] rfl ?_
          rw [show (k : Int) + 1 = ((k + 1 : Nat) : Int) by omega]
          exact ih (k + 1) y (x % y) q (x / y * q + p) 1 (-e) s7 (by omega) (by omega) hy (by omega) (eu_s hyp (by omega) he) (by rw [← hg, Nat.gcd_comm x y, Nat.gcd_rec y x, Nat.gcd_comm]) hiv2 ad7 c13 c14 (h6a.fr h7f (by simp) (by simp)) h7a f7
  refine v_aload_n hX 0 rfl (atL dAX0_invert_0 0 rfl) ?_
  refine gf_X0_37 hX hk0 (atL dAX0_invert_0 1 rfl) ?_
  refine v_aload_n hX 2 rfl (atL dAX0_invert_0 2 rfl) ?_
  refine v_callV hX (As := [.ref (w.1 3 b)]) (rest := []) (c_X5_set (xl X) w σ 13 (hD3 13 (by simp [mn, tp])) (hAD _) b m hb hM (by omega)) lk_X0_121 (hD3 13 (by simp [mn, tp])) (fun _ => rfl) rfl rfl rfl (by rw [hR]; exact ⟨Nat.le_of_ble_eq_true rfl, Nat.le_of_ble_eq_true rfl⟩) ⟨Nat.zero_le _, Nat.zero_le _⟩ rfl (Nat.le_of_ble_eq_true rfl) (atL dAX0_invert_0 3 rfl) (fun _ s1 h1 => ?_)
  obtain ⟨h1a, h1f⟩ := h1
  have ad1 := hAD.one h1f h1a
  show V X _ w _ _ s1 []
  refine v_aload_n hX 0 rfl (atL dAX0_invert_0 4 rfl) ?_
  refine v_aload_n hX 1 rfl (atL dAX0_invert_0 5 rfl) ?_
  refine v_aload_n hX 2 rfl (atL dAX0_invert_0 6 rfl) ?_
  refine v_aload_n hX 0 rfl (atL dAX0_invert_0 7 rfl) ?_
  refine gf_X0_40 hX hk0 (atL dAX0_invert_0 8 rfl) ?_
  refine v_callV hX (As := [.ref (w.1 3 o), .ref (w.1 3 b), .ref (w.1 3 14)]) (rest := []) (c_X0_divide (xl X) w s1 hk0 o v ho (hA.fr h1f (by simp; omega) (by simp; omega)) (p2048 hv2) (by omega) b m hb (hM.fr h1f (by simp; omega) (by simp; omega)) hm0 (p2048 hm2) 14 (hD3 14 (by simp [mn, tp])) (ad1 _) (by decide) (by decide) (by decide) (ad1 _) (ad1 _) (ad1 _)) lk_X0_128 hk0 (fun _ => rfl) rfl rfl rfl (by rw [hR]; exact ⟨Nat.le_of_ble_eq_true rfl, Nat.le_of_ble_eq_true rfl⟩) ⟨Nat.zero_le _, Nat.zero_le _⟩ rfl (Nat.le_of_ble_eq_true rfl) (atL dAX0_invert_0 9 rfl) (fun _ s2 h2 => ?_)
  have ad2 := ad1.div h2
  obtain ⟨h2r, h2q, -, -, h2f⟩ := h2
  have a13 := h1a.fr h2f (by simp) (by simp)
  show V X _ w _ _ s2 []
  refine v_aload_n hX 0 rfl (atL dAX0_invert_0 10 rfl) ?_
  refine gf_X0_46 hX hk0 (atL dAX0_invert_0 11 rfl) ?_
  refine v_lconst hX (atL dAX0_invert_0 12 rfl) ?_
  show V X _ w _ _ _ (.long (jI (0)) :: _)
  refine v_callV hX (As := [.long (jI (0))]) (rest := []) (c_X5_setSmall (xl X) w s2 16 (hD3 16 (by simp [mn, tp])) (ad2 _) 0 (by omega)) lk_X0_132 (hD3 16 (by simp [mn, tp])) (fun _ => rfl) rfl rfl rfl (by rw [hR]; exact ⟨Nat.le_of_ble_eq_true rfl, Nat.le_of_ble_eq_true rfl⟩) ⟨Nat.zero_le _, Nat.zero_le _⟩ rfl (Nat.le_of_ble_eq_true rfl) (atL dAX0_invert_0 13 rfl) (fun _ s3 h3 => ?_)
  obtain ⟨h3a, h3f⟩ := h3
  have ad3 := ad2.one h3f h3a
  show V X _ w _ _ s3 []
  refine v_aload_n hX 0 rfl (atL dAX0_invert_0 14 rfl) ?_
  refine gf_X0_49 hX hk0 (atL dAX0_invert_0 15 rfl) ?_
  refine v_lconst hX (atL dAX0_invert_0 16 rfl) ?_
  show V X _ w _ _ _ (.long (jI (1)) :: _)
  refine v_callV hX (As := [.long (jI (1))]) (rest := []) (c_X5_setSmall (xl X) w s3 17 (hD3 17 (by simp [mn, tp])) (ad3 _) 1 (by omega)) lk_X0_132 (hD3 17 (by simp [mn, tp])) (fun _ => rfl) rfl rfl rfl (by rw [hR]; exact ⟨Nat.le_of_ble_eq_true rfl, Nat.le_of_ble_eq_true rfl⟩) ⟨Nat.zero_le _, Nat.zero_le _⟩ rfl (Nat.le_of_ble_eq_true rfl) (atL dAX0_invert_0 17 rfl) (fun _ s4 h4 => ?_)
  obtain ⟨h4a, h4f⟩ := h4
  have ad4 := ad3.one h4f h4a
  show V X _ w _ _ s4 []
  refine v_iconst hX (atL dAX0_invert_0 18 rfl) ?_
  refine v_istore hX (lv' := [(4, .int (iI (1))), (0, .ref (w.1 7 0)), (1, .ref (w.1 3 o)), (2, .ref (w.1 3 b)), (3, .ref (w.1 3 r))]) (Nat.le_of_ble_eq_true rfl) rfl (atL dAX0_invert_0 19 rfl) ?_
  refine v_iconst hX (atL dAX0_invert_0 20 rfl) ?_
  refine v_istore hX (lv' := [(5, .int (iI (0))), (4, .int (iI (1))), (0, .ref (w.1 7 0)), (1, .ref (w.1 3 o)), (2, .ref (w.1 3 b)), (3, .ref (w.1 3 r))]) (Nat.le_of_ble_eq_true rfl) rfl (atL dAX0_invert_0 21 rfl) ?_
  refine v_sub (lv' := [(5, .int (iI (0))), (4, .int (iI (1))), (0, .ref (w.1 7 0)), (1, .ref (w.1 3 o)), (2, .ref (w.1 3 b)), (3, .ref (w.1 3 r))]) [0, 1, 2, 3, 4, 5] rfl ?_
  have hr1 := Nat.mod_lt v (show 0 < m by omega)
  exact loop 4096 0 m (v % m) 0 1 1 1 s4 (by omega) (Or.inl ⟨rfl, rfl⟩) hm2 (by omega) (eu_0 (by omega)) (by rw [Nat.gcd_comm m, ← Nat.gcd_rec, Nat.gcd_comm]) (iv_0 hm0) ad4 ((a13.fr h3f (by simp) (by simp)).fr h4f (by simp) (by simp)) ((h2r.fr h3f (by simp) (by simp)).fr h4f (by simp) (by simp)) (h3a.fr h4f (by simp) (by simp)) h4a ((((h1f.mono (by simp)).tr' (h2f.mono (by simp))).tr' (h3f.mono (by simp))).tr' (h4f.mono (by simp)))
