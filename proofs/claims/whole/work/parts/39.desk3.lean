set_option maxHeartbeats 1000000 in
set_option maxRecDepth 100000 in
theorem c_X0_reduce (l : Launch) (w : Wl) (σ : St) (hk0 : w.2 7 0) (o N : Nat) (ho : w.2 3 o) (hN : WN σ o N) (hN7 : N < 268435456 ^ 79) (ho8 : o ≠ 8) (ho7 : o ≠ 7) (hd70 : WDg σ 7) (n δ : Nat) (hn : σ 2 8 0 = (n : Int)) (hn8 : n ≤ 80) (hn1 : 1 ≤ n) (hdd : WDg σ 8) (hδ : vB 268435456 (fW σ 8) n = δ) (htop : 134217728 ≤ σ 3 8 (n - 1)) : Cn l yX0_reduce cX0_reduce 6 none 1 39 wN [.ref (w.1 7 0), .ref (w.1 3 o)] w σ (fun _ σ' => WN σ' o (N % δ) ∧ WN σ' 7 (N / δ) ∧ Fr [(2, 7), (3, 7), (2, o), (3, o)] σ σ') := by
  refine Cn.of (own := RX0) (lv := [(0, .ref (w.1 7 0)), (1, .ref (w.1 3 o))]) (by decide +kernel) rfl (Nat.le_of_ble_eq_true rfl) rfl (fun X hX hxl hR hcl hret => ?_)
  subst hxl
  have h38 : w.2 3 8 := hcl 7 0 hk0 (3, 8) (by simp [mn, tp])
  have h48 : w.2 4 8 := hcl 3 8 h38 (4, 8) (by simp [mn, tp])
  have h37 : w.2 3 7 := hcl 7 0 hk0 (3, 7) (by simp [mn, tp])
  have h47 : w.2 4 7 := hcl 3 7 h37 (4, 7) (by simp [mn, tp])
  have ho2 : w.2 4 o := hcl 3 o ho (4, o) (by simp [mn, tp])
  have hdl := used_lt_pow hdd hδ (Nat.le_refl n)
  have hge : 268435456 ^ (n - 1) ≤ δ := WN.ge hdd (fun _ => by omega) hδ (by omega)
  have hpp : 0 < 268435456 ^ (n - 1) := Nat.pow_pos (by omega)
  have hN0 := hN
  obtain ⟨a, hna, ha8, hdo0, hta0, hNv⟩ := hN
  have ha7 := used_le hdo0 hta0 hNv hN7
  have loop : 1 ≤ n → n ≤ a → ∀ (kk : Nat) (s : St), kk ≤ a - n + 1 → WDg s o → WDg s 7 → s 2 o 0 = (a : Int) → s 2 7 0 = 0 → Fr [(2, 7), (3, 7), (2, o), (3, o)] σ s → (∀ j, j < kk → s 3 o j = σ 3 o j) → N / 268435456 ^ kk = vB 268435456 (win s 7 kk) (a - n + 1 - kk) * δ + vB 268435456 (win s o kk) (a + 1 - kk) → vB 268435456 (win s o kk) (a + 1 - kk) < δ → ∀ lv0, lv_pick lv0 [0, 1, 2, 3] = [(3, .int (iI ((kk : Int) - 1))), (2, .int (iI ((a : Int) - (n : Int)))), (0, .ref (w.1 7 0)), (1, .ref (w.1 3 o))] → V X (0, 0) w 57 lv0 s [] := by
    intro hn1 hna kk
    induction kk with
    | zero =>
      intro s hkk hds hd7 hso hs7 hfr hag hval hlt lv0 hlv
      refine v_sub _ hlv ?_
      rw [Nat.pow_zero, Nat.div_one, Nat.sub_zero, Nat.sub_zero, win_0, win_0] at hval
      rw [Nat.sub_zero, win_0] at hlt
      have hq : vB 268435456 (fW s 7) (a - n + 1) = N / δ := (dm_of hval hlt).1.symm
      have hr0 : vB 268435456 (fW s o) (a + 1) = N % δ := (dm_of hval hlt).2.symm
      have hr : vB 268435456 (fW s o) n = N % δ := by rw [← hr0]; exact (vB_cut (fun j _ => dg_lt hds j) (by omega) (Nat.lt_trans hlt hdl)).1
      have hn2 : s 2 8 0 = (n : Int) := by rw [hfr 2 8 (by simp; omega)]; exact hn
      refine v_iload_n hX 0 rfl (atL dAX0_reduce_0 30 rfl) ?_
      refine v_if_lt hX ⟨by omega, by omega⟩ (tgt := 116) (atL dAX0_reduce_0 31 rfl) (by decide) (fun h58 => ?_) (fun h58 => absurd h58 (by omega))
      refine v_aload_n hX 2 rfl (atL dAX0_reduce_1 3 rfl) ?_
      refine gf_X0_12 hX hk0 (atL dAX0_reduce_1 4 rfl) ?_
      refine v_iload_n hX 1 rfl (atL dAX0_reduce_1 5 rfl) ?_
      refine v_iconst hX (atL dAX0_reduce_1 6 rfl) ?_
      refine v_iadd hX (iI_add _ _) (atL dAX0_reduce_1 7 rfl) ?_
      rw [show (a : Int) - (n : Int) + 1 = ((a - n + 1 : Nat) : Int) by omega]
      refine v_callV hX (As := [.int (iI (((a - n + 1 : Nat) : Int)))]) (rest := []) (c_X5_trim (xl X) w s 7 (a - n + 1) h37 hd7 (by omega)) lk_X0_115 h37 (fun _ => rfl) rfl rfl rfl (by rw [hR]; exact ⟨Nat.le_of_ble_eq_true rfl, Nat.le_of_ble_eq_true rfl⟩) ⟨Nat.zero_le _, Nat.zero_le _⟩ rfl (Nat.le_of_ble_eq_true rfl) (atL dAX0_reduce_1 8 rfl) (fun _ s1 h1 => ?_)
      obtain ⟨t1, h1a, rfl, h1b, h1c⟩ := h1
      show V X _ w _ _ (su s 2 7 0 ((t1 : Int))) []
      refine v_aload_n hX 3 rfl (atL dAX0_reduce_1 9 rfl) ?_
      refine v_aload_n hX 2 rfl (atL dAX0_reduce_1 10 rfl) ?_
      refine gf_X0_18 hX hk0 (atL dAX0_reduce_1 11 rfl) ?_
      refine gf_X0_89 hX (v := (n : Int)) ((su_i (by decide)).trans (hn2)) h38 (atL dAX0_reduce_1 12 rfl) ?_
      refine v_callV hX (As := [.int (iI ((n : Int)))]) (rest := []) (c_X5_trim (xl X) w (su s 2 7 0 ((t1 : Int))) o n ho (by intro j; rw [su_rc (by decide)]; exact hds j) (by omega)) lk_X0_115 ho (fun _ => rfl) rfl rfl rfl (by rw [hR]; exact ⟨Nat.le_of_ble_eq_true rfl, Nat.le_of_ble_eq_true rfl⟩) ⟨Nat.zero_le _, Nat.zero_le _⟩ rfl (Nat.le_of_ble_eq_true rfl) (atL dAX0_reduce_1 13 rfl) (fun _ s2 h2 => ?_)
      obtain ⟨t2, h2a, rfl, h2b, h2c⟩ := h2
      show V X _ w _ _ (su (su s 2 7 0 ((t1 : Int))) 2 o 0 ((t2 : Int))) []
      have e3 : su s 2 7 0 (t1 : Int) 3 = s 3 := su_rc (by decide)
      rw [e3] at h2b h2c
      have w7 : WN (su s 2 7 0 (t1 : Int)) 7 (N / δ) := trim_nm hd7 (by omega) h1a h1b h1c hq
      have wo : WN (su (su s 2 7 0 (t1 : Int)) 2 o 0 (t2 : Int)) o (N % δ) := trim_nm (by intro j; rw [e3]; exact hds j) (by omega) h2a (by rw [e3]; exact h2b) (by rw [e3]; exact h2c) (by rw [← hr]; exact vB_congr (fun j _ => by show (su s 2 7 0 (t1 : Int) 3 o j).toNat = (s 3 o j).toNat; rw [e3]))
      exact v_vret hX (atL dAX0_reduce_1 14 rfl) (hret () _ ⟨wo, w7.fr (l := [(2, o)]) (Fr.su (by simp)) (by simp; omega) (by simp), (hfr.tr' (Fr.su (by simp))).tr' (Fr.su (by simp))⟩)
    | succ kk ih =>
      intro s hkk hds hd7 hso hs7 hfr hag hval hlt lv0 hlv
      refine v_sub _ hlv ?_
      have h8f : ∀ c, s c 8 = σ c 8 := fun c => hfr c 8 (by simp; omega)
      have hn2 : s 2 8 0 = (n : Int) := by rw [h8f]; exact hn
      have hdd2 : WDg s 8 := by intro j; rw [h8f]; exact hdd j
      have hδ2 : vB 268435456 (fW s 8) n = δ := by rw [← hδ]; exact vB_congr (fun j _ => by show (s 3 8 j).toNat = (σ 3 8 j).toNat; rw [h8f])
      have hdk := hds kk
      have hdN : s 3 o kk = (dgt N kk : Int) := by rw [hag kk (by omega), ← dgt_WN hdo0 hNv kk, if_pos (by omega)]
      have hW1 : vB 268435456 (win s o kk) (a + 1 - kk) = dgt N kk + vB 268435456 (win s o (kk + 1)) (a + 1 - (kk + 1)) * 268435456 := by rw [show a + 1 - kk = (a + 1 - (kk + 1)) + 1 by omega, win_1, hdN]; rfl
      have hdgk := dgt_lt N kk
      have hWB : vB 268435456 (win s o kk) (a + 1 - kk) < δ * 268435456 := by rw [hW1]; have : (vB 268435456 (win s o (kk + 1)) (a + 1 - (kk + 1)) + 1) * 268435456 ≤ δ * 268435456 := Nat.mul_le_mul_right _ hlt; omega
      have hWP : vB 268435456 (win s o kk) (a + 1 - kk) < 268435456 ^ (n + 1) := by rw [Nat.pow_succ]; exact Nat.lt_of_lt_of_le hWB (Nat.mul_le_mul_right _ (Nat.le_of_lt hdl))
      obtain ⟨hcut, hzz⟩ := vB_cut (fun j _ => win_lt hds kk j) (show n + 1 ≤ a + 1 - kk by omega) hWP
      rw [← hcut] at hWB hW1
      have m99 : ∀ (x : Nat) (s1 : St), x < 268435456 → WDg s1 o → Fr [(3, o)] s s1 → (∀ j, (j < kk ∨ kk + n < j) → s1 3 o j = s 3 o j) → vB 268435456 (win s1 o kk) (n + 1) + x * δ = vB 268435456 (win s o kk) (n + 1) → vB 268435456 (win s1 o kk) (n + 1) < δ → V X (0, 0) w 99 [(4, .long (jI (x : Int))), (3, .int (iI (((kk + 1 : Nat) : Int) - 1))), (2, .int (iI ((a : Int) - (n : Int)))), (0, .ref (w.1 7 0)), (1, .ref (w.1 3 o))] s1 [] := by
        intro x s1 hx hd1 hf1 ha1 hv1 hl1
        refine v_aload_n hX 3 rfl (atL dAX0_reduce_0 55 rfl) ?_
        refine gf_X0_12 hX hk0 (atL dAX0_reduce_0 56 rfl) ?_
        refine gf_X0_100 hX h37 (atL dAX0_reduce_0 57 rfl) ?_
        refine v_iload_n hX 1 rfl (atL dAX0_reduce_0 58 rfl) ?_
        refine v_lload hX 0 rfl (atL dAX0_reduce_0 59 rfl) ?_
        refine v_last hX (c := 3) kk h47 (by decide) (fun _ _ => rfl) (by omega) (by omega) (by decide) (atL dAX0_reduce_1 0 rfl) ?_
        refine v_iinc hX (lv' := [(3, .int (iI ((((kk + 1 : Nat) : Int) - 1) + (-1)))), (4, .long (jI ((x : Int)))), (2, .int (iI ((a : Int) - (n : Int)))), (0, .ref (w.1 7 0)), (1, .ref (w.1 3 o))]) 1 rfl (iI_add _ _) (Nat.le_of_ble_eq_true rfl) rfl (atL dAX0_reduce_1 1 rfl) ?_
        refine v_goto hX (tgt := 57) (atL dAX0_reduce_1 2 rfl) (by decide) ?_
        refine v_sub (lv' := [(3, .int (iI ((((kk + 1 : Nat) : Int) - 1) + (-1)))), (2, .int (iI ((a : Int) - (n : Int)))), (0, .ref (w.1 7 0)), (1, .ref (w.1 3 o))]) [0, 2, 3, 4] rfl ?_
        rw [show ((kk + 1 : Nat) : Int) - 1 + (-1) = (kk : Int) - 1 by omega]
        have hf2 : Fr [(2, 7), (3, 7), (2, o), (3, o)] s s1 := hf1.mono (by simp)
        have ho3 : su s1 3 7 kk (x : Int) 3 o = s1 3 o := su_ri ho7
        have hwo : ∀ M, vB 268435456 (win (su s1 3 7 kk (x : Int)) o kk) M = vB 268435456 (win s1 o kk) M := fun M => vB_congr (fun j _ => by show (su s1 3 7 kk (x : Int) 3 o (kk + j)).toNat = (s1 3 o (kk + j)).toNat; rw [ho3])
        have hpst := win_paste (s := s) (s' := s1) (show n + 1 ≤ a + 1 - kk by omega) hzz (fun j hj => ha1 j (by omega))
        have h7e : s1 3 7 = s 3 7 := hf1 3 7 (by simp; omega)
        refine ih _ (by omega) (by intro j; rw [ho3]; exact hd1 j) ?_ ?_ ?_ ((hfr.tr' hf2).tr' (Fr.su (by simp))) (fun j hj => by rw [ho3, ha1 j (by omega)]; exact hag j (by omega)) ?_ (by rw [hwo, hpst]; exact hl1) _ rfl
        · exact WDg.su (by intro j; rw [h7e]; exact hd7 j) ⟨by omega, by omega⟩
        · rw [su_rc (by decide), hf1 2 o (by simp)]; exact hso
        · rw [su_rc (by decide), hf1 2 7 (by simp)]; exact hs7
        · rw [hwo, hpst, show a - n + 1 - kk = (a - n + 1 - (kk + 1)) + 1 by omega, win_1, su_s, Int.toNat_natCast]
          rw [vB_congr (f := win (su s1 3 7 kk (x : Int)) 7 (kk + 1)) (g := win s 7 (kk + 1)) (fun j _ => by show (su s1 3 7 kk (x : Int) 3 7 (kk + 1 + j)).toNat = (s 3 7 (kk + 1 + j)).toNat; rw [su_j (by omega), h7e])]
          rw [dgt_step N kk]
          exact red_step hval hW1 hv1
      refine v_iload_n hX 0 rfl (atL dAX0_reduce_0 30 rfl) ?_
      refine v_if_lt hX ⟨by omega, by omega⟩ (tgt := 116) (atL dAX0_reduce_0 31 rfl) (by decide) (fun h58 => absurd h58 (by omega)) (fun h58 => ?_)
      refine v_aload_n hX 2 rfl (atL dAX0_reduce_0 32 rfl) ?_
      refine v_aload_n hX 3 rfl (atL dAX0_reduce_0 33 rfl) ?_
      refine v_iload_n hX 0 rfl (atL dAX0_reduce_0 34 rfl) ?_
      rw [show ((kk + 1 : Nat) : Int) - 1 = (kk : Int) by omega]
      refine v_callV hX (As := [.ref (w.1 3 o), .int (iI ((kk : Int)))]) (rest := []) (c_X0_guessDigit (xl X) w s hk0 o ho hds ho8 n δ hn2 hn8 hdd2 hδ2 kk (by omega) hn1 (by rw [h8f]; exact htop) hWB) lk_X0_104 hk0 (fun _ => rfl) rfl rfl rfl (by rw [hR]; exact ⟨Nat.le_of_ble_eq_true rfl, Nat.le_of_ble_eq_true rfl⟩) ⟨Nat.zero_le _, Nat.zero_le _⟩ rfl (Nat.le_of_ble_eq_true rfl) (atL dAX0_reduce_0 35 rfl) (fun rx sx hxx => ?_)
      obtain ⟨x, hxa, hxB, hxh, hxl, hsx⟩ := hxx
      rw [hsx]
      subst hxa
      have hxd : (x + 1) * δ = x * δ + δ := by rw [Nat.add_mul, Nat.one_mul]
      show V X _ w _ _ s [.long (jI ((x : Int)))]
      refine v_lstore hX (lv' := [(4, .long (jI ((x : Int)))), (3, .int (iI ((kk : Int)))), (2, .int (iI ((a : Int) - (n : Int)))), (0, .ref (w.1 7 0)), (1, .ref (w.1 3 o))]) (Nat.le_of_ble_eq_true rfl) rfl (atL dAX0_reduce_0 36 rfl) ?_
      refine v_lload hX 0 rfl (atL dAX0_reduce_0 37 rfl) ?_
      refine v_lconst hX (atL dAX0_reduce_0 38 rfl) ?_
      show V X _ w _ _ _ (.long (jI (0)) :: _)
      refine v_lcmp_eq hX ⟨by omega, by omega⟩ ⟨by omega, by omega⟩ (atL dAX0_reduce_0 39 rfl) (tgt := 99) (atL dAX0_reduce_0 40 rfl) (by decide) (fun h72 => ?_) (fun h72 => ?_)
      · refine v_sub (lv' := [(4, .long (jI ((x : Int)))), (3, .int (iI ((kk : Int)))), (2, .int (iI ((a : Int) - (n : Int)))), (0, .ref (w.1 7 0)), (1, .ref (w.1 3 o))]) [0, 1, 2, 3, 4] rfl ?_
        rw [show (kk : Int) = ((kk + 1 : Nat) : Int) - 1 by omega]
        exact m99 x s hxB hds Fr.rf (fun j _ => rfl) (by rw [show x = 0 by omega, Nat.zero_mul, Nat.add_zero]) (by rw [show x = 0 by omega, Nat.zero_mul, Nat.zero_add] at hxd; rw [show x + 1 = 1 by omega] at hxl; omega)
      · refine v_aload_n hX 3 rfl (atL dAX0_reduce_0 41 rfl) ?_
        refine v_aload_n hX 4 rfl (atL dAX0_reduce_0 42 rfl) ?_
        refine v_lload hX 0 rfl (atL dAX0_reduce_0 43 rfl) ?_
        refine v_iload_n hX 1 rfl (atL dAX0_reduce_0 44 rfl) ?_
        refine v_callV hX (As := [.ref (w.1 3 o), .long (jI ((x : Int))), .int (iI ((kk : Int)))]) (rest := []) (c_X0_takeAway (xl X) w s hk0 o ho hds ho8 n δ hn2 hn8 hdd2 hδ2 x kk hxB (by omega)) lk_X0_108 hk0 (fun _ => rfl) rfl rfl rfl (by rw [hR]; exact ⟨Nat.le_of_ble_eq_true rfl, Nat.le_of_ble_eq_true rfl⟩) ⟨Nat.zero_le _, Nat.zero_le _⟩ rfl (Nat.le_of_ble_eq_true rfl) (atL dAX0_reduce_0 45 rfl) (fun rt st ht0 => ?_)
        obtain ⟨htd, htf, hta, htv⟩ := ht0
        have ht8 : ∀ c, st c 8 = s c 8 := fun c => htf c 8 (by simp; omega)
        have hwlt := vB_lt (b := 268435456) (f := win st o kk) (n := n + 1) (fun j _ => win_lt htd kk j)
        show V X _ w _ _ st [.int (iI (rt))]
        refine v_if_eq hX ⟨by rcases htv with h | h <;> omega, by rcases htv with h | h <;> omega⟩ (tgt := 99) (atL dAX0_reduce_0 46 rfl) (by decide) (fun h84 => ?_) (fun h84 => ?_)
        · refine v_sub (lv' := [(4, .long (jI ((x : Int)))), (3, .int (iI ((kk : Int)))), (2, .int (iI ((a : Int) - (n : Int)))), (0, .ref (w.1 7 0)), (1, .ref (w.1 3 o))]) [0, 1, 2, 3, 4] rfl ?_
          rw [show (kk : Int) = ((kk + 1 : Nat) : Int) - 1 by omega]
          exact m99 x st hxB htd htf hta (by rcases htv with h | h <;> omega) (by rcases htv with h | h <;> omega)
        · refine v_lload hX 0 rfl (atL dAX0_reduce_0 47 rfl) ?_
          refine v_lconst hX (atL dAX0_reduce_0 48 rfl) ?_
          show V X _ w _ _ _ (.long (jI (1)) :: _)
          refine v_lsub hX (jI_sub _ _) (atL dAX0_reduce_0 49 rfl) ?_
          refine v_lstore hX (lv' := [(4, .long (jI (((x : Int)) - 1))), (3, .int (iI ((kk : Int)))), (2, .int (iI ((a : Int) - (n : Int)))), (0, .ref (w.1 7 0)), (1, .ref (w.1 3 o))]) (Nat.le_of_ble_eq_true rfl) rfl (atL dAX0_reduce_0 50 rfl) ?_
          refine v_aload_n hX 3 rfl (atL dAX0_reduce_0 51 rfl) ?_
          refine v_aload_n hX 4 rfl (atL dAX0_reduce_0 52 rfl) ?_
          refine v_iload_n hX 1 rfl (atL dAX0_reduce_0 53 rfl) ?_
          refine v_callV hX (As := [.ref (w.1 3 o), .int (iI ((kk : Int)))]) (rest := []) (c_X0_putBack (xl X) w st hk0 o ho htd ho8 n δ (by rw [ht8]; exact hn2) hn8 (by intro j; rw [ht8]; exact hdd2 j) (by rw [← hδ2]; exact vB_congr (fun j _ => by show (st 3 8 j).toNat = (s 3 8 j).toNat; rw [ht8])) kk (by omega)) lk_X0_112 hk0 (fun _ => rfl) rfl rfl rfl (by rw [hR]; exact ⟨Nat.le_of_ble_eq_true rfl, Nat.le_of_ble_eq_true rfl⟩) ⟨Nat.zero_le _, Nat.zero_le _⟩ rfl (Nat.le_of_ble_eq_true rfl) (atL dAX0_reduce_0 54 rfl) (fun _ su1 hp0 => ?_)
          obtain ⟨hpd, hpf, hpa, hpv⟩ := hp0
          have hplt := vB_lt (b := 268435456) (f := win su1 o kk) (n := n + 1) (fun j _ => win_lt hpd kk j)
          show V X _ w _ _ su1 []
          refine v_sub (lv' := [(4, .long (jI (((x : Int)) - 1))), (3, .int (iI ((kk : Int)))), (2, .int (iI ((a : Int) - (n : Int)))), (0, .ref (w.1 7 0)), (1, .ref (w.1 3 o))]) [0, 1, 2, 3, 4] rfl ?_
          rw [show (kk : Int) = ((kk + 1 : Nat) : Int) - 1 by omega]
          have hx1 : 0 < x := by omega
          have hxm : x * δ = (x - 1) * δ + δ := by conv => lhs; rw [show x = (x - 1) + 1 by omega, Nat.add_mul, Nat.one_mul]
          rw [show (x : Int) - 1 = ((x - 1 : Nat) : Int) by omega]
          exact m99 (x - 1) su1 (by omega) hpd (htf.tr' hpf) (fun j hj => (hpa j hj).trans (hta j hj)) (by rcases htv with h | h <;> rcases hpv with g | g <;> omega) (by rcases htv with h | h <;> rcases hpv with g | g <;> omega)
  refine v_aload_n hX 1 rfl (atL dAX0_reduce_0 0 rfl) ?_
  refine gf_X0_89 hX (v := (a : Int)) (hna) ho (atL dAX0_reduce_0 1 rfl) ?_
  refine v_aload_n hX 0 rfl (atL dAX0_reduce_0 2 rfl) ?_
  refine gf_X0_18 hX hk0 (atL dAX0_reduce_0 3 rfl) ?_
  refine gf_X0_89 hX (v := (n : Int)) (hn) h38 (atL dAX0_reduce_0 4 rfl) ?_
  refine v_isub hX (iI_sub _ _) (atL dAX0_reduce_0 5 rfl) ?_
  refine v_istore_n hX (i := 2) rfl (lv' := [(2, .int (iI (((a : Int)) - ((n : Int))))), (0, .ref (w.1 7 0)), (1, .ref (w.1 3 o))]) (Nat.le_of_ble_eq_true rfl) rfl (atL dAX0_reduce_0 6 rfl) ?_
  refine v_aload_n hX 1 rfl (atL dAX0_reduce_0 7 rfl) ?_
  refine gf_X0_12 hX hk0 (atL dAX0_reduce_0 8 rfl) ?_
  refine v_iconst hX (atL dAX0_reduce_0 9 rfl) ?_
  refine pf_X0_89 hX h37 (atL dAX0_reduce_0 10 rfl) ?_
  refine v_aload_n hX 1 rfl (atL dAX0_reduce_0 11 rfl) ?_
  refine gf_X0_18 hX hk0 (atL dAX0_reduce_0 12 rfl) ?_
  refine gf_X0_89 hX (v := (n : Int)) ((su_i (by decide)).trans (hn)) h38 (atL dAX0_reduce_0 13 rfl) ?_
  refine v_if_eq hX ⟨by omega, by omega⟩ (tgt := 44) (atL dAX0_reduce_0 14 rfl) (by decide) (fun h28 => absurd h28 (by omega)) (fun h28 => ?_)
  refine v_iload_n hX 0 rfl (atL dAX0_reduce_0 15 rfl) ?_
  refine v_if_lt hX ⟨by omega, by omega⟩ (tgt := 44) (atL dAX0_reduce_0 16 rfl) (by decide) (fun h32 => ?_) (fun h32 => ?_)
  · have hsm : N < δ := by
      have q1 := used_lt_pow hdo0 hNv (Nat.le_refl a)
      have q2 : 268435456 ^ a ≤ 268435456 ^ (n - 1) := Nat.pow_le_pow_right (by omega) (by omega)
      omega
    exact v_vret hX (atL dAX0_reduce_0 21 rfl) (hret () _ (by refine ⟨?_, ?_, ?_⟩; rw [Nat.mod_eq_of_lt hsm]; exact nm.fr hN0 (l := [(2, 7)]) (Fr.su (by simp)) (by simp; omega) (by simp); exact ⟨0, su_s, by omega, by rw [su_rc (by decide)]; exact hd70, by omega, by rw [Nat.div_eq_of_lt hsm]; rfl⟩; exact Fr.su (by simp)))
  · refine v_aload_n hX 2 rfl (atL dAX0_reduce_0 17 rfl) ?_
    refine gf_X0_89 hX (v := (a : Int)) ((su_i ho7).trans (hna)) ho (atL dAX0_reduce_0 18 rfl) ?_
    refine v_bipush hX (by decide +kernel) (atL dAX0_reduce_0 19 rfl) ?_
    refine v_icmp_lt hX ⟨by omega, by omega⟩ ⟨by omega, by omega⟩ (tgt := 45) (atL dAX0_reduce_0 20 rfl) (by decide) (fun h41 => ?_) (fun h41 => absurd h41 (by omega))
    refine v_aload_n hX 2 rfl (atL dAX0_reduce_0 22 rfl) ?_
    refine gf_X0_100 hX ho (atL dAX0_reduce_0 23 rfl) ?_
    refine v_aload_n hX 2 rfl (atL dAX0_reduce_0 24 rfl) ?_
    refine gf_X0_89 hX (v := (a : Int)) ((su_i ho7).trans (hna)) ho (atL dAX0_reduce_0 25 rfl) ?_
    refine v_lconst hX (atL dAX0_reduce_0 26 rfl) ?_
    show V X _ w _ _ _ (.long (jI (0)) :: _)
    refine v_last hX (c := 3) a ho2 (by decide) (fun _ _ => rfl) rfl (by omega) (by decide) (atL dAX0_reduce_0 27 rfl) ?_
    refine v_iload_n hX 0 rfl (atL dAX0_reduce_0 28 rfl) ?_
    refine v_istore_n hX (i := 3) rfl (lv' := [(3, .int (iI (((a : Int)) - ((n : Int))))), (2, .int (iI (((a : Int)) - ((n : Int))))), (0, .ref (w.1 7 0)), (1, .ref (w.1 3 o))]) (Nat.le_of_ble_eq_true rfl) rfl (atL dAX0_reduce_0 29 rfl) ?_
    refine v_sub (lv' := [(3, .int (iI (((a : Int)) - ((n : Int))))), (2, .int (iI (((a : Int)) - ((n : Int))))), (0, .ref (w.1 7 0)), (1, .ref (w.1 3 o))]) [0, 1, 2, 3] rfl ?_
    have eT : ((a - n + 1 : Nat) : Int) - 1 = (a : Int) - (n : Int) := by omega
    have ho3 : ∀ j, j ≠ a → (su (su σ 2 7 0 0) 3 o a 0) 3 o j = σ 3 o j := fun j hj => by rw [su_j hj, su_rc (by decide)]
    have hwz : vB 268435456 (win (su (su σ 2 7 0 0) 3 o a 0) o (a - n + 1)) (a + 1 - (a - n + 1)) = N / 268435456 ^ (a - n + 1) := by
      rw [show a + 1 - (a - n + 1) = (n - 1) + 1 by omega, vB_suc]
      have e0 : win (su (su σ 2 7 0 0) 3 o a 0) o (a - n + 1) (n - 1) = 0 := by show ((su (su σ 2 7 0 0) 3 o a 0) 3 o (a - n + 1 + (n - 1))).toNat = 0; rw [show a - n + 1 + (n - 1) = a by omega, su_s]; rfl
      rw [e0, Nat.zero_mul, Nat.add_zero, ← hNv, vB_div (by omega) (by omega) (fun j _ => dg_lt hdo0 j), show a - (a - n + 1) = n - 1 by omega]
      exact vB_congr (fun j hj => by show ((su (su σ 2 7 0 0) 3 o a 0) 3 o (a - n + 1 + j)).toNat = (σ 3 o (a - n + 1 + j)).toNat; rw [ho3 _ (by omega)])
    refine loop hn1 (by omega) (a - n + 1) _ (Nat.le_refl _) ?_ ?_ ?_ ?_ ?_ (fun j hj => ho3 j (by omega)) ?_ ?_ _ (by rw [eT]; rfl)
    · exact WDg.su (by intro j; rw [su_rc (by decide)]; exact hdo0 j) ⟨by omega, by omega⟩
    · intro j; rw [su_i (Ne.symm ho7), su_rc (by decide)]; exact hd70 j
    · rw [su_c (by decide), su_i ho7]; exact hna
    · rw [su_c (by decide), su_s]
    · exact (Fr.su (by simp)).tr' (Fr.su (by simp))
    · rw [hwz, Nat.sub_self]; show _ = 0 * δ + _; omega
    · rw [hwz]; exact red_first (used_lt_pow hdo0 hNv (Nat.le_refl a)) hn1 (by omega) hge
