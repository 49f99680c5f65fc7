set_option maxHeartbeats 1000000 in
set_option maxRecDepth 100000 in
theorem c_X0_guessDigit (l : Launch) (w : Wl) (σ : St) (hk0 : w.2 7 0) (o : Nat) (ho : w.2 3 o) (hdo : WDg σ o) (ho8 : o ≠ 8) (n δ : Nat) (hn : σ 2 8 0 = (n : Int)) (hn8 : n ≤ 80) (hdd : WDg σ 8) (hδ : vB 268435456 (fW σ 8) n = δ) (p : Nat) (hp : p + n < 80) (hn1 : 1 ≤ n) (htop : 134217728 ≤ σ 3 8 (n - 1)) (hWd : vB 268435456 (win σ o p) (n + 1) < δ * 268435456) : Cn l yX0_guessDigit cX0_guessDigit 20 (Option.some Jvm.ClassFile.FieldType.long) 0 0 wJ [.ref (w.1 7 0), .ref (w.1 3 o), .int (iI ((p : Int)))] w σ (fun a σ' => ∃ x : Nat, a = (x : Int) ∧ x < 268435456 ∧ x * δ < vB 268435456 (win σ o p) (n + 1) + δ ∧ vB 268435456 (win σ o p) (n + 1) < (x + 1) * δ ∧ σ' = σ) := by
  refine Cn.of (own := RX0) (lv := [(0, .ref (w.1 7 0)), (1, .ref (w.1 3 o)), (2, .int (iI ((p : Int))))]) (by decide +kernel) rfl (Nat.le_of_ble_eq_true rfl) rfl (fun X hX hxl hR hcl hret => ?_)
  subst hxl
  have h38 : w.2 3 8 := hcl 7 0 hk0 (3, 8) (by simp [mn, tp])
  have h48 : w.2 4 8 := hcl 3 8 h38 (4, 8) (by simp [mn, tp])
  have ho2 : w.2 4 o := hcl 3 o ho (4, o) (by simp [mn, tp])
  have hdl := used_lt_pow hdd hδ (Nat.le_refl n)
  have hdg : ∀ j, j < n → σ 3 8 j = (dgt δ j : Int) := fun j hj => by rw [← dgt_WN hdd hδ j, if_pos hj]
  have hH0 := hdd (n - 1)
  have hu0 := hdo (p + n)
  have hu1 := hdo (p + n - 1)
  obtain ⟨H, hH⟩ : ∃ H : Nat, σ 3 8 (n - 1) = (H : Int) := ⟨(σ 3 8 (n - 1)).toNat, by omega⟩
  obtain ⟨a0, ha0⟩ : ∃ a : Nat, σ 3 o (p + n) = (a : Int) := ⟨(σ 3 o (p + n)).toNat, by omega⟩
  obtain ⟨a1, ha1⟩ : ∃ a : Nat, σ 3 o (p + n - 1) = (a : Int) := ⟨(σ 3 o (p + n - 1)).toNat, by omega⟩
  obtain ⟨U2, hU2⟩ : ∃ U, a0 * 268435456 + a1 = U := ⟨_, rfl⟩
  have hHB : 134217728 ≤ H := by omega
  have loop : ∀ (ℓ μ : Nat), ℓ < 268435456 → μ < 268435456 → (∀ x L, x * H + L = U2 → x < 268435456 → x * ℓ ≤ L * 268435456 + μ → x * δ < vB 268435456 (win σ o p) (n + 1) + δ) → (∀ x L, x * H + L = U2 → L * 268435456 + μ < x * ℓ → vB 268435456 (win σ o p) (n + 1) < x * δ) → ∀ (d kk x L : Nat), kk + d = 2 → x < 268435456 → x * H + L = U2 → (kk = 0 ∨ (kk = 1 ∧ 134217728 ≤ L) ∨ (kk = 2 ∧ 268435456 ≤ L)) → vB 268435456 (win σ o p) (n + 1) < (x + 1) * δ → V X (0, 0) w 153 [(19, .int (iI ((kk : Int)))), (17, .long (jI ((μ : Int)))), (15, .long (jI ((L : Int)))), (13, .long (jI ((x : Int)))), (11, .long (jI ((U2 : Int)))), (9, .long (jI ((ℓ : Int)))), (7, .long (jI ((H : Int)))), (6, .ref (w.1 4 8)), (5, .ref (w.1 4 o)), (4, .int (iI ((p : Int) + (n : Int)))), (3, .int (iI ((n : Int)))), (0, .ref (w.1 7 0)), (1, .ref (w.1 3 o)), (2, .int (iI ((p : Int))))] σ [] := by
    intro ℓ μ hℓ hμ hHi hLo d
    induction d with
    | zero =>
      intro kk x L hk hx hxL hkL hlo
      refine v_iload hX 0 rfl (atL dAX0_guessDigit_1 32 rfl) ?_
      refine v_iconst hX (atL dAX0_guessDigit_1 33 rfl) ?_
      refine v_icmp_ge hX ⟨by omega, by omega⟩ ⟨by omega, by omega⟩ (tgt := 207) (atL dAX0_guessDigit_1 34 rfl) (by decide) (fun h156 => ?_) (fun h156 => absurd h156 (by omega))
      refine v_lload hX 3 rfl (atL dAX0_guessDigit_2 1 rfl) ?_
      exact v_lret hX (atL dAX0_guessDigit_2 2 rfl) (hret _ _ ⟨x, rfl, hx, hHi x L hxL hx (by have : x * ℓ ≤ 268435455 * 268435455 := Nat.mul_le_mul (by omega) (by omega); omega), hlo, rfl⟩)
    | succ d ih =>
      intro kk x L hk hx hxL hkL hlo
      have hxl : x * ℓ ≤ 268435455 * 268435455 := Nat.mul_le_mul (by omega) (by omega)
      have hLU : L ≤ U2 := by omega
      have hUb : U2 < 72057594037927936 := by omega
      have hxc : ((x * ℓ : Nat) : Int) = (x : Int) * (ℓ : Int) := Int.natCast_mul _ _
      refine v_iload hX 0 rfl (atL dAX0_guessDigit_1 32 rfl) ?_
      refine v_iconst hX (atL dAX0_guessDigit_1 33 rfl) ?_
      refine v_icmp_ge hX ⟨by omega, by omega⟩ ⟨by omega, by omega⟩ (tgt := 207) (atL dAX0_guessDigit_1 34 rfl) (by decide) (fun h156 => absurd h156 (by omega)) (fun h156 => ?_)
      refine v_lload hX 2 rfl (atL dAX0_guessDigit_1 35 rfl) ?_
      refine v_ldc2 hX (r := 268435455) wd_479 (by decide +kernel) (atL dAX0_guessDigit_1 36 rfl) ?_
      refine v_lcmp_gt hX ⟨by omega, by omega⟩ ⟨by omega, by omega⟩ (atL dAX0_guessDigit_1 37 rfl) (tgt := 207) (atL dAX0_guessDigit_1 38 rfl) (by decide) (fun h164 => ?_) (fun h164 => ?_)
      · refine v_lload hX 3 rfl (atL dAX0_guessDigit_2 1 rfl) ?_
        exact v_lret hX (atL dAX0_guessDigit_2 2 rfl) (hret _ _ ⟨x, rfl, hx, hHi x L hxL hx (by have : x * ℓ ≤ 268435455 * 268435455 := Nat.mul_le_mul (by omega) (by omega); omega), hlo, rfl⟩)
      · refine v_lload hX 3 rfl (atL dAX0_guessDigit_1 39 rfl) ?_
        refine v_lload hX 5 rfl (atL dAX0_guessDigit_1 40 rfl) ?_
        refine v_lmul hX (jI_mul _ _) (atL dAX0_guessDigit_1 41 rfl) ?_
        refine v_lload hX 2 rfl (atL dAX0_guessDigit_1 42 rfl) ?_
        refine v_bipush hX (by decide +kernel) (atL dAX0_guessDigit_1 43 rfl) ?_
        refine v_lshl hX (r := jI (((L : Int)) * 268435456)) (jI_shl _ 28 (by decide)) (atL dAX0_guessDigit_1 44 rfl) ?_
        refine v_lload hX 1 rfl (atL dAX0_guessDigit_1 45 rfl) ?_
        refine v_lor hX (r := jI (((L * 268435456 + μ : Nat) : Int))) (by rw [show (L : Int) * 268435456 = ((L * 268435456 : Nat) : Int) by omega]; exact jI_or (k := 28) hμ ⟨L, Nat.mul_comm _ _⟩ (by omega)) (atL dAX0_guessDigit_1 46 rfl) ?_
        refine v_lcmp_gt hX ⟨by omega, by omega⟩ ⟨by omega, by omega⟩ (atL dAX0_guessDigit_1 47 rfl) (tgt := 188) (atL dAX0_guessDigit_1 48 rfl) (by decide) (fun h181 => ?_) (fun h181 => ?_)
        · refine v_lload hX 3 rfl (atL dAX0_guessDigit_1 51 rfl) ?_
          refine v_lconst hX (atL dAX0_guessDigit_1 52 rfl) ?_
          show V X _ w _ _ _ (.long (jI (1)) :: _)
          refine v_lsub hX (jI_sub _ _) (atL dAX0_guessDigit_1 53 rfl) ?_
          refine v_lstore hX (lv' := [(13, .long (jI (((x : Int)) - 1))), (19, .int (iI ((kk : Int)))), (17, .long (jI ((μ : Int)))), (15, .long (jI ((L : Int)))), (11, .long (jI ((U2 : Int)))), (9, .long (jI ((ℓ : Int)))), (7, .long (jI ((H : Int)))), (6, .ref (w.1 4 8)), (5, .ref (w.1 4 o)), (4, .int (iI ((p : Int) + (n : Int)))), (3, .int (iI ((n : Int)))), (0, .ref (w.1 7 0)), (1, .ref (w.1 3 o)), (2, .int (iI ((p : Int))))]) (Nat.le_of_ble_eq_true rfl) rfl (atL dAX0_guessDigit_1 54 rfl) ?_
          refine v_lload hX 3 rfl (atL dAX0_guessDigit_1 55 rfl) ?_
          refine v_lload hX 6 rfl (atL dAX0_guessDigit_1 56 rfl) ?_
          refine v_ladd hX (jI_add _ _) (atL dAX0_guessDigit_1 57 rfl) ?_
          refine v_lstore hX (lv' := [(15, .long (jI (((L : Int)) + ((H : Int))))), (13, .long (jI (((x : Int)) - 1))), (19, .int (iI ((kk : Int)))), (17, .long (jI ((μ : Int)))), (11, .long (jI ((U2 : Int)))), (9, .long (jI ((ℓ : Int)))), (7, .long (jI ((H : Int)))), (6, .ref (w.1 4 8)), (5, .ref (w.1 4 o)), (4, .int (iI ((p : Int) + (n : Int)))), (3, .int (iI ((n : Int)))), (0, .ref (w.1 7 0)), (1, .ref (w.1 3 o)), (2, .int (iI ((p : Int))))]) (Nat.le_of_ble_eq_true rfl) rfl (atL dAX0_guessDigit_1 58 rfl) ?_
          refine v_iinc hX (lv' := [(19, .int (iI (((kk : Int)) + 1))), (15, .long (jI (((L : Int)) + ((H : Int))))), (13, .long (jI (((x : Int)) - 1))), (17, .long (jI ((μ : Int)))), (11, .long (jI ((U2 : Int)))), (9, .long (jI ((ℓ : Int)))), (7, .long (jI ((H : Int)))), (6, .ref (w.1 4 8)), (5, .ref (w.1 4 o)), (4, .int (iI ((p : Int) + (n : Int)))), (3, .int (iI ((n : Int)))), (0, .ref (w.1 7 0)), (1, .ref (w.1 3 o)), (2, .int (iI ((p : Int))))]) 2 rfl (iI_add _ _) (Nat.le_of_ble_eq_true rfl) rfl (atL dAX0_guessDigit_1 59 rfl) ?_
          refine v_goto hX (tgt := 153) (atL dAX0_guessDigit_2 0 rfl) (by decide) ?_
          refine v_sub (lv' := [(19, .int (iI (((kk : Int)) + 1))), (17, .long (jI ((μ : Int)))), (15, .long (jI (((L : Int)) + ((H : Int))))), (13, .long (jI (((x : Int)) - 1))), (11, .long (jI ((U2 : Int)))), (9, .long (jI ((ℓ : Int)))), (7, .long (jI ((H : Int)))), (6, .ref (w.1 4 8)), (5, .ref (w.1 4 o)), (4, .int (iI ((p : Int) + (n : Int)))), (3, .int (iI ((n : Int)))), (0, .ref (w.1 7 0)), (1, .ref (w.1 3 o)), (2, .int (iI ((p : Int))))]) [0, 3, 1, 2, 4, 5, 6, 7, 8, 9, 10, 11, 12, 13] rfl ?_
          have hlo2 := hLo x L hxL (by omega)
          have hx0 : 0 < x := by rcases Nat.eq_zero_or_pos x with h | h; subst h; omega; exact h
          rw [show (kk : Int) + 1 = ((kk + 1 : Nat) : Int) by omega, show (x : Int) - 1 = ((x - 1 : Nat) : Int) by omega, show (L : Int) + (H : Int) = ((L + H : Nat) : Int) by omega]
          refine ih (kk + 1) (x - 1) (L + H) (by omega) (by omega) ?_ (by omega) (by rw [show x - 1 + 1 = x by omega]; exact hlo2)
          have e : x * H = (x - 1) * H + H := by conv => lhs; rw [show x = (x - 1) + 1 by omega, Nat.add_mul, Nat.one_mul]
          omega
        · refine v_lload hX 3 rfl (atL dAX0_guessDigit_1 49 rfl) ?_
          exact v_lret hX (atL dAX0_guessDigit_1 50 rfl) (hret _ _ ⟨x, rfl, hx, hHi x L hxL hx (by omega), hlo, rfl⟩)
  have hdiv : U2 / H * H ≤ U2 := Nat.div_mul_le_self U2 H
  have hdlt : U2 < (U2 / H + 1) * H := by rw [Nat.add_mul, Nat.one_mul]; exact Nat.lt_div_mul_add (by omega)
  have hdle : U2 / H ≤ U2 := Nat.div_le_self _ _
  obtain ⟨Q, hQ⟩ : ∃ Q, U2 / H = Q := ⟨_, rfl⟩
  rw [hQ] at hdiv hdlt hdle
  have hUb : U2 < 72057594037927936 := by omega
  refine v_aload_n hX 0 rfl (atL dAX0_guessDigit_0 0 rfl) ?_
  refine gf_X0_18 hX hk0 (atL dAX0_guessDigit_0 1 rfl) ?_
  refine gf_X0_89 hX (v := (n : Int)) (hn) h38 (atL dAX0_guessDigit_0 2 rfl) ?_
  refine v_istore_n hX (i := 3) rfl (lv' := [(3, .int (iI ((n : Int)))), (0, .ref (w.1 7 0)), (1, .ref (w.1 3 o)), (2, .int (iI ((p : Int))))]) (Nat.le_of_ble_eq_true rfl) rfl (atL dAX0_guessDigit_0 3 rfl) ?_
  refine v_iload_n hX 3 rfl (atL dAX0_guessDigit_0 4 rfl) ?_
  refine v_iload_n hX 0 rfl (atL dAX0_guessDigit_0 5 rfl) ?_
  refine v_iadd hX (iI_add _ _) (atL dAX0_guessDigit_0 6 rfl) ?_
  refine v_istore hX (lv' := [(4, .int (iI (((p : Int)) + ((n : Int))))), (3, .int (iI ((n : Int)))), (0, .ref (w.1 7 0)), (1, .ref (w.1 3 o)), (2, .int (iI ((p : Int))))]) (Nat.le_of_ble_eq_true rfl) rfl (atL dAX0_guessDigit_0 7 rfl) ?_
  refine v_aload_n hX 3 rfl (atL dAX0_guessDigit_0 8 rfl) ?_
  refine gf_X0_100 hX ho (atL dAX0_guessDigit_0 9 rfl) ?_
  refine v_astore hX (lv' := [(5, .ref (w.1 4 o)), (4, .int (iI (((p : Int)) + ((n : Int))))), (3, .int (iI ((n : Int)))), (0, .ref (w.1 7 0)), (1, .ref (w.1 3 o)), (2, .int (iI ((p : Int))))]) (Nat.le_of_ble_eq_true rfl) rfl (atL dAX0_guessDigit_0 10 rfl) ?_
  refine v_aload_n hX 3 rfl (atL dAX0_guessDigit_0 11 rfl) ?_
  refine gf_X0_18 hX hk0 (atL dAX0_guessDigit_0 12 rfl) ?_
  refine gf_X0_100 hX h38 (atL dAX0_guessDigit_0 13 rfl) ?_
  refine v_astore hX (lv' := [(6, .ref (w.1 4 8)), (5, .ref (w.1 4 o)), (4, .int (iI (((p : Int)) + ((n : Int))))), (3, .int (iI ((n : Int)))), (0, .ref (w.1 7 0)), (1, .ref (w.1 3 o)), (2, .int (iI ((p : Int))))]) (Nat.le_of_ble_eq_true rfl) rfl (atL dAX0_guessDigit_0 14 rfl) ?_
  refine v_iload_n hX 3 rfl (atL dAX0_guessDigit_0 15 rfl) ?_
  refine v_iconst hX (atL dAX0_guessDigit_0 16 rfl) ?_
  refine v_icmp_lt hX ⟨by omega, by omega⟩ ⟨by omega, by omega⟩ (tgt := 56) (atL dAX0_guessDigit_0 17 rfl) (by decide) (fun h30 => absurd h30 (by omega)) (fun h30 => ?_)
  refine v_iload_n hX 6 rfl (atL dAX0_guessDigit_0 18 rfl) ?_
  refine v_if_lt hX ⟨by omega, by omega⟩ (tgt := 56) (atL dAX0_guessDigit_0 19 rfl) (by decide) (fun h34 => absurd h34 (by omega)) (fun h34 => ?_)
  refine v_iload hX 2 rfl (atL dAX0_guessDigit_0 20 rfl) ?_
  refine v_aload hX 1 rfl (atL dAX0_guessDigit_0 21 rfl) ?_
  refine v_alen hX (n := 80) (t := 2) ho2 (fun _ => rfl) (fun _ => rfl) (atL dAX0_guessDigit_0 22 rfl) ?_
  refine v_icmp_ge hX ⟨by omega, by omega⟩ ⟨by omega, by omega⟩ (tgt := 56) (atL dAX0_guessDigit_0 23 rfl) (by decide) (fun h42 => absurd h42 (by omega)) (fun h42 => ?_)
  rcases (show n = 1 ∨ 2 ≤ n by omega) with h1 | h2
  · have hfirst : vB 268435456 (win σ o p) (n + 1) < (Q + 1) * δ := by
      have e1 : vB 268435456 (win σ o p) (n + 1) = U2 := by subst h1; show 0 + (σ 3 o (p + 0)).toNat * 268435456 ^ 0 + (σ 3 o (p + 1)).toNat * 268435456 ^ 1 = U2; rw [show p + 0 = p + 1 - 1 by omega, ha1, ha0]; omega
      have e2 : δ = H := by subst h1; rw [← hδ, vB_1]; show (σ 3 8 0).toNat = H; rw [show (0 : Nat) = 1 - 1 from rfl, hH]; omega
      rw [e1, e2]; exact hdlt
    have hW : vB 268435456 (win σ o p) (n + 1) < (268435455 + 1) * δ := by rw [Nat.mul_comm]; exact hWd
    have hHi : ∀ x L, x * H + L = U2 → x < 268435456 → x * 0 ≤ L * 268435456 + 0 → x * δ < vB 268435456 (win σ o p) (n + 1) + δ := by
      intro x L hL _ _
      have e1 : vB 268435456 (win σ o p) (n + 1) = U2 := by subst h1; show 0 + (σ 3 o (p + 0)).toNat * 268435456 ^ 0 + (σ 3 o (p + 1)).toNat * 268435456 ^ 1 = U2; rw [show p + 0 = p + 1 - 1 by omega, ha1, ha0]; omega
      have e2 : δ = H := by subst h1; rw [← hδ, vB_1]; show (σ 3 8 0).toNat = H; rw [show (0 : Nat) = 1 - 1 from rfl, hH]; omega
      rw [e1, e2]; omega
    have hLo : ∀ x L, x * H + L = U2 → L * 268435456 + 0 < x * 0 → vB 268435456 (win σ o p) (n + 1) < x * δ := by intro x L _ h; omega
    have m122 : ∀ x : Nat, x < 268435456 → x * H ≤ U2 → vB 268435456 (win σ o p) (n + 1) < (x + 1) * δ → V X (0, 0) w 122 [(13, .long (jI ((x : Int)))), (11, .long (jI ((U2 : Int)))), (9, .long (jI (0))), (7, .long (jI ((H : Int)))), (6, .ref (w.1 4 8)), (5, .ref (w.1 4 o)), (4, .int (iI ((p : Int) + (n : Int)))), (3, .int (iI ((n : Int)))), (0, .ref (w.1 7 0)), (1, .ref (w.1 3 o)), (2, .int (iI ((p : Int))))] σ [] := by
      intro x hx hxU hlo
      have hxc : ((x * H : Nat) : Int) = (x : Int) * (H : Int) := Int.natCast_mul _ _
      obtain ⟨L, hL⟩ : ∃ L, x * H + L = U2 := ⟨U2 - x * H, by omega⟩
      refine v_lload hX 1 rfl (atL dAX0_guessDigit_1 13 rfl) ?_
      refine v_lload hX 0 rfl (atL dAX0_guessDigit_1 14 rfl) ?_
      refine v_lload hX 3 rfl (atL dAX0_guessDigit_1 15 rfl) ?_
      refine v_lmul hX (jI_mul _ _) (atL dAX0_guessDigit_1 16 rfl) ?_
      refine v_lsub hX (jI_sub _ _) (atL dAX0_guessDigit_1 17 rfl) ?_
      refine v_lstore hX (lv' := [(15, .long (jI (((U2 : Int)) - (((x : Int)) * ((H : Int)))))), (13, .long (jI ((x : Int)))), (11, .long (jI ((U2 : Int)))), (9, .long (jI (0))), (7, .long (jI ((H : Int)))), (6, .ref (w.1 4 8)), (5, .ref (w.1 4 o)), (4, .int (iI ((p : Int) + (n : Int)))), (3, .int (iI ((n : Int)))), (0, .ref (w.1 7 0)), (1, .ref (w.1 3 o)), (2, .int (iI ((p : Int))))]) (Nat.le_of_ble_eq_true rfl) rfl (atL dAX0_guessDigit_1 18 rfl) ?_
      refine v_iload_n hX 8 rfl (atL dAX0_guessDigit_1 19 rfl) ?_
      refine v_iconst hX (atL dAX0_guessDigit_1 20 rfl) ?_
      refine v_icmp_le hX ⟨by omega, by omega⟩ ⟨by omega, by omega⟩ (tgt := 147) (atL dAX0_guessDigit_1 21 rfl) (by decide) (fun h134 => ?_) (fun h134 => absurd h134 (by omega))
      refine v_lconst hX (atL dAX0_guessDigit_1 28 rfl) ?_
      show V X _ w _ _ _ (.long (jI (0)) :: _)
      refine v_lstore hX (lv' := [(17, .long (jI (0))), (15, .long (jI (((U2 : Int)) - (((x : Int)) * ((H : Int)))))), (13, .long (jI ((x : Int)))), (11, .long (jI ((U2 : Int)))), (9, .long (jI (0))), (7, .long (jI ((H : Int)))), (6, .ref (w.1 4 8)), (5, .ref (w.1 4 o)), (4, .int (iI ((p : Int) + (n : Int)))), (3, .int (iI ((n : Int)))), (0, .ref (w.1 7 0)), (1, .ref (w.1 3 o)), (2, .int (iI ((p : Int))))]) (Nat.le_of_ble_eq_true rfl) rfl (atL dAX0_guessDigit_1 29 rfl) ?_
      refine v_iconst hX (atL dAX0_guessDigit_1 30 rfl) ?_
      refine v_istore hX (lv' := [(19, .int (iI (0))), (17, .long (jI (0))), (15, .long (jI (((U2 : Int)) - (((x : Int)) * ((H : Int)))))), (13, .long (jI ((x : Int)))), (11, .long (jI ((U2 : Int)))), (9, .long (jI (0))), (7, .long (jI ((H : Int)))), (6, .ref (w.1 4 8)), (5, .ref (w.1 4 o)), (4, .int (iI ((p : Int) + (n : Int)))), (3, .int (iI ((n : Int)))), (0, .ref (w.1 7 0)), (1, .ref (w.1 3 o)), (2, .int (iI ((p : Int))))]) (Nat.le_of_ble_eq_true rfl) rfl (atL dAX0_guessDigit_1 31 rfl) ?_
      refine v_sub (lv' := [(19, .int (iI (0))), (17, .long (jI (0))), (15, .long (jI (((U2 : Int)) - (((x : Int)) * ((H : Int)))))), (13, .long (jI ((x : Int)))), (11, .long (jI ((U2 : Int)))), (9, .long (jI (0))), (7, .long (jI ((H : Int)))), (6, .ref (w.1 4 8)), (5, .ref (w.1 4 o)), (4, .int (iI ((p : Int) + (n : Int)))), (3, .int (iI ((n : Int)))), (0, .ref (w.1 7 0)), (1, .ref (w.1 3 o)), (2, .int (iI ((p : Int))))]) [0, 1, 2, 3, 4, 5, 6, 7, 8, 9, 10, 11, 12, 13] rfl ?_
      rw [show (U2 : Int) - (x : Int) * (H : Int) = (L : Int) by omega]
      exact loop 0 0 (by omega) (by omega) hHi hLo 2 0 x L (by omega) hx hL (by omega) hlo
    refine v_aload hX 0 rfl (atL dAX0_guessDigit_0 24 rfl) ?_
    refine v_iload_n hX 3 rfl (atL dAX0_guessDigit_0 25 rfl) ?_
    refine v_iconst hX (atL dAX0_guessDigit_0 26 rfl) ?_
    refine v_isub hX (iI_sub _ _) (atL dAX0_guessDigit_0 27 rfl) ?_
    refine v_lald hX (r := jI ((H : Int))) (n - 1) h48 (fun _ => rfl) (by omega) (by omega) (by decide) (congrArg jI hH) (atL dAX0_guessDigit_0 28 rfl) ?_
    refine v_lconst hX (atL dAX0_guessDigit_0 29 rfl) ?_
    show V X _ w _ _ _ (.long (jI (0)) :: _)
    refine v_lcmp_ne hX ⟨by omega, by omega⟩ ⟨by omega, by omega⟩ (atL dAX0_guessDigit_0 30 rfl) (tgt := 58) (atL dAX0_guessDigit_0 31 rfl) (by decide) (fun h52 => ?_) (fun h52 => absurd h52 (by omega))
    refine v_aload hX 0 rfl (atL dAX0_guessDigit_0 34 rfl) ?_
    refine v_iload_n hX 3 rfl (atL dAX0_guessDigit_0 35 rfl) ?_
    refine v_iconst hX (atL dAX0_guessDigit_0 36 rfl) ?_
    refine v_isub hX (iI_sub _ _) (atL dAX0_guessDigit_0 37 rfl) ?_
    refine v_lald hX (r := jI ((H : Int))) (n - 1) h48 (fun _ => rfl) (by omega) (by omega) (by decide) (congrArg jI hH) (atL dAX0_guessDigit_0 38 rfl) ?_
    refine v_lstore hX (lv' := [(7, .long (jI ((H : Int)))), (6, .ref (w.1 4 8)), (5, .ref (w.1 4 o)), (4, .int (iI ((p : Int) + (n : Int)))), (3, .int (iI ((n : Int)))), (0, .ref (w.1 7 0)), (1, .ref (w.1 3 o)), (2, .int (iI ((p : Int))))]) (Nat.le_of_ble_eq_true rfl) rfl (atL dAX0_guessDigit_0 39 rfl) ?_
    refine v_iload_n hX 4 rfl (atL dAX0_guessDigit_0 40 rfl) ?_
    refine v_iconst hX (atL dAX0_guessDigit_0 41 rfl) ?_
    refine v_icmp_le hX ⟨by omega, by omega⟩ ⟨by omega, by omega⟩ (tgt := 80) (atL dAX0_guessDigit_0 42 rfl) (by decide) (fun h68 => ?_) (fun h68 => absurd h68 (by omega))
    refine v_lconst hX (atL dAX0_guessDigit_0 49 rfl) ?_
    show V X _ w _ _ _ (.long (jI (0)) :: _)
    refine v_lstore hX (lv' := [(9, .long (jI (0))), (7, .long (jI ((H : Int)))), (6, .ref (w.1 4 8)), (5, .ref (w.1 4 o)), (4, .int (iI ((p : Int) + (n : Int)))), (3, .int (iI ((n : Int)))), (0, .ref (w.1 7 0)), (1, .ref (w.1 3 o)), (2, .int (iI ((p : Int))))]) (Nat.le_of_ble_eq_true rfl) rfl (atL dAX0_guessDigit_0 50 rfl) ?_
    refine v_aload hX 3 rfl (atL dAX0_guessDigit_0 51 rfl) ?_
    refine v_iload hX 4 rfl (atL dAX0_guessDigit_0 52 rfl) ?_
    refine v_lald hX (r := jI ((a0 : Int))) (p + n) ho2 (fun _ => rfl) (by omega) (by omega) (by decide) (congrArg jI ha0) (atL dAX0_guessDigit_0 53 rfl) ?_
    refine v_bipush hX (by decide +kernel) (atL dAX0_guessDigit_0 54 rfl) ?_
    refine v_lshl hX (r := jI (((a0 : Int)) * 268435456)) (jI_shl _ 28 (by decide)) (atL dAX0_guessDigit_0 55 rfl) ?_
    refine v_aload hX 3 rfl (atL dAX0_guessDigit_0 56 rfl) ?_
    refine v_iload hX 4 rfl (atL dAX0_guessDigit_0 57 rfl) ?_
    refine v_iconst hX (atL dAX0_guessDigit_0 58 rfl) ?_
    refine v_isub hX (iI_sub _ _) (atL dAX0_guessDigit_0 59 rfl) ?_
    refine v_lald hX (r := jI ((a1 : Int))) (p + n - 1) ho2 (fun _ => rfl) (by omega) (by omega) (by decide) (congrArg jI ha1) (atL dAX0_guessDigit_1 0 rfl) ?_
    refine v_lor hX (r := jI ((U2 : Int))) (by rw [show (a0 : Int) * 268435456 = ((a0 * 268435456 : Nat) : Int) by omega, ← hU2]; exact jI_or (k := 28) (by omega) ⟨a0, Nat.mul_comm _ _⟩ (by omega)) (atL dAX0_guessDigit_1 1 rfl) ?_
    refine v_lstore hX (lv' := [(11, .long (jI ((U2 : Int)))), (9, .long (jI (0))), (7, .long (jI ((H : Int)))), (6, .ref (w.1 4 8)), (5, .ref (w.1 4 o)), (4, .int (iI ((p : Int) + (n : Int)))), (3, .int (iI ((n : Int)))), (0, .ref (w.1 7 0)), (1, .ref (w.1 3 o)), (2, .int (iI ((p : Int))))]) (Nat.le_of_ble_eq_true rfl) rfl (atL dAX0_guessDigit_1 2 rfl) ?_
    refine v_lload hX 0 rfl (atL dAX0_guessDigit_1 3 rfl) ?_
    refine v_lload hX 2 rfl (atL dAX0_guessDigit_1 4 rfl) ?_
    refine v_ldiv hX (fun e0 => absurd ((jI_eq (b := 0) ⟨by omega, by omega⟩ ⟨by omega, by omega⟩).mp e0) (by omega)) (jI_div (by omega) (by omega) (by omega) (by omega)) (atL dAX0_guessDigit_1 5 rfl) ?_
    rw [← Int.natCast_ediv, hQ]
    refine v_lstore hX (lv' := [(13, .long (jI ((Q : Int)))), (11, .long (jI ((U2 : Int)))), (9, .long (jI (0))), (7, .long (jI ((H : Int)))), (6, .ref (w.1 4 8)), (5, .ref (w.1 4 o)), (4, .int (iI ((p : Int) + (n : Int)))), (3, .int (iI ((n : Int)))), (0, .ref (w.1 7 0)), (1, .ref (w.1 3 o)), (2, .int (iI ((p : Int))))]) (Nat.le_of_ble_eq_true rfl) rfl (atL dAX0_guessDigit_1 6 rfl) ?_
    refine v_lload hX 0 rfl (atL dAX0_guessDigit_1 7 rfl) ?_
    refine v_ldc2 hX (r := 268435455) wd_479 (by decide +kernel) (atL dAX0_guessDigit_1 8 rfl) ?_
    refine v_lcmp_le hX ⟨by omega, by omega⟩ ⟨by omega, by omega⟩ (atL dAX0_guessDigit_1 9 rfl) (tgt := 122) (atL dAX0_guessDigit_1 10 rfl) (by decide) (fun h113 => ?_) (fun h113 => ?_)
    · exact m122 Q (by omega) hdiv hfirst
    · refine v_ldc2 hX (r := 268435455) wd_479 (by decide +kernel) (atL dAX0_guessDigit_1 11 rfl) ?_
      refine v_lstore hX (lv' := [(13, .long (jI (268435455))), (11, .long (jI ((U2 : Int)))), (9, .long (jI (0))), (7, .long (jI ((H : Int)))), (6, .ref (w.1 4 8)), (5, .ref (w.1 4 o)), (4, .int (iI ((p : Int) + (n : Int)))), (3, .int (iI ((n : Int)))), (0, .ref (w.1 7 0)), (1, .ref (w.1 3 o)), (2, .int (iI ((p : Int))))]) (Nat.le_of_ble_eq_true rfl) rfl (atL dAX0_guessDigit_1 12 rfl) ?_
      exact m122 268435455 (by omega) (Nat.le_trans (Nat.mul_le_mul_right H (by omega)) hdiv) hW
  · obtain ⟨ν, hnv⟩ : ∃ ν, n = ν + 2 := ⟨n - 2, by omega⟩
    have hl2 := hdd (n - 2)
    have hm2 := hdo (p + n - 2)
    obtain ⟨ℓ, hℓ⟩ : ∃ a : Nat, σ 3 8 (n - 2) = (a : Int) := ⟨(σ 3 8 (n - 2)).toNat, by omega⟩
    obtain ⟨μ, hμ⟩ : ∃ a : Nat, σ 3 o (p + n - 2) = (a : Int) := ⟨(σ 3 o (p + n - 2)).toNat, by omega⟩
    have eD : δ = vB 268435456 (fW σ 8) ν + (ℓ + H * 268435456) * 268435456 ^ ν := by
      have e3 := vB_2 (f := fW σ 8) (k := ν)
      have f0 : fW σ 8 ν = ℓ := by show (σ 3 8 ν).toNat = ℓ; rw [show ν = n - 2 by omega, hℓ]; omega
      have f1 : fW σ 8 (ν + 1) = H := by show (σ 3 8 (ν + 1)).toNat = H; rw [show ν + 1 = n - 1 by omega, hH]; omega
      rw [f0, f1, ← hnv, hδ] at e3
      exact e3
    have eW : vB 268435456 (win σ o p) (n + 1) = vB 268435456 (win σ o p) ν + (μ + U2 * 268435456) * 268435456 ^ ν := by
      have e3 := vB_3 (f := win σ o p) (k := ν)
      have f0 : win σ o p ν = μ := by show (σ 3 o (p + ν)).toNat = μ; rw [show p + ν = p + n - 2 by omega, hμ]; omega
      have f1 : win σ o p (ν + 1) = a1 := by show (σ 3 o (p + (ν + 1))).toNat = a1; rw [show p + (ν + 1) = p + n - 1 by omega, ha1]; omega
      have f2 : win σ o p (ν + 2) = a0 := by show (σ 3 o (p + (ν + 2))).toNat = a0; rw [show p + (ν + 2) = p + n by omega, ha0]; omega
      rw [f0, f1, f2, show a1 + a0 * 268435456 = U2 by omega, show ν + 3 = n + 1 by omega] at e3
      exact e3
    have hd0 : vB 268435456 (fW σ 8) ν < 268435456 ^ ν := vB_lt (fun j _ => dg_lt hdd j)
    have hw0 : vB 268435456 (win σ o p) ν < 268435456 ^ ν := vB_lt (fun j _ => win_lt hdo p j)
    have hHi : ∀ x L, x * H + L = U2 → x < 268435456 → x * ℓ ≤ L * 268435456 + μ → x * δ < vB 268435456 (win σ o p) (n + 1) + δ := by intro x L hL hx h; rw [eD, eW]; exact g_hi hd0 ((g_three hL).mpr h) hx (by omega)
    have hLo : ∀ x L, x * H + L = U2 → L * 268435456 + μ < x * ℓ → vB 268435456 (win σ o p) (n + 1) < x * δ := by intro x L hL h; rw [eD, eW]; exact g_lo hw0 (Nat.not_le.mp (fun q => absurd ((g_three hL).mp q) (by omega)))
    have hfirst : vB 268435456 (win σ o p) (n + 1) < (Q + 1) * δ := by
      have q1 : μ + U2 * 268435456 < (Q + 1) * (ℓ + H * 268435456) := by
        have q2 : (U2 + 1) * 268435456 ≤ (Q + 1) * H * 268435456 := Nat.mul_le_mul_right _ hdlt
        have q3 : (Q + 1) * (ℓ + H * 268435456) = (Q + 1) * ℓ + (Q + 1) * H * 268435456 := by rw [Nat.mul_add, Nat.mul_assoc]
        omega
      rw [eD, eW]; exact g_first hw0 q1
    have hW : vB 268435456 (win σ o p) (n + 1) < (268435455 + 1) * δ := by rw [Nat.mul_comm]; exact hWd
    have m122 : ∀ x : Nat, x < 268435456 → x * H ≤ U2 → vB 268435456 (win σ o p) (n + 1) < (x + 1) * δ → V X (0, 0) w 122 [(13, .long (jI ((x : Int)))), (11, .long (jI ((U2 : Int)))), (9, .long (jI ((ℓ : Int)))), (7, .long (jI ((H : Int)))), (6, .ref (w.1 4 8)), (5, .ref (w.1 4 o)), (4, .int (iI ((p : Int) + (n : Int)))), (3, .int (iI ((n : Int)))), (0, .ref (w.1 7 0)), (1, .ref (w.1 3 o)), (2, .int (iI ((p : Int))))] σ [] := by
      intro x hx hxU hlo
      have hxc : ((x * H : Nat) : Int) = (x : Int) * (H : Int) := Int.natCast_mul _ _
      obtain ⟨L, hL⟩ : ∃ L, x * H + L = U2 := ⟨U2 - x * H, by omega⟩
      refine v_lload hX 1 rfl (atL dAX0_guessDigit_1 13 rfl) ?_
      refine v_lload hX 0 rfl (atL dAX0_guessDigit_1 14 rfl) ?_
      refine v_lload hX 3 rfl (atL dAX0_guessDigit_1 15 rfl) ?_
      refine v_lmul hX (jI_mul _ _) (atL dAX0_guessDigit_1 16 rfl) ?_
      refine v_lsub hX (jI_sub _ _) (atL dAX0_guessDigit_1 17 rfl) ?_
      refine v_lstore hX (lv' := [(15, .long (jI (((U2 : Int)) - (((x : Int)) * ((H : Int)))))), (13, .long (jI ((x : Int)))), (11, .long (jI ((U2 : Int)))), (9, .long (jI ((ℓ : Int)))), (7, .long (jI ((H : Int)))), (6, .ref (w.1 4 8)), (5, .ref (w.1 4 o)), (4, .int (iI ((p : Int) + (n : Int)))), (3, .int (iI ((n : Int)))), (0, .ref (w.1 7 0)), (1, .ref (w.1 3 o)), (2, .int (iI ((p : Int))))]) (Nat.le_of_ble_eq_true rfl) rfl (atL dAX0_guessDigit_1 18 rfl) ?_
      refine v_iload_n hX 8 rfl (atL dAX0_guessDigit_1 19 rfl) ?_
      refine v_iconst hX (atL dAX0_guessDigit_1 20 rfl) ?_
      refine v_icmp_le hX ⟨by omega, by omega⟩ ⟨by omega, by omega⟩ (tgt := 147) (atL dAX0_guessDigit_1 21 rfl) (by decide) (fun h134 => absurd h134 (by omega)) (fun h134 => ?_)
      refine v_aload hX 6 rfl (atL dAX0_guessDigit_1 22 rfl) ?_
      refine v_iload hX 7 rfl (atL dAX0_guessDigit_1 23 rfl) ?_
      refine v_iconst hX (atL dAX0_guessDigit_1 24 rfl) ?_
      refine v_isub hX (iI_sub _ _) (atL dAX0_guessDigit_1 25 rfl) ?_
      refine v_lald hX (r := jI ((μ : Int))) (p + n - 2) ho2 (fun _ => rfl) (by omega) (by omega) (by decide) (congrArg jI hμ) (atL dAX0_guessDigit_1 26 rfl) ?_
      refine v_goto hX (tgt := 148) (atL dAX0_guessDigit_1 27 rfl) (by decide) ?_
      refine v_lstore hX (lv' := [(17, .long (jI ((μ : Int)))), (15, .long (jI (((U2 : Int)) - (((x : Int)) * ((H : Int)))))), (13, .long (jI ((x : Int)))), (11, .long (jI ((U2 : Int)))), (9, .long (jI ((ℓ : Int)))), (7, .long (jI ((H : Int)))), (6, .ref (w.1 4 8)), (5, .ref (w.1 4 o)), (4, .int (iI ((p : Int) + (n : Int)))), (3, .int (iI ((n : Int)))), (0, .ref (w.1 7 0)), (1, .ref (w.1 3 o)), (2, .int (iI ((p : Int))))]) (Nat.le_of_ble_eq_true rfl) rfl (atL dAX0_guessDigit_1 29 rfl) ?_
      refine v_iconst hX (atL dAX0_guessDigit_1 30 rfl) ?_
      refine v_istore hX (lv' := [(19, .int (iI (0))), (17, .long (jI ((μ : Int)))), (15, .long (jI (((U2 : Int)) - (((x : Int)) * ((H : Int)))))), (13, .long (jI ((x : Int)))), (11, .long (jI ((U2 : Int)))), (9, .long (jI ((ℓ : Int)))), (7, .long (jI ((H : Int)))), (6, .ref (w.1 4 8)), (5, .ref (w.1 4 o)), (4, .int (iI ((p : Int) + (n : Int)))), (3, .int (iI ((n : Int)))), (0, .ref (w.1 7 0)), (1, .ref (w.1 3 o)), (2, .int (iI ((p : Int))))]) (Nat.le_of_ble_eq_true rfl) rfl (atL dAX0_guessDigit_1 31 rfl) ?_
      refine v_sub (lv' := [(19, .int (iI (0))), (17, .long (jI ((μ : Int)))), (15, .long (jI (((U2 : Int)) - (((x : Int)) * ((H : Int)))))), (13, .long (jI ((x : Int)))), (11, .long (jI ((U2 : Int)))), (9, .long (jI ((ℓ : Int)))), (7, .long (jI ((H : Int)))), (6, .ref (w.1 4 8)), (5, .ref (w.1 4 o)), (4, .int (iI ((p : Int) + (n : Int)))), (3, .int (iI ((n : Int)))), (0, .ref (w.1 7 0)), (1, .ref (w.1 3 o)), (2, .int (iI ((p : Int))))]) [0, 1, 2, 3, 4, 5, 6, 7, 8, 9, 10, 11, 12, 13] rfl ?_
      rw [show (U2 : Int) - (x : Int) * (H : Int) = (L : Int) by omega]
      exact loop ℓ μ (by omega) (by omega) hHi hLo 2 0 x L (by omega) hx hL (by omega) hlo
    refine v_aload hX 0 rfl (atL dAX0_guessDigit_0 24 rfl) ?_
    refine v_iload_n hX 3 rfl (atL dAX0_guessDigit_0 25 rfl) ?_
    refine v_iconst hX (atL dAX0_guessDigit_0 26 rfl) ?_
    refine v_isub hX (iI_sub _ _) (atL dAX0_guessDigit_0 27 rfl) ?_
    refine v_lald hX (r := jI ((H : Int))) (n - 1) h48 (fun _ => rfl) (by omega) (by omega) (by decide) (congrArg jI hH) (atL dAX0_guessDigit_0 28 rfl) ?_
    refine v_lconst hX (atL dAX0_guessDigit_0 29 rfl) ?_
    show V X _ w _ _ _ (.long (jI (0)) :: _)
    refine v_lcmp_ne hX ⟨by omega, by omega⟩ ⟨by omega, by omega⟩ (atL dAX0_guessDigit_0 30 rfl) (tgt := 58) (atL dAX0_guessDigit_0 31 rfl) (by decide) (fun h52 => ?_) (fun h52 => absurd h52 (by omega))
    refine v_aload hX 0 rfl (atL dAX0_guessDigit_0 34 rfl) ?_
    refine v_iload_n hX 3 rfl (atL dAX0_guessDigit_0 35 rfl) ?_
    refine v_iconst hX (atL dAX0_guessDigit_0 36 rfl) ?_
    refine v_isub hX (iI_sub _ _) (atL dAX0_guessDigit_0 37 rfl) ?_
    refine v_lald hX (r := jI ((H : Int))) (n - 1) h48 (fun _ => rfl) (by omega) (by omega) (by decide) (congrArg jI hH) (atL dAX0_guessDigit_0 38 rfl) ?_
    refine v_lstore hX (lv' := [(7, .long (jI ((H : Int)))), (6, .ref (w.1 4 8)), (5, .ref (w.1 4 o)), (4, .int (iI ((p : Int) + (n : Int)))), (3, .int (iI ((n : Int)))), (0, .ref (w.1 7 0)), (1, .ref (w.1 3 o)), (2, .int (iI ((p : Int))))]) (Nat.le_of_ble_eq_true rfl) rfl (atL dAX0_guessDigit_0 39 rfl) ?_
    refine v_iload_n hX 4 rfl (atL dAX0_guessDigit_0 40 rfl) ?_
    refine v_iconst hX (atL dAX0_guessDigit_0 41 rfl) ?_
    refine v_icmp_le hX ⟨by omega, by omega⟩ ⟨by omega, by omega⟩ (tgt := 80) (atL dAX0_guessDigit_0 42 rfl) (by decide) (fun h68 => absurd h68 (by omega)) (fun h68 => ?_)
    refine v_aload hX 1 rfl (atL dAX0_guessDigit_0 43 rfl) ?_
    refine v_iload_n hX 4 rfl (atL dAX0_guessDigit_0 44 rfl) ?_
    refine v_iconst hX (atL dAX0_guessDigit_0 45 rfl) ?_
    refine v_isub hX (iI_sub _ _) (atL dAX0_guessDigit_0 46 rfl) ?_
    refine v_lald hX (r := jI ((ℓ : Int))) (n - 2) h48 (fun _ => rfl) (by omega) (by omega) (by decide) (congrArg jI hℓ) (atL dAX0_guessDigit_0 47 rfl) ?_
    refine v_goto hX (tgt := 81) (atL dAX0_guessDigit_0 48 rfl) (by decide) ?_
    refine v_lstore hX (lv' := [(9, .long (jI ((ℓ : Int)))), (7, .long (jI ((H : Int)))), (6, .ref (w.1 4 8)), (5, .ref (w.1 4 o)), (4, .int (iI ((p : Int) + (n : Int)))), (3, .int (iI ((n : Int)))), (0, .ref (w.1 7 0)), (1, .ref (w.1 3 o)), (2, .int (iI ((p : Int))))]) (Nat.le_of_ble_eq_true rfl) rfl (atL dAX0_guessDigit_0 50 rfl) ?_
    refine v_aload hX 3 rfl (atL dAX0_guessDigit_0 51 rfl) ?_
    refine v_iload hX 4 rfl (atL dAX0_guessDigit_0 52 rfl) ?_
    refine v_lald hX (r := jI ((a0 : Int))) (p + n) ho2 (fun _ => rfl) (by omega) (by omega) (by decide) (congrArg jI ha0) (atL dAX0_guessDigit_0 53 rfl) ?_
    refine v_bipush hX (by decide +kernel) (atL dAX0_guessDigit_0 54 rfl) ?_
    refine v_lshl hX (r := jI (((a0 : Int)) * 268435456)) (jI_shl _ 28 (by decide)) (atL dAX0_guessDigit_0 55 rfl) ?_
    refine v_aload hX 3 rfl (atL dAX0_guessDigit_0 56 rfl) ?_
    refine v_iload hX 4 rfl (atL dAX0_guessDigit_0 57 rfl) ?_
    refine v_iconst hX (atL dAX0_guessDigit_0 58 rfl) ?_
    refine v_isub hX (iI_sub _ _) (atL dAX0_guessDigit_0 59 rfl) ?_
    refine v_lald hX (r := jI ((a1 : Int))) (p + n - 1) ho2 (fun _ => rfl) (by omega) (by omega) (by decide) (congrArg jI ha1) (atL dAX0_guessDigit_1 0 rfl) ?_
    refine v_lor hX (r := jI ((U2 : Int))) (by rw [show (a0 : Int) * 268435456 = ((a0 * 268435456 : Nat) : Int) by omega, ← hU2]; exact jI_or (k := 28) (by omega) ⟨a0, Nat.mul_comm _ _⟩ (by omega)) (atL dAX0_guessDigit_1 1 rfl) ?_
    refine v_lstore hX (lv' := [(11, .long (jI ((U2 : Int)))), (9, .long (jI ((ℓ : Int)))), (7, .long (jI ((H : Int)))), (6, .ref (w.1 4 8)), (5, .ref (w.1 4 o)), (4, .int (iI ((p : Int) + (n : Int)))), (3, .int (iI ((n : Int)))), (0, .ref (w.1 7 0)), (1, .ref (w.1 3 o)), (2, .int (iI ((p : Int))))]) (Nat.le_of_ble_eq_true rfl) rfl (atL dAX0_guessDigit_1 2 rfl) ?_
    refine v_lload hX 0 rfl (atL dAX0_guessDigit_1 3 rfl) ?_
    refine v_lload hX 2 rfl (atL dAX0_guessDigit_1 4 rfl) ?_
    refine v_ldiv hX (fun e0 => absurd ((jI_eq (b := 0) ⟨by omega, by omega⟩ ⟨by omega, by omega⟩).mp e0) (by omega)) (jI_div (by omega) (by omega) (by omega) (by omega)) (atL dAX0_guessDigit_1 5 rfl) ?_
    rw [← Int.natCast_ediv, hQ]
    refine v_lstore hX (lv' := [(13, .long (jI ((Q : Int)))), (11, .long (jI ((U2 : Int)))), (9, .long (jI ((ℓ : Int)))), (7, .long (jI ((H : Int)))), (6, .ref (w.1 4 8)), (5, .ref (w.1 4 o)), (4, .int (iI ((p : Int) + (n : Int)))), (3, .int (iI ((n : Int)))), (0, .ref (w.1 7 0)), (1, .ref (w.1 3 o)), (2, .int (iI ((p : Int))))]) (Nat.le_of_ble_eq_true rfl) rfl (atL dAX0_guessDigit_1 6 rfl) ?_
    refine v_lload hX 0 rfl (atL dAX0_guessDigit_1 7 rfl) ?_
    refine v_ldc2 hX (r := 268435455) wd_479 (by decide +kernel) (atL dAX0_guessDigit_1 8 rfl) ?_
    refine v_lcmp_le hX ⟨by omega, by omega⟩ ⟨by omega, by omega⟩ (atL dAX0_guessDigit_1 9 rfl) (tgt := 122) (atL dAX0_guessDigit_1 10 rfl) (by decide) (fun h113 => ?_) (fun h113 => ?_)
    · exact m122 Q (by omega) hdiv hfirst
    · refine v_ldc2 hX (r := 268435455) wd_479 (by decide +kernel) (atL dAX0_guessDigit_1 11 rfl) ?_
      refine v_lstore hX (lv' := [(13, .long (jI (268435455))), (11, .long (jI ((U2 : Int)))), (9, .long (jI ((ℓ : Int)))), (7, .long (jI ((H : Int)))), (6, .ref (w.1 4 8)), (5, .ref (w.1 4 o)), (4, .int (iI ((p : Int) + (n : Int)))), (3, .int (iI ((n : Int)))), (0, .ref (w.1 7 0)), (1, .ref (w.1 3 o)), (2, .int (iI ((p : Int))))]) (Nat.le_of_ble_eq_true rfl) rfl (atL dAX0_guessDigit_1 12 rfl) ?_
      exact m122 268435455 (by omega) (Nat.le_trans (Nat.mul_le_mul_right H (by omega)) hdiv) hW
