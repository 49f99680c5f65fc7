/-- all numbers' digits are in range -/
def AN (σ : St) : Prop := ∀ q, NDg σ q
theorem AN.of {σ σ' : St} {l : List (Nat × Nat)} (h : AN σ) (f : Fr l σ σ') (g : ∀ q, (12, q) ∈ l → NDg σ' q) : AN σ' := fun q => by
  by_cases c : (12, q) ∈ l
  · exact g q c
  · exact (h q).fr f c
theorem AN.one {σ σ' : St} {i v : Nat} (h : AN σ) (f : Fr [(11, i), (12, i)] σ σ') (g : NN σ' i v) : AN σ' := h.of f (fun q hq => by simp at hq; subst hq; exact NN.dg g)
theorem AN.fr {σ σ' : St} {l : List (Nat × Nat)} (h : AN σ) (f : Fr l σ σ') (g : ∀ q ∈ l, q.1 ≠ 12) : AN σ' := h.of f (fun q hq => absurd rfl (g _ hq))
theorem ior_dvd {e P Q : Nat} (hB : P * Q = 65536) : Q ∣ e * Q % 65536 := by
  rw [← hB, Nat.mul_mod_mul_right]
  exact ⟨e % P, Nat.mul_comm _ _⟩
theorem div_g {n W w0 wm wn d0 H δ P g0 : Nat} (hP : P = 65536 ^ (n - 1)) (hW : W = w0 + (wm + wn * 65536) * P) (hw0 : w0 < P) (hδ : δ = d0 + H * P) (hH : 0 < H) (hg : (wn * 65536 + wm) / H = g0) : W < (g0 + 1) * δ := by
  rw [hW, hδ]
  refine g_first hw0 ?_
  rw [← hg, Nat.add_comm wm]
  have q := Nat.lt_mul_div_succ (wn * 65536 + wm) hH
  rw [Nat.mul_comm H] at q
  exact q

theorem n_dgt_z {v b j : Nat} (h : v < 65536 ^ b) (hj : b ≤ j) : n_dgt v j = 0 := by
  unfold n_dgt
  rw [Nat.div_eq_of_lt (Nat.lt_of_lt_of_le h (Nat.pow_le_pow_right (by omega) hj))]
theorem win_top {s s2 : St} {N a k : Nat} (h1 : ∀ j, j < a → s 12 0 j = s2 12 0 j) (h2 : s 12 0 a = 0) (h3 : ∀ j, j < a → s2 12 0 j = (n_dgt N j : Int)) (hN : N < 65536 ^ a) (hk : k ≤ a) (_ : 1 ≤ k) : vB 65536 (n_win s 0 k) (a + 1 - k) = N / 65536 ^ k := by
  have h4 := n_dgt_all (Nat.lt_of_lt_of_le hN (Nat.pow_le_pow_right (by omega) (show a ≤ a + 1 by omega)))
  rw [← h4, vB_div (by omega) (by omega) (fun j _ => n_dgt_lt N j)]
  refine vB_congr (fun j hj => ?_)
  show (s 12 0 (k + j)).toNat = n_dgt N (k + j)
  rcases Nat.lt_or_ge (k + j) a with c | c
  · rw [h1 _ c, h3 _ c]; rfl
  · rw [show k + j = a by omega, h2, n_dgt_z hN (Nat.le_refl a)]; rfl
theorem lt_back {X W g δ P : Nat} {C : Int} (h : (X : Int) + C * (P : Int) = (W : Int) - ((g + 1 : Nat) : Int) * (δ : Int)) (hC : C < 0) (hX : X < P) : W < (g + 1) * δ := by
  have h1 : C * (P : Int) ≤ (-1) * (P : Int) := Int.mul_le_mul_of_nonneg_right (by omega) (by omega)
  have h2 : ((g + 1 : Nat) : Int) * (δ : Int) = (((g + 1) * δ : Nat) : Int) := (Int.natCast_mul _ _).symm
  rw [h2] at h
  omega

set_option maxHeartbeats 1000000 in
set_option maxRecDepth 100000 in
theorem c_X8_divide (l : Launch) (w : Wl) (σ : St) (hk0 : w.2 13 0) (hAN : AN σ) (i v : Nat) (hi : w.2 14 i) (hN : NN σ i v) (o y : Nat) (hj : w.2 14 o) (hM : NN σ o y) (r : Nat) (hr : w.2 14 r) (hy0 : y ≠ 0) (hv8 : v < 65536 ^ 268) (hi1 : 1 < i) (ho1 : 1 < o) (hr1 : 1 < r) (hio : i ≠ o) (hri : r ≠ i) (hro : r ≠ o) : Cn l yX8_divide cX8_divide 16 none 2 44 wN [.ref (w.1 13 0), .ref (w.1 14 i), .ref (w.1 14 o), .ref (w.1 14 r)] w σ (fun _ σ' => NN σ' i (v % y) ∧ NN σ' r (v / y) ∧ AN σ' ∧ Fr [(11, i), (12, i), (11, r), (12, r), (11, 0), (12, 0), (11, 1), (12, 1)] σ σ') := by
  refine Cn.of (own := RX8) (lv := [(0, .ref (w.1 13 0)), (1, .ref (w.1 14 i)), (2, .ref (w.1 14 o)), (3, .ref (w.1 14 r))]) (by decide +kernel) rfl (Nat.le_of_ble_eq_true rfl) rfl (fun X hX hxl hR hcl hret => ?_)
  subst hxl
  have hQ : ∀ q, (14, q) ∈ mn σ 13 0 → w.2 14 q := fun q h => hcl 13 0 hk0 (14, q) h
  have hQ5 : ∀ q, (14, q) ∈ mn σ 13 0 → w.2 15 q := fun q h => hcl 14 q (hQ q h) (15, q) (by simp [mn, tp])
  have hQ16 : ∀ q, (16, q) ∈ mn σ 13 0 → w.2 16 q := fun q h => hcl 13 0 hk0 (16, q) h
  have hi2 : w.2 15 i := hcl 14 i hi (15, i) (by simp [mn, tp])
  have hj2 : w.2 15 o := hcl 14 o hj (15, o) (by simp [mn, tp])
  have hr2 : w.2 15 r := hcl 14 r hr (15, r) (by simp [mn, tp])
  refine v_aload_n hX 1 rfl (atL dAX8_divide_0 0 rfl) ?_
  refine v_aload_n hX 2 rfl (atL dAX8_divide_0 1 rfl) ?_
  refine v_callN hX (As := [.ref (w.1 14 o)]) (rest := []) (c_X7_compare (xl X) w σ i v hi hN o y hj hM) lk_X8_160 hi (fun _ => rfl) rfl rfl rfl (by rw [hR]; exact ⟨Nat.le_of_ble_eq_true rfl, Nat.le_of_ble_eq_true rfl⟩) ⟨Nat.zero_le _, Nat.zero_le _⟩ rfl (Nat.le_of_ble_eq_true rfl) (atL dAX8_divide_0 2 rfl) (fun rc sc hc => ?_)
  obtain ⟨hca, hcb⟩ := hc
  rw [hcb]
  have hcc := ord3 hca
  show V X _ w _ _ σ [.int (iI (rc))]
  refine v_if_ge hX ⟨by omega, by omega⟩ (tgt := 14) (atL dAX8_divide_0 3 rfl) (by decide) (fun h5 => ?_) (fun h5 => ?_)
  · obtain ⟨x, hx, hx8, he, hxt, hy⟩ := id hM
    have hx1 : 0 < x := Nat.pos_of_ne_zero (fun q => hy0 ((NN_0 hxt he hy).mp q))
    have hbl := NN_bl hxt he hy hx1
    have hdx := he (x - 1)
    have htx := hxt hx1
    have hbt : blen (σ 12 o (x - 1)).toNat ≤ 16 := blen_le (show _ < 65536 by omega)
    have hbt0 : 0 < blen (σ 12 o (x - 1)).toNat := blen_pos (by omega)
    obtain ⟨up, hupe⟩ : ∃ q, 16 * x - blen y = q := ⟨_, rfl⟩
    have hup : up < 16 := by omega
    have hPb := p16 hup
    have hPp := Nat.two_pow_pos up
    have copy : ∀ (R b : Nat) (s : St), s 11 0 0 = (b : Int) → b ≤ 270 → R < 65536 ^ b → (∀ j, j < b → s 12 0 j = (n_dgt R j : Int)) → (∀ σ', NN σ' i (R / 2 ^ up) → Fr [(11, i), (12, i)] s σ' → RT X (0, 0) w (wN ()) σ') → ∀ (d k : Nat) (t : St), k + d = b → (∀ j, j < k → t 12 i j = (n_dgt (R / 2 ^ up) j : Int)) → NDg t i → Fr [(12, i)] s t → V X (0, 0) w 450 [(7, .int (iI ((k : Int)))), (4, .int (iI ((up : Int)))), (0, .ref (w.1 13 0)), (1, .ref (w.1 14 i)), (2, .ref (w.1 14 o)), (3, .ref (w.1 14 r))] t [] := by
      intro R b s hb hb8 hRb hRd hend d
      induction d with
      | zero =>
        intro k t hk h1 hdt hf
        obtain rfl : k = b := by omega
        have htb : t 11 0 0 = (k : Int) := by rw [hf 11 0 (by simp)]; exact hb
        have hfin : vB 65536 (fN (su t 11 i 0 (k : Int)) i) k = R / 2 ^ up := by
          rw [vB_congr (g := fN t i) (fun j _ => by show (su t 11 i 0 (k : Int) 12 i j).toNat = _; rw [su_c (by decide)])]
          exact n_vB_fN h1 (Nat.lt_of_le_of_lt (Nat.div_le_self _ _) hRb)
        refine v_iload hX 0 rfl (atL dAX8_divide_4 3 rfl) ?_
        refine v_aload_n hX 2 rfl (atL dAX8_divide_4 4 rfl) ?_
        refine gf_X8_10 hX hk0 (atL dAX8_divide_4 5 rfl) ?_
        refine gf_X8_164 hX (v := (k : Int)) (htb) (hQ 0 (by simp [mn, tp])) (atL dAX8_divide_4 6 rfl) ?_
        refine v_icmp_ge hX ⟨by omega, by omega⟩ ⟨by omega, by omega⟩ (tgt := 528) (atL dAX8_divide_4 7 rfl) (by decide) (fun h459 => ?_) (fun h459 => absurd h459 (by omega))
        refine v_aload_n hX 3 rfl (atL dAX8_divide_4 44 rfl) ?_
        refine v_aload_n hX 2 rfl (atL dAX8_divide_4 45 rfl) ?_
        refine gf_X8_10 hX hk0 (atL dAX8_divide_4 46 rfl) ?_
        refine gf_X8_164 hX (v := (k : Int)) (htb) (hQ 0 (by simp [mn, tp])) (atL dAX8_divide_4 47 rfl) ?_
        refine pf_X8_164 hX hi (atL dAX8_divide_4 48 rfl) ?_
        refine v_aload_n hX 3 rfl (atL dAX8_divide_4 49 rfl) ?_
        refine v_callN hX (As := []) (rest := []) (c_X7_cut (xl X) w (su t 11 i 0 ((k : Int))) i hi (fun j => by rw [su_c (by decide)]; exact hdt j) k (R / 2 ^ up) su_s (by omega) hfin) lk_X8_181 hi (fun _ => rfl) rfl rfl rfl (by rw [hR]; exact ⟨Nat.le_of_ble_eq_true rfl, Nat.le_of_ble_eq_true rfl⟩) ⟨Nat.zero_le _, Nat.zero_le _⟩ rfl (Nat.le_of_ble_eq_true rfl) (atL dAX8_divide_4 50 rfl) (fun _ s9 h9 => ?_)
        obtain ⟨h9a, h9f⟩ := h9
        show V X _ w _ _ s9 []
        exact v_vret hX (atL dAX8_divide_4 51 rfl) (hend _ h9a (((hf.mono (by simp)).tr' (Fr.su (by simp))).tr' (h9f.mono (by simp))))
      | succ d ih =>
        intro k t hk h1 hdt hf
        have htb : t 11 0 0 = (b : Int) := by rw [hf 11 0 (by simp)]; exact hb
        have ht0 : ∀ j, j < b → t 12 0 j = (n_dgt R j : Int) := fun j hj => by rw [hf 12 0 (by simp; omega)]; exact hRd j hj
        have hl0 := n_dgt_lt R k
        have hl1 := n_dgt_lt R (k + 1)
        have hun := n_unsh (R := R) (k := k) hup
        have hPQ := p16b hup
        have hq1 : n_dgt R k / 2 ^ up < 2 ^ (16 - up) := by rw [Nat.div_lt_iff_lt_mul (Nat.two_pow_pos _), Nat.mul_comm, hPQ]; exact hl0
        have hq1b : n_dgt R k / 2 ^ up ≤ n_dgt R k := Nat.div_le_self _ _
        have hdv := ior_dvd (e := n_dgt R (k + 1)) hPQ
        obtain ⟨y1, hy1⟩ : ∃ q, n_dgt R k / 2 ^ up = q := ⟨_, rfl⟩
        obtain ⟨y2, hy2⟩ : ∃ q, n_dgt R (k + 1) * 2 ^ (16 - up) % 65536 = q := ⟨_, rfl⟩
        have hy2b : y2 < 65536 := by rw [← hy2]; exact Nat.mod_lt _ (by omega)
        rw [hy1] at hq1 hq1b hun
        rw [hy2] at hdv hun
        have hnl := n_dgt_lt (R / 2 ^ up) k
        refine v_iload hX 0 rfl (atL dAX8_divide_4 3 rfl) ?_
        refine v_aload_n hX 2 rfl (atL dAX8_divide_4 4 rfl) ?_
        refine gf_X8_10 hX hk0 (atL dAX8_divide_4 5 rfl) ?_
        refine gf_X8_164 hX (v := (b : Int)) (htb) (hQ 0 (by simp [mn, tp])) (atL dAX8_divide_4 6 rfl) ?_
        refine v_icmp_ge hX ⟨by omega, by omega⟩ ⟨by omega, by omega⟩ (tgt := 528) (atL dAX8_divide_4 7 rfl) (by decide) (fun h459 => absurd h459 (by omega)) (fun h459 => ?_)
        refine v_aload_n hX 3 rfl (atL dAX8_divide_4 8 rfl) ?_
        refine gf_X8_175 hX hi (atL dAX8_divide_4 9 rfl) ?_
        refine v_iload hX 0 rfl (atL dAX8_divide_4 10 rfl) ?_
        refine v_aload_n hX 2 rfl (atL dAX8_divide_4 11 rfl) ?_
        refine gf_X8_10 hX hk0 (atL dAX8_divide_4 12 rfl) ?_
        refine gf_X8_175 hX (hQ 0 (by simp [mn, tp])) (atL dAX8_divide_4 13 rfl) ?_
        refine v_iload hX 0 rfl (atL dAX8_divide_4 14 rfl) ?_
        refine v_iald hX (r := iI ((n_dgt R k : Int))) k (hQ5 0 (by simp [mn, tp])) (fun _ => rfl) rfl (by omega) (by decide) (congrArg iI (ht0 k (by omega))) (atL dAX8_divide_4 15 rfl) ?_
        refine v_iload hX 1 rfl (atL dAX8_divide_4 16 rfl) ?_
        refine v_ishr hX (r := iI ((y1 : Int))) (by rw [iI_shr ⟨by omega, by omega⟩ up (by omega), ← Int.natCast_ediv, hy1]) (atL dAX8_divide_4 17 rfl) ?_
        refine v_iload hX 0 rfl (atL dAX8_divide_4 18 rfl) ?_
        refine v_iconst hX (atL dAX8_divide_4 19 rfl) ?_
        refine v_iadd hX (iI_add _ _) (atL dAX8_divide_4 20 rfl) ?_
        rw [show (((k : Int)) + 1) = ((k + 1 : Nat) : Int) from (by omega)]
        refine v_aload_n hX 2 rfl (atL dAX8_divide_4 21 rfl) ?_
        refine gf_X8_10 hX hk0 (atL dAX8_divide_4 22 rfl) ?_
        refine gf_X8_164 hX (v := (b : Int)) (htb) (hQ 0 (by simp [mn, tp])) (atL dAX8_divide_4 23 rfl) ?_
        refine v_icmp_ge hX ⟨by omega, by omega⟩ ⟨by omega, by omega⟩ (tgt := 519) (atL dAX8_divide_4 24 rfl) (by decide) (fun h492 => ?_) (fun h492 => ?_)
        · refine v_iconstE hX (r := (y2 : Int)) (by rw [← hy2, show n_dgt R (k + 1) = 0 from n_dgt_z hRb (by omega), Nat.zero_mul]; rfl) (atL dAX8_divide_4 39 rfl) ?_
          refine v_ior hX (r := iI (((y1 + y2 : Nat) : Int))) (iI_or3 (k := 16 - up) hq1 hdv (by omega)) (atL dAX8_divide_4 40 rfl) ?_
          refine v_iast hX (c := 12) k hi2 (by decide) (fun _ _ => rfl) rfl (by omega) (by decide) (atL dAX8_divide_4 41 rfl) ?_
          refine v_iinc hX (lv' := [(7, .int (iI (((k : Int)) + 1))), (4, .int (iI ((up : Int)))), (0, .ref (w.1 13 0)), (1, .ref (w.1 14 i)), (2, .ref (w.1 14 o)), (3, .ref (w.1 14 r))]) 0 rfl (iI_add _ _) (Nat.le_of_ble_eq_true rfl) rfl (atL dAX8_divide_4 42 rfl) ?_
          refine v_goto hX (tgt := 450) (atL dAX8_divide_4 43 rfl) (by decide) ?_
          refine v_sub (lv' := [(7, .int (iI (((k : Int)) + 1))), (4, .int (iI ((up : Int)))), (0, .ref (w.1 13 0)), (1, .ref (w.1 14 i)), (2, .ref (w.1 14 o)), (3, .ref (w.1 14 r))]) [0, 1, 2, 3, 4, 5] rfl ?_
          rw [show (k : Int) + 1 = ((k + 1 : Nat) : Int) by omega]
          refine ih (k + 1) _ (by omega) (fun j hj => ?_) (hdt.su ⟨by omega, by omega⟩) (hf.tr' (Fr.su (by simp)))
          by_cases e : j = k
          · rw [e, su_s, hun]
          · rw [su_j e]; exact h1 j (by omega)
        · refine v_aload_n hX 2 rfl (atL dAX8_divide_4 25 rfl) ?_
          refine gf_X8_10 hX hk0 (atL dAX8_divide_4 26 rfl) ?_
          refine gf_X8_175 hX (hQ 0 (by simp [mn, tp])) (atL dAX8_divide_4 27 rfl) ?_
          refine v_iload hX 0 rfl (atL dAX8_divide_4 28 rfl) ?_
          refine v_iconst hX (atL dAX8_divide_4 29 rfl) ?_
          refine v_iadd hX (iI_add _ _) (atL dAX8_divide_4 30 rfl) ?_
          rw [show (((k : Int)) + 1) = ((k + 1 : Nat) : Int) from (by omega)]
          refine v_iald hX (r := iI ((n_dgt R (k + 1) : Int))) (k + 1) (hQ5 0 (by simp [mn, tp])) (fun _ => rfl) rfl (by omega) (by decide) (congrArg iI (ht0 (k + 1) (by omega))) (atL dAX8_divide_4 31 rfl) ?_
          refine v_bipush hX (by decide +kernel) (atL dAX8_divide_4 32 rfl) ?_
          refine v_iload hX 1 rfl (atL dAX8_divide_4 33 rfl) ?_
          refine v_isub hX (iI_sub _ _) (atL dAX8_divide_4 34 rfl) ?_
          rw [show (16 - ((up : Int))) = ((16 - up : Nat) : Int) from (by omega)]
          refine v_ishl hX (r := iI (((n_dgt R (k + 1) * 2 ^ (16 - up) : Nat) : Int))) (by rw [iI_shl _ (16 - up) (by omega), ← Int.natCast_mul]) (atL dAX8_divide_4 35 rfl) ?_
          refine v_ldc hX (r := 65535) wd_1230 (by decide +kernel) (atL dAX8_divide_4 36 rfl) ?_
          refine v_iand hX (r := iI ((((n_dgt R (k + 1) * 2 ^ (16 - up) : Nat) : Int)) % 65536)) (iI_mask _ 16 (by decide)) (atL dAX8_divide_4 37 rfl) ?_
          rw [show ((((n_dgt R (k + 1) * 2 ^ (16 - up) : Nat) : Int)) % 65536) = (y2 : Int) from (by rw [← hy2]; omega)]
          refine v_goto hX (tgt := 520) (atL dAX8_divide_4 38 rfl) (by decide) ?_
          refine v_ior hX (r := iI (((y1 + y2 : Nat) : Int))) (iI_or3 (k := 16 - up) hq1 hdv (by omega)) (atL dAX8_divide_4 40 rfl) ?_
          refine v_iast hX (c := 12) k hi2 (by decide) (fun _ _ => rfl) rfl (by omega) (by decide) (atL dAX8_divide_4 41 rfl) ?_
          refine v_iinc hX (lv' := [(7, .int (iI (((k : Int)) + 1))), (4, .int (iI ((up : Int)))), (0, .ref (w.1 13 0)), (1, .ref (w.1 14 i)), (2, .ref (w.1 14 o)), (3, .ref (w.1 14 r))]) 0 rfl (iI_add _ _) (Nat.le_of_ble_eq_true rfl) rfl (atL dAX8_divide_4 42 rfl) ?_
          refine v_goto hX (tgt := 450) (atL dAX8_divide_4 43 rfl) (by decide) ?_
          refine v_sub (lv' := [(7, .int (iI (((k : Int)) + 1))), (4, .int (iI ((up : Int)))), (0, .ref (w.1 13 0)), (1, .ref (w.1 14 i)), (2, .ref (w.1 14 o)), (3, .ref (w.1 14 r))]) [0, 1, 2, 3, 4, 5] rfl ?_
          rw [show (k : Int) + 1 = ((k + 1 : Nat) : Int) by omega]
          refine ih (k + 1) _ (by omega) (fun j hj => ?_) (hdt.su ⟨by omega, by omega⟩) (hf.tr' (Fr.su (by simp)))
          by_cases e : j = k
          · rw [e, su_s, hun]
          · rw [su_j e]; exact h1 j (by omega)
    have loop : ∀ (N δ a n : Nat) (s2 : St), AN s2 → Fr [(11, 0), (12, 0), (11, 1), (12, 1)] σ s2 → N < 65536 ^ a → a ≤ 269 → 1 ≤ n → n ≤ a → n ≤ 270 → s2 11 1 0 = (n : Int) → vB 65536 (fN s2 1) n = δ → s2 12 1 (n - 1) ≠ 0 → (∀ j, j < a → s2 12 0 j = (n_dgt N j : Int)) → v % y = N % δ / 2 ^ up → v / y = N / δ → ∀ (kk : Nat) (s : St), kk ≤ a - n + 1 → NDg s 0 → NDg s r → Fr [(11, r), (12, r), (12, 0)] s2 s → s 11 r 0 = ((a - n + 1 : Nat) : Int) → (∀ j, j < kk → s 12 0 j = s2 12 0 j) → N / 65536 ^ kk = vB 65536 (n_win s r kk) (a - n + 1 - kk) * δ + vB 65536 (n_win s 0 kk) (a + 1 - kk) → vB 65536 (n_win s 0 kk) (a + 1 - kk) < δ → V X (0, 0) w 97 [(7, .int (iI ((kk : Int) - 1))), (5, .int (iI ((n : Int)))), (4, .int (iI ((up : Int)))), (0, .ref (w.1 13 0)), (1, .ref (w.1 14 i)), (2, .ref (w.1 14 o)), (3, .ref (w.1 14 r))] s [] := by
      intro N δ a n s2 hAN2 hF2 hNa ha9 hn1 hna hn8 hs1n hδ hH0 hs2N hmd hdv kk
      have hd1 := hAN2 1
      have hdl : δ < 65536 ^ n := by rw [← hδ]; exact vB_lt (fun j _ => n_dg_lt hd1 j)
      have hδg : ∀ j, j < n → s2 12 1 j = (n_dgt δ j : Int) := fun j hj => by rw [← n_dgt_WN hd1 hδ j, if_pos hj]
      have hδn : vB 65536 (n_dgt δ) n = δ := n_dgt_all hdl
      induction kk with
      | zero =>
        intro s hkk hds hdr hfr hsr hag hval hlt
        rw [Nat.pow_zero, Nat.div_one, Nat.sub_zero, Nat.sub_zero, n_win_0, n_win_0] at hval
        rw [Nat.sub_zero, n_win_0] at hlt
        have hq : vB 65536 (fN s r) (a - n + 1) = N / δ := (dm_of hval hlt).1.symm
        have hr0 : vB 65536 (fN s 0) (a + 1) = N % δ := (dm_of hval hlt).2.symm
        have hr9 : vB 65536 (fN s 0) n = N % δ := by rw [← hr0]; exact (n_vB_cut (fun j _ => n_dg_lt hds j) (by omega) (Nat.lt_trans hlt hdl)).1
        refine v_iload hX 0 rfl (atL dAX8_divide_0 51 rfl) ?_
        refine v_if_lt hX ⟨by omega, by omega⟩ (tgt := 427) (atL dAX8_divide_0 52 rfl) (by decide) (fun h99 => ?_) (fun h99 => absurd h99 (by omega))
        refine v_aload_n hX 6 rfl (atL dAX8_divide_3 52 rfl) ?_
        refine v_callN hX (As := []) (rest := []) (c_X7_cut (xl X) w s r hr hdr (a - n + 1) (N / δ) hsr (by omega) hq) lk_X8_181 hr (fun _ => rfl) rfl rfl rfl (by rw [hR]; exact ⟨Nat.le_of_ble_eq_true rfl, Nat.le_of_ble_eq_true rfl⟩) ⟨Nat.zero_le _, Nat.zero_le _⟩ rfl (Nat.le_of_ble_eq_true rfl) (atL dAX8_divide_3 53 rfl) (fun _ s4 h4 => ?_)
        obtain ⟨h4a, h4f⟩ := h4
        have hd40 : NDg s4 0 := hds.fr h4f (by simp)
        show V X _ w _ _ s4 []
        refine v_aload_n hX 3 rfl (atL dAX8_divide_3 54 rfl) ?_
        refine gf_X8_10 hX hk0 (atL dAX8_divide_3 55 rfl) ?_
        refine v_iload hX 1 rfl (atL dAX8_divide_3 56 rfl) ?_
        refine pf_X8_164 hX (hQ 0 (by simp [mn, tp])) (atL dAX8_divide_3 57 rfl) ?_
        refine v_aload_n hX 3 rfl (atL dAX8_divide_3 58 rfl) ?_
        refine gf_X8_10 hX hk0 (atL dAX8_divide_3 59 rfl) ?_
        refine v_callN hX (As := []) (rest := []) (c_X7_cut (xl X) w (su s4 11 0 0 ((n : Int))) 0 (hQ 0 (by simp [mn, tp])) (fun j => by rw [su_c (by decide)]; exact hd40 j) n (N % δ) su_s (by omega) (by rw [← hr9]; exact vB_congr (fun j _ => by show (su s4 11 0 0 (n : Int) 12 0 j).toNat = (s 12 0 j).toNat; rw [su_c (by decide), h4f 12 0 (by simp)]))) lk_X8_181 (hQ 0 (by simp [mn, tp])) (fun _ => rfl) rfl rfl rfl (by rw [hR]; exact ⟨Nat.le_of_ble_eq_true rfl, Nat.le_of_ble_eq_true rfl⟩) ⟨Nat.zero_le _, Nat.zero_le _⟩ rfl (Nat.le_of_ble_eq_true rfl) (atL dAX8_divide_4 0 rfl) (fun _ s5 h5 => ?_)
        obtain ⟨h5a, h5f⟩ := h5
        show V X _ w _ _ s5 []
        refine v_iconst hX (atL dAX8_divide_4 1 rfl) ?_
        refine v_istore hX (lv' := [(7, .int (iI (0))), (5, .int (iI ((n : Int)))), (4, .int (iI ((up : Int)))), (0, .ref (w.1 13 0)), (1, .ref (w.1 14 i)), (2, .ref (w.1 14 o)), (3, .ref (w.1 14 r))]) (Nat.le_of_ble_eq_true rfl) rfl (atL dAX8_divide_4 2 rfl) ?_
        refine v_sub (lv' := [(7, .int (iI (0))), (4, .int (iI ((up : Int)))), (0, .ref (w.1 13 0)), (1, .ref (w.1 14 i)), (2, .ref (w.1 14 o)), (3, .ref (w.1 14 r))]) [0, 2, 3, 4, 5, 6] rfl ?_
        obtain ⟨b, hb, hb8, hbd, hbt, hbv⟩ := h5a
        have hrb := n_used_lt_pow hbd hbv (Nat.le_refl b)
        have hfT : Fr [(11, i), (12, i), (11, r), (12, r), (11, 0), (12, 0), (11, 1), (12, 1)] σ s5 := ((((hF2.mono (by simp)).tr' (hfr.mono (by simp))).tr' (h4f.mono (by simp))).tr' (Fr.su (by simp))).tr' (h5f.mono (by simp))
        have h4b : NN s5 r (N / δ) := nm.fr (nm.fr h4a (l := [(11, 0)]) (Fr.su (by simp)) (by simp; omega) (by simp)) h5f (by simp; omega) (by simp)
        have hdi5 : NDg s5 i := by intro j; rw [h5f 12 i (by simp), su_c (by decide), h4f 12 i (by simp), hfr 12 i (by simp; omega)]; exact hAN2 i j
        refine copy (N % δ) b s5 hb hb8 hrb (fun j hj => by rw [← n_dgt_WN hbd hbv j, if_pos hj]) (fun σ' g1 g2 => hret () σ' ⟨by rw [hmd]; exact g1, by rw [hdv]; exact nm.fr h4b g2 (by simp; omega) (by simp; omega), ?_, hfT.tr' (g2.mono (by simp))⟩) b 0 s5 (by omega) (fun j hj => absurd hj (by omega)) hdi5 Fr.rf
        refine hAN.of (hfT.tr' (g2.mono (by simp))) (fun q hq => ?_)
        simp at hq
        rcases hq with e | e | e | e <;> subst e
        · exact NN.dg g1
        · exact NN.dg (nm.fr h4b g2 (by simp; omega) (by simp; omega))
        · intro j; rw [g2 12 0 (by simp; omega)]; exact hbd j
        · intro j; rw [g2 12 1 (by simp; omega), h5f 12 1 (by simp), su_c (by decide), h4f 12 1 (by simp), hfr 12 1 (by simp; omega)]; exact hd1 j
      | succ kk ih =>
        intro s hkk hds hdr hfr hsr hag hval hlt
        rw [show ((kk + 1 : Nat) : Int) - 1 = (kk : Int) by omega]
        have hdN : s 12 0 kk = (n_dgt N kk : Int) := by rw [hag kk (by omega)]; exact hs2N kk (by omega)
        have hW1 : vB 65536 (n_win s 0 kk) (a + 1 - kk) = n_dgt N kk + vB 65536 (n_win s 0 (kk + 1)) (a + 1 - (kk + 1)) * 65536 := by rw [show a + 1 - kk = (a + 1 - (kk + 1)) + 1 by omega, n_win_1, hdN]; rfl
        have hdgk := n_dgt_lt N kk
        have hWB : vB 65536 (n_win s 0 kk) (a + 1 - kk) < δ * 65536 := by rw [hW1]; have : (vB 65536 (n_win s 0 (kk + 1)) (a + 1 - (kk + 1)) + 1) * 65536 ≤ δ * 65536 := Nat.mul_le_mul_right _ hlt; omega
        have hWP : vB 65536 (n_win s 0 kk) (a + 1 - kk) < 65536 ^ (n + 1) := by rw [Nat.pow_succ]; exact Nat.lt_of_lt_of_le hWB (Nat.mul_le_mul_right _ (Nat.le_of_lt hdl))
        obtain ⟨hcut, hzz⟩ := n_vB_cut (fun j _ => n_win_lt hds kk j) (show n + 1 ≤ a + 1 - kk by omega) hWP
        rw [← hcut] at hWB hW1
        have ht1 : ∀ j, j < n → s 12 1 j = (n_dgt δ j : Int) := fun j hj => by rw [hfr 12 1 (by simp; omega)]; exact hδg j hj
        obtain ⟨W, hWe⟩ : ∃ q, vB 65536 (n_win s 0 kk) (n + 1) = q := ⟨_, rfl⟩
        have hWi : ((vB 65536 (n_win s 0 kk) n : Nat) : Int) + s 12 0 (kk + n) * ((65536 ^ n : Nat) : Int) = (W : Int) := by rw [← hWe, n_win_suc hds]
        have hdkn := hds (kk + n)
        obtain ⟨wn, hwn⟩ : ∃ q : Nat, s 12 0 (kk + n) = (q : Int) := ⟨(s 12 0 (kk + n)).toNat, by omega⟩
        rw [hwn] at hWi hdkn
        have wl : ∀ (g : Nat) (C : Int) (t : St), g ≤ 65535 → -65536 ≤ C → C ≤ 65536 → NDg t 0 → Fr [(12, 0)] s t → (∀ q, (q < kk ∨ kk + n < q) → t 12 0 q = s 12 0 q) → t 12 0 (kk + n) = C % 65536 → ((vB 65536 (n_win t 0 kk) n : Nat) : Int) + C * ((65536 ^ n : Nat) : Int) = (W : Int) - (g : Int) * (δ : Int) → W < (g + 1) * δ → V X (0, 0) w 294 [(12, .long (jI (C))), (10, .long (jI ((g : Int)))), (7, .int (iI ((kk : Int)))), (5, .int (iI ((n : Int)))), (4, .int (iI ((up : Int)))), (0, .ref (w.1 13 0)), (1, .ref (w.1 14 i)), (2, .ref (w.1 14 o)), (3, .ref (w.1 14 r))] t [] := by
          intro g
          induction g with
          | zero =>
            intro C t hg65 hC0 hC9 hdt hft hagt htop hv hWg
            have hX0 := vB_lt (b := 65536) (f := n_win t 0 kk) (n := n) (fun j _ => n_win_lt hdt kk j)
            have hCp : 0 ≤ C := by
              rcases Int.lt_or_le C 0 with c1 | c1
              · exfalso
                have : C * ((65536 ^ n : Nat) : Int) ≤ (-1) * ((65536 ^ n : Nat) : Int) := Int.mul_le_mul_of_nonneg_right (by omega) (by omega)
                rw [show ((0 : Nat) : Int) * (δ : Int) = 0 from Int.zero_mul _] at hv
                omega
              · exact c1
            refine v_lload hX 0 rfl (atL dAX8_divide_2 40 rfl) ?_
            refine v_lconst hX (atL dAX8_divide_2 41 rfl) ?_
            show V X _ w _ _ _ (.long (jI (0)) :: _)
            refine v_lcmp_ge hX ⟨by omega, by omega⟩ ⟨by omega, by omega⟩ (atL dAX8_divide_2 42 rfl) (tgt := 411) (atL dAX8_divide_2 43 rfl) (by decide) (fun h297 => ?_) (fun h297 => absurd hCp (by omega))
            refine v_aload_n hX 8 rfl (atL dAX8_divide_3 44 rfl) ?_
            refine gf_X8_175 hX hr (atL dAX8_divide_3 45 rfl) ?_
            refine v_iload hX 2 rfl (atL dAX8_divide_3 46 rfl) ?_
            refine v_lload hX 1 rfl (atL dAX8_divide_3 47 rfl) ?_
            refine v_l2i hX (jI_l2i _) (atL dAX8_divide_3 48 rfl) ?_
            refine v_iast hX (c := 12) kk hr2 (by decide) (fun _ _ => rfl) rfl (by omega) (by decide) (atL dAX8_divide_3 49 rfl) ?_
            refine v_iinc hX (lv' := [(7, .int (iI (((kk : Int)) + (-1)))), (12, .long (jI (C))), (10, .long (jI (((0 : Nat) : Int)))), (5, .int (iI ((n : Int)))), (4, .int (iI ((up : Int)))), (0, .ref (w.1 13 0)), (1, .ref (w.1 14 i)), (2, .ref (w.1 14 o)), (3, .ref (w.1 14 r))]) 2 rfl (iI_add _ _) (Nat.le_of_ble_eq_true rfl) rfl (atL dAX8_divide_3 50 rfl) ?_
            refine v_goto hX (tgt := 97) (atL dAX8_divide_3 51 rfl) (by decide) ?_
            refine v_sub (lv' := [(7, .int (iI (((kk : Int)) + (-1)))), (5, .int (iI ((n : Int)))), (4, .int (iI ((up : Int)))), (0, .ref (w.1 13 0)), (1, .ref (w.1 14 i)), (2, .ref (w.1 14 o)), (3, .ref (w.1 14 r))]) [0, 3, 4, 5, 6, 7, 8] rfl ?_
            rw [show (kk : Int) + (-1) = (kk : Int) - 1 by omega]
            have hX := vB_lt (b := 65536) (f := n_win t 0 kk) (n := n) (fun j _ => n_win_lt hdt kk j)
            have hgd : ((0 : Nat) : Int) * (δ : Int) = (((0) * δ : Nat) : Int) := (Int.natCast_mul _ _).symm
            rw [hgd] at hv
            rw [Nat.add_mul (0) 1 δ, Nat.one_mul] at hWg
            have hC1 : C = 0 := by
              rcases Int.lt_or_le C 1 with c1 | c1
              · omega
              · exfalso
                have : (1 : Int) * ((65536 ^ n : Nat) : Int) ≤ C * ((65536 ^ n : Nat) : Int) := Int.mul_le_mul_of_nonneg_right c1 (by omega)
                omega
            subst hC1
            rw [Int.zero_mul, Int.add_zero] at hv
            have hw1 : vB 65536 (n_win t 0 kk) (n + 1) = vB 65536 (n_win t 0 kk) n := by rw [vB_suc]; show _ + (t 12 0 (kk + n)).toNat * _ = _; rw [htop]; show _ + 0 * _ = _; rw [Nat.zero_mul, Nat.add_zero]
            have ho3 : su t 12 r kk ((0 : Nat) : Int) 12 0 = t 12 0 := su_ri (by omega)
            have hwo : ∀ M, vB 65536 (n_win (su t 12 r kk ((0 : Nat) : Int)) 0 kk) M = vB 65536 (n_win t 0 kk) M := fun M => vB_congr (fun j _ => by show (su t 12 r kk ((0 : Nat) : Int) 12 0 (kk + j)).toNat = (t 12 0 (kk + j)).toNat; rw [ho3])
            have hpst := n_win_paste (s := s) (s' := t) (show n + 1 ≤ a + 1 - kk by omega) hzz (fun j hj => hagt j (by omega))
            have h7e : t 12 r = s 12 r := hft 12 r (by simp; omega)
            refine ih _ (by omega) (by intro j; rw [ho3]; exact hdt j) (NDg.su (by intro j; rw [h7e]; exact hdr j) ⟨by omega, by omega⟩) ((hfr.tr' (hft.mono (by simp))).tr' (Fr.su (by simp))) (by rw [su_c (by decide), hft 11 r (by simp)]; exact hsr) (fun j hj => by rw [ho3, hagt j (by omega)]; exact hag j (by omega)) ?_ (by rw [hwo, hpst, hw1]; omega)
            rw [hwo, hpst, hw1, show a - n + 1 - kk = (a - n + 1 - (kk + 1)) + 1 by omega, n_win_1, su_s, Int.toNat_natCast]
            rw [vB_congr (f := n_win (su t 12 r kk ((0 : Nat) : Int)) r (kk + 1)) (g := n_win s r (kk + 1)) (fun j _ => by show (su t 12 r kk ((0 : Nat) : Int) 12 r (kk + 1 + j)).toNat = (s 12 r (kk + 1 + j)).toNat; rw [su_j (by omega), h7e])]
            rw [n_dgt_step N kk]
            exact n_red_step hval hW1 (by omega)
          | succ g ihg =>
            intro C t hg65 hC0 hC9 hdt hft hagt htop hv hWg
            have al : C < 0 → ∀ (d j : Nat) (b : Int) (t1 : St), j + d = n → 0 ≤ b → b ≤ 1 → NDg t1 0 → Fr [(12, 0)] t t1 → (∀ q, (q < kk ∨ kk + j ≤ q) → t1 12 0 q = t 12 0 q) → ((vB 65536 (n_win t1 0 kk) j : Nat) : Int) + b * ((65536 ^ j : Nat) : Int) = ((vB 65536 (n_win t 0 kk) j : Nat) : Int) + ((vB 65536 (n_dgt δ) j : Nat) : Int) → V X (0, 0) w 307 [(15, .int (iI ((j : Int)))), (14, .int (iI (b))), (12, .long (jI (C))), (10, .long (jI (((g + 1 : Nat) : Int)))), (7, .int (iI ((kk : Int)))), (5, .int (iI ((n : Int)))), (4, .int (iI ((up : Int)))), (0, .ref (w.1 13 0)), (1, .ref (w.1 14 i)), (2, .ref (w.1 14 o)), (3, .ref (w.1 14 r))] t1 [] := by
              intro hCn d
              induction d with
              | zero =>
                intro j b t1 hj hb0 hb1 hd1t hf1 ha1 hv1
                obtain rfl : j = n := by omega
                refine v_iload hX 0 rfl (atL dAX8_divide_2 48 rfl) ?_
                refine v_iload hX 5 rfl (atL dAX8_divide_2 49 rfl) ?_
                refine v_icmp_ge hX ⟨by omega, by omega⟩ ⟨by omega, by omega⟩ (tgt := 374) (atL dAX8_divide_2 50 rfl) (by decide) (fun h311 => ?_) (fun h311 => absurd h311 (by omega))
                refine v_lload hX 2 rfl (atL dAX8_divide_3 23 rfl) ?_
                refine v_iload hX 1 rfl (atL dAX8_divide_3 24 rfl) ?_
                refine v_i2l hX (iI_i2l ⟨by omega, by omega⟩) (atL dAX8_divide_3 25 rfl) ?_
                refine v_ladd hX (jI_add _ _) (atL dAX8_divide_3 26 rfl) ?_
                refine v_lstore hX (lv' := [(12, .long (jI (C + b))), (15, .int (iI ((j : Int)))), (14, .int (iI (b))), (10, .long (jI (((g + 1 : Nat) : Int)))), (7, .int (iI ((kk : Int)))), (5, .int (iI ((j : Int)))), (4, .int (iI ((up : Int)))), (0, .ref (w.1 13 0)), (1, .ref (w.1 14 i)), (2, .ref (w.1 14 o)), (3, .ref (w.1 14 r))]) (Nat.le_of_ble_eq_true rfl) rfl (atL dAX8_divide_3 27 rfl) ?_
                refine v_aload_n hX 7 rfl (atL dAX8_divide_3 28 rfl) ?_
                refine gf_X8_10 hX hk0 (atL dAX8_divide_3 29 rfl) ?_
                refine gf_X8_175 hX (hQ 0 (by simp [mn, tp])) (atL dAX8_divide_3 30 rfl) ?_
                refine v_iload hX 4 rfl (atL dAX8_divide_3 31 rfl) ?_
                refine v_iload hX 5 rfl (atL dAX8_divide_3 32 rfl) ?_
                refine v_iadd hX (iI_add _ _) (atL dAX8_divide_3 33 rfl) ?_
                rw [show (((kk : Int)) + ((j : Int))) = ((kk + j : Nat) : Int) from (by omega)]
                refine v_lload hX 0 rfl (atL dAX8_divide_3 34 rfl) ?_
                refine v_ldc2 hX (r := 65535) wd_1231 (by decide +kernel) (atL dAX8_divide_3 35 rfl) ?_
                refine v_land hX (r := jI ((C + b) % 65536)) (jI_mask _ 16 (by decide)) (atL dAX8_divide_3 36 rfl) ?_
                refine v_l2i hX (jI_l2i _) (atL dAX8_divide_3 37 rfl) ?_
                refine v_iast hX (c := 12) (kk + j) (hQ5 0 (by simp [mn, tp])) (by decide) (fun _ _ => rfl) rfl (by omega) (by decide) (atL dAX8_divide_3 38 rfl) ?_
                refine v_lload hX 3 rfl (atL dAX8_divide_3 39 rfl) ?_
                refine v_lconst hX (atL dAX8_divide_3 40 rfl) ?_
                show V X _ w _ _ _ (.long (jI (1)) :: _)
                refine v_lsub hX (jI_sub _ _) (atL dAX8_divide_3 41 rfl) ?_
                refine v_lstore hX (lv' := [(10, .long (jI ((((g + 1 : Nat) : Int)) - 1))), (12, .long (jI (C + b))), (15, .int (iI ((j : Int)))), (14, .int (iI (b))), (7, .int (iI ((kk : Int)))), (5, .int (iI ((j : Int)))), (4, .int (iI ((up : Int)))), (0, .ref (w.1 13 0)), (1, .ref (w.1 14 i)), (2, .ref (w.1 14 o)), (3, .ref (w.1 14 r))]) (Nat.le_of_ble_eq_true rfl) rfl (atL dAX8_divide_3 42 rfl) ?_
                refine v_goto hX (tgt := 294) (atL dAX8_divide_3 43 rfl) (by decide) ?_
                refine v_sub (lv' := [(12, .long (jI (C + b))), (10, .long (jI ((((g + 1 : Nat) : Int)) - 1))), (7, .int (iI ((kk : Int)))), (5, .int (iI ((j : Int)))), (4, .int (iI ((up : Int)))), (0, .ref (w.1 13 0)), (1, .ref (w.1 14 i)), (2, .ref (w.1 14 o)), (3, .ref (w.1 14 r))]) [1, 0, 4, 5, 6, 7, 8, 9, 10] rfl ?_
                rw [show ((g + 1 : Nat) : Int) - 1 = (g : Int) by omega]
                rw [hδn] at hv1
                have hwe : vB 65536 (n_win (su t1 12 0 (kk + j) ((C + b) % 65536)) 0 kk) j = vB 65536 (n_win t1 0 kk) j := n_win_su (Nat.le_refl j)
                refine ihg (C + b) _ (by omega) (by omega) (by omega) (hd1t.su ⟨by omega, by omega⟩) ((hft.tr' hf1).tr' (Fr.su (by simp))) (fun q hq => by rw [su_j (by omega), ha1 q (by omega)]; exact hagt q hq) su_s ?_ ?_
                · rw [hwe]
                  have e1 : (C + b) * ((65536 ^ j : Nat) : Int) = C * ((65536 ^ j : Nat) : Int) + b * ((65536 ^ j : Nat) : Int) := Int.add_mul _ _ _
                  have e2 : ((g + 1 : Nat) : Int) * (δ : Int) = (g : Int) * (δ : Int) + (δ : Int) := by rw [Int.natCast_add, Int.add_mul]; show _ + 1 * (δ : Int) = _; rw [Int.one_mul]
                  rw [e2] at hv
                  rw [e1]
                  omega
                · refine lt_back (W := W) hv hCn ?_
                  exact vB_lt (fun q _ => n_win_lt hdt kk q)
              | succ d ihd =>
                intro j b t1 hj hb0 hb1 hd1t hf1 ha1 hv1
                have hdj := hd1t (kk + j)
                have hfj : t1 12 0 (kk + j) = t 12 0 (kk + j) := ha1 (kk + j) (by omega)
                have htj : t1 12 1 j = (n_dgt δ j : Int) := by rw [hf1 12 1 (by simp), hft 12 1 (by simp)]; exact ht1 j (by omega)
                have hlj := n_dgt_lt δ j
                obtain ⟨f, hf9⟩ : ∃ q : Int, t1 12 0 (kk + j) = q := ⟨_, rfl⟩
                rw [hf9] at hdj hfj
                refine v_iload hX 0 rfl (atL dAX8_divide_2 48 rfl) ?_
                refine v_iload hX 5 rfl (atL dAX8_divide_2 49 rfl) ?_
                refine v_icmp_ge hX ⟨by omega, by omega⟩ ⟨by omega, by omega⟩ (tgt := 374) (atL dAX8_divide_2 50 rfl) (by decide) (fun h311 => absurd h311 (by omega)) (fun h311 => ?_)
                refine v_iload hX 1 rfl (atL dAX8_divide_2 51 rfl) ?_
                refine v_aload_n hX 7 rfl (atL dAX8_divide_2 52 rfl) ?_
                refine gf_X8_10 hX hk0 (atL dAX8_divide_2 53 rfl) ?_
                refine gf_X8_175 hX (hQ 0 (by simp [mn, tp])) (atL dAX8_divide_2 54 rfl) ?_
                refine v_iload hX 4 rfl (atL dAX8_divide_2 55 rfl) ?_
                refine v_iload hX 0 rfl (atL dAX8_divide_2 56 rfl) ?_
                refine v_iadd hX (iI_add _ _) (atL dAX8_divide_2 57 rfl) ?_
                rw [show (((kk : Int)) + ((j : Int))) = ((kk + j : Nat) : Int) from (by omega)]
                refine v_iald hX (r := iI (f)) (kk + j) (hQ5 0 (by simp [mn, tp])) (fun _ => rfl) rfl (by omega) (by decide) (congrArg iI hf9) (atL dAX8_divide_2 58 rfl) ?_
                refine v_aload_n hX 7 rfl (atL dAX8_divide_2 59 rfl) ?_
                refine gf_X8_16 hX hk0 (atL dAX8_divide_3 0 rfl) ?_
                refine gf_X8_175 hX (hQ 1 (by simp [mn, tp])) (atL dAX8_divide_3 1 rfl) ?_
                refine v_iload hX 0 rfl (atL dAX8_divide_3 2 rfl) ?_
                refine v_iald hX (r := iI ((n_dgt δ j : Int))) j (hQ5 1 (by simp [mn, tp])) (fun _ => rfl) rfl (by omega) (by decide) (congrArg iI htj) (atL dAX8_divide_3 3 rfl) ?_
                refine v_iadd hX (iI_add _ _) (atL dAX8_divide_3 4 rfl) ?_
                refine v_iadd hX (iI_add _ _) (atL dAX8_divide_3 5 rfl) ?_
                refine v_istore hX (lv' := [(14, .int (iI (b + (f + ((n_dgt δ j : Int)))))), (15, .int (iI ((j : Int)))), (12, .long (jI (C))), (10, .long (jI (((g + 1 : Nat) : Int)))), (7, .int (iI ((kk : Int)))), (5, .int (iI ((n : Int)))), (4, .int (iI ((up : Int)))), (0, .ref (w.1 13 0)), (1, .ref (w.1 14 i)), (2, .ref (w.1 14 o)), (3, .ref (w.1 14 r))]) (Nat.le_of_ble_eq_true rfl) rfl (atL dAX8_divide_3 6 rfl) ?_
                refine v_aload_n hX 7 rfl (atL dAX8_divide_3 7 rfl) ?_
                refine gf_X8_10 hX hk0 (atL dAX8_divide_3 8 rfl) ?_
                refine gf_X8_175 hX (hQ 0 (by simp [mn, tp])) (atL dAX8_divide_3 9 rfl) ?_
                refine v_iload hX 4 rfl (atL dAX8_divide_3 10 rfl) ?_
                refine v_iload hX 1 rfl (atL dAX8_divide_3 11 rfl) ?_
                refine v_iadd hX (iI_add _ _) (atL dAX8_divide_3 12 rfl) ?_
                rw [show (((kk : Int)) + ((j : Int))) = ((kk + j : Nat) : Int) from (by omega)]
                refine v_iload hX 0 rfl (atL dAX8_divide_3 13 rfl) ?_
                refine v_ldc hX (r := 65535) wd_1230 (by decide +kernel) (atL dAX8_divide_3 14 rfl) ?_
                refine v_iand hX (r := iI ((b + (f + ((n_dgt δ j : Int)))) % 65536)) (iI_mask _ 16 (by decide)) (atL dAX8_divide_3 15 rfl) ?_
                refine v_iast hX (c := 12) (kk + j) (hQ5 0 (by simp [mn, tp])) (by decide) (fun _ _ => rfl) rfl (by omega) (by decide) (atL dAX8_divide_3 16 rfl) ?_
                refine v_iload hX 0 rfl (atL dAX8_divide_3 17 rfl) ?_
                refine v_bipush hX (by decide +kernel) (atL dAX8_divide_3 18 rfl) ?_
                refine v_ishr hX (r := iI ((b + (f + ((n_dgt δ j : Int)))) / 65536)) (iI_shr ⟨by omega, by omega⟩ 16 (by decide)) (atL dAX8_divide_3 19 rfl) ?_
                refine v_istore hX (lv' := [(14, .int (iI ((b + (f + ((n_dgt δ j : Int)))) / 65536))), (15, .int (iI ((j : Int)))), (12, .long (jI (C))), (10, .long (jI (((g + 1 : Nat) : Int)))), (7, .int (iI ((kk : Int)))), (5, .int (iI ((n : Int)))), (4, .int (iI ((up : Int)))), (0, .ref (w.1 13 0)), (1, .ref (w.1 14 i)), (2, .ref (w.1 14 o)), (3, .ref (w.1 14 r))]) (Nat.le_of_ble_eq_true rfl) rfl (atL dAX8_divide_3 20 rfl) ?_
                refine v_iinc hX (lv' := [(15, .int (iI (((j : Int)) + 1))), (14, .int (iI ((b + (f + ((n_dgt δ j : Int)))) / 65536))), (12, .long (jI (C))), (10, .long (jI (((g + 1 : Nat) : Int)))), (7, .int (iI ((kk : Int)))), (5, .int (iI ((n : Int)))), (4, .int (iI ((up : Int)))), (0, .ref (w.1 13 0)), (1, .ref (w.1 14 i)), (2, .ref (w.1 14 o)), (3, .ref (w.1 14 r))]) 1 rfl (iI_add _ _) (Nat.le_of_ble_eq_true rfl) rfl (atL dAX8_divide_3 21 rfl) ?_
                refine v_goto hX (tgt := 307) (atL dAX8_divide_3 22 rfl) (by decide) ?_
                refine v_sub (lv' := [(15, .int (iI (((j : Int)) + 1))), (14, .int (iI ((b + (f + ((n_dgt δ j : Int)))) / 65536))), (12, .long (jI (C))), (10, .long (jI (((g + 1 : Nat) : Int)))), (7, .int (iI ((kk : Int)))), (5, .int (iI ((n : Int)))), (4, .int (iI ((up : Int)))), (0, .ref (w.1 13 0)), (1, .ref (w.1 14 i)), (2, .ref (w.1 14 o)), (3, .ref (w.1 14 r))]) [0, 1, 2, 3, 4, 5, 6, 7, 8, 9, 10] rfl ?_
                rw [show (j : Int) + 1 = ((j + 1 : Nat) : Int) by omega]
                refine ihd (j + 1) _ _ (by omega) (by omega) (by omega) (hd1t.su ⟨by omega, by omega⟩) (hf1.tr' (Fr.su (by simp))) (fun q hq => by rw [su_j (by omega)]; exact ha1 q (by omega)) ?_
                have e := n_put_step (f := f) (d := (n_dgt δ j : Int)) (s := b + (f + (n_dgt δ j : Int))) (c := b) (r := (b + (f + (n_dgt δ j : Int))) % 65536) (q' := (b + (f + (n_dgt δ j : Int))) / 65536) hv1 (by omega) (by omega)
                rw [n_win_suS (by omega), n_pS, e, n_win_suc hdt, n_dgt_suc, ← hfj]
            refine v_lload hX 0 rfl (atL dAX8_divide_2 40 rfl) ?_
            refine v_lconst hX (atL dAX8_divide_2 41 rfl) ?_
            show V X _ w _ _ _ (.long (jI (0)) :: _)
            refine v_lcmp_ge hX ⟨by omega, by omega⟩ ⟨by omega, by omega⟩ (atL dAX8_divide_2 42 rfl) (tgt := 411) (atL dAX8_divide_2 43 rfl) (by decide) (fun h297 => ?_) (fun h297 => ?_)
            · refine v_aload_n hX 8 rfl (atL dAX8_divide_3 44 rfl) ?_
              refine gf_X8_175 hX hr (atL dAX8_divide_3 45 rfl) ?_
              refine v_iload hX 2 rfl (atL dAX8_divide_3 46 rfl) ?_
              refine v_lload hX 1 rfl (atL dAX8_divide_3 47 rfl) ?_
              refine v_l2i hX (jI_l2i _) (atL dAX8_divide_3 48 rfl) ?_
              refine v_iast hX (c := 12) kk hr2 (by decide) (fun _ _ => rfl) rfl (by omega) (by decide) (atL dAX8_divide_3 49 rfl) ?_
              refine v_iinc hX (lv' := [(7, .int (iI (((kk : Int)) + (-1)))), (12, .long (jI (C))), (10, .long (jI (((g + 1 : Nat) : Int)))), (5, .int (iI ((n : Int)))), (4, .int (iI ((up : Int)))), (0, .ref (w.1 13 0)), (1, .ref (w.1 14 i)), (2, .ref (w.1 14 o)), (3, .ref (w.1 14 r))]) 2 rfl (iI_add _ _) (Nat.le_of_ble_eq_true rfl) rfl (atL dAX8_divide_3 50 rfl) ?_
              refine v_goto hX (tgt := 97) (atL dAX8_divide_3 51 rfl) (by decide) ?_
              refine v_sub (lv' := [(7, .int (iI (((kk : Int)) + (-1)))), (5, .int (iI ((n : Int)))), (4, .int (iI ((up : Int)))), (0, .ref (w.1 13 0)), (1, .ref (w.1 14 i)), (2, .ref (w.1 14 o)), (3, .ref (w.1 14 r))]) [0, 3, 4, 5, 6, 7, 8] rfl ?_
              rw [show (kk : Int) + (-1) = (kk : Int) - 1 by omega]
              have hX := vB_lt (b := 65536) (f := n_win t 0 kk) (n := n) (fun j _ => n_win_lt hdt kk j)
              have hgd : ((g + 1 : Nat) : Int) * (δ : Int) = (((g + 1) * δ : Nat) : Int) := (Int.natCast_mul _ _).symm
              rw [hgd] at hv
              rw [Nat.add_mul (g + 1) 1 δ, Nat.one_mul] at hWg
              have hC1 : C = 0 := by
                rcases Int.lt_or_le C 1 with c1 | c1
                · omega
                · exfalso
                  have : (1 : Int) * ((65536 ^ n : Nat) : Int) ≤ C * ((65536 ^ n : Nat) : Int) := Int.mul_le_mul_of_nonneg_right c1 (by omega)
                  omega
              subst hC1
              rw [Int.zero_mul, Int.add_zero] at hv
              have hw1 : vB 65536 (n_win t 0 kk) (n + 1) = vB 65536 (n_win t 0 kk) n := by rw [vB_suc]; show _ + (t 12 0 (kk + n)).toNat * _ = _; rw [htop]; show _ + 0 * _ = _; rw [Nat.zero_mul, Nat.add_zero]
              have ho3 : su t 12 r kk ((g + 1 : Nat) : Int) 12 0 = t 12 0 := su_ri (by omega)
              have hwo : ∀ M, vB 65536 (n_win (su t 12 r kk ((g + 1 : Nat) : Int)) 0 kk) M = vB 65536 (n_win t 0 kk) M := fun M => vB_congr (fun j _ => by show (su t 12 r kk ((g + 1 : Nat) : Int) 12 0 (kk + j)).toNat = (t 12 0 (kk + j)).toNat; rw [ho3])
              have hpst := n_win_paste (s := s) (s' := t) (show n + 1 ≤ a + 1 - kk by omega) hzz (fun j hj => hagt j (by omega))
              have h7e : t 12 r = s 12 r := hft 12 r (by simp; omega)
              refine ih _ (by omega) (by intro j; rw [ho3]; exact hdt j) (NDg.su (by intro j; rw [h7e]; exact hdr j) ⟨by omega, by omega⟩) ((hfr.tr' (hft.mono (by simp))).tr' (Fr.su (by simp))) (by rw [su_c (by decide), hft 11 r (by simp)]; exact hsr) (fun j hj => by rw [ho3, hagt j (by omega)]; exact hag j (by omega)) ?_ (by rw [hwo, hpst, hw1]; omega)
              rw [hwo, hpst, hw1, show a - n + 1 - kk = (a - n + 1 - (kk + 1)) + 1 by omega, n_win_1, su_s, Int.toNat_natCast]
              rw [vB_congr (f := n_win (su t 12 r kk ((g + 1 : Nat) : Int)) r (kk + 1)) (g := n_win s r (kk + 1)) (fun j _ => by show (su t 12 r kk ((g + 1 : Nat) : Int) 12 r (kk + 1 + j)).toNat = (s 12 r (kk + 1 + j)).toNat; rw [su_j (by omega), h7e])]
              rw [n_dgt_step N kk]
              exact n_red_step hval hW1 (by omega)
            · refine v_iconst hX (atL dAX8_divide_2 44 rfl) ?_
              refine v_istore hX (lv' := [(14, .int (iI (0))), (12, .long (jI (C))), (10, .long (jI (((g + 1 : Nat) : Int)))), (7, .int (iI ((kk : Int)))), (5, .int (iI ((n : Int)))), (4, .int (iI ((up : Int)))), (0, .ref (w.1 13 0)), (1, .ref (w.1 14 i)), (2, .ref (w.1 14 o)), (3, .ref (w.1 14 r))]) (Nat.le_of_ble_eq_true rfl) rfl (atL dAX8_divide_2 45 rfl) ?_
              refine v_iconst hX (atL dAX8_divide_2 46 rfl) ?_
              refine v_istore hX (lv' := [(15, .int (iI (0))), (14, .int (iI (0))), (12, .long (jI (C))), (10, .long (jI (((g + 1 : Nat) : Int)))), (7, .int (iI ((kk : Int)))), (5, .int (iI ((n : Int)))), (4, .int (iI ((up : Int)))), (0, .ref (w.1 13 0)), (1, .ref (w.1 14 i)), (2, .ref (w.1 14 o)), (3, .ref (w.1 14 r))]) (Nat.le_of_ble_eq_true rfl) rfl (atL dAX8_divide_2 47 rfl) ?_
              refine v_sub (lv' := [(15, .int (iI (0))), (14, .int (iI (0))), (12, .long (jI (C))), (10, .long (jI (((g + 1 : Nat) : Int)))), (7, .int (iI ((kk : Int)))), (5, .int (iI ((n : Int)))), (4, .int (iI ((up : Int)))), (0, .ref (w.1 13 0)), (1, .ref (w.1 14 i)), (2, .ref (w.1 14 o)), (3, .ref (w.1 14 r))]) [0, 1, 2, 3, 4, 5, 6, 7, 8, 9, 10] rfl ?_
              refine al (by omega) n 0 0 t (by omega) (by omega) (by omega) hdt Fr.rf (fun q _ => rfl) ?_
              rfl
        have sl : ∀ g : Nat, g ≤ 65535 → W < (g + 1) * δ → ∀ (d j : Nat) (c : Int) (t : St), j + d = n → -65536 ≤ c → c ≤ 0 → NDg t 0 → Fr [(12, 0)] s t → (∀ q, (q < kk ∨ kk + j ≤ q) → t 12 0 q = s 12 0 q) → ((vB 65536 (n_win t 0 kk) j : Nat) : Int) + c * ((65536 ^ j : Nat) : Int) = ((vB 65536 (n_win s 0 kk) j : Nat) : Int) - (g : Int) * ((vB 65536 (n_dgt δ) j : Nat) : Int) → V X (0, 0) w 181 [(14, .int (iI ((j : Int)))), (12, .long (jI (c))), (10, .long (jI ((g : Int)))), (7, .int (iI ((kk : Int)))), (5, .int (iI ((n : Int)))), (4, .int (iI ((up : Int)))), (0, .ref (w.1 13 0)), (1, .ref (w.1 14 i)), (2, .ref (w.1 14 o)), (3, .ref (w.1 14 r))] t [] := by
          intro g hg65 hWg d
          induction d with
          | zero =>
            intro j c t hj hc0 hc9 hdt hft hagt hv
            obtain rfl : j = n := by omega
            have htn : t 12 0 (kk + j) = (wn : Int) := by rw [hagt (kk + j) (by omega)]; exact hwn
            refine v_iload hX 0 rfl (atL dAX8_divide_1 38 rfl) ?_
            refine v_iload hX 4 rfl (atL dAX8_divide_1 39 rfl) ?_
            refine v_icmp_ge hX ⟨by omega, by omega⟩ ⟨by omega, by omega⟩ (tgt := 255) (atL dAX8_divide_1 40 rfl) (by decide) (fun h185 => ?_) (fun h185 => absurd h185 (by omega))
            refine v_lload hX 1 rfl (atL dAX8_divide_2 18 rfl) ?_
            refine v_aload_n hX 6 rfl (atL dAX8_divide_2 19 rfl) ?_
            refine gf_X8_10 hX hk0 (atL dAX8_divide_2 20 rfl) ?_
            refine gf_X8_175 hX (hQ 0 (by simp [mn, tp])) (atL dAX8_divide_2 21 rfl) ?_
            refine v_iload hX 3 rfl (atL dAX8_divide_2 22 rfl) ?_
            refine v_iload hX 4 rfl (atL dAX8_divide_2 23 rfl) ?_
            refine v_iadd hX (iI_add _ _) (atL dAX8_divide_2 24 rfl) ?_
            rw [show (((kk : Int)) + ((j : Int))) = ((kk + j : Nat) : Int) from (by omega)]
            refine v_iald hX (r := iI ((wn : Int))) (kk + j) (hQ5 0 (by simp [mn, tp])) (fun _ => rfl) rfl (by omega) (by decide) (congrArg iI htn) (atL dAX8_divide_2 25 rfl) ?_
            refine v_i2l hX (iI_i2l ⟨by omega, by omega⟩) (atL dAX8_divide_2 26 rfl) ?_
            refine v_ladd hX (jI_add _ _) (atL dAX8_divide_2 27 rfl) ?_
            refine v_lstore hX (lv' := [(12, .long (jI (c + ((wn : Int))))), (14, .int (iI ((j : Int)))), (10, .long (jI ((g : Int)))), (7, .int (iI ((kk : Int)))), (5, .int (iI ((j : Int)))), (4, .int (iI ((up : Int)))), (0, .ref (w.1 13 0)), (1, .ref (w.1 14 i)), (2, .ref (w.1 14 o)), (3, .ref (w.1 14 r))]) (Nat.le_of_ble_eq_true rfl) rfl (atL dAX8_divide_2 28 rfl) ?_
            refine v_aload_n hX 6 rfl (atL dAX8_divide_2 29 rfl) ?_
            refine gf_X8_10 hX hk0 (atL dAX8_divide_2 30 rfl) ?_
            refine gf_X8_175 hX (hQ 0 (by simp [mn, tp])) (atL dAX8_divide_2 31 rfl) ?_
            refine v_iload hX 3 rfl (atL dAX8_divide_2 32 rfl) ?_
            refine v_iload hX 4 rfl (atL dAX8_divide_2 33 rfl) ?_
            refine v_iadd hX (iI_add _ _) (atL dAX8_divide_2 34 rfl) ?_
            rw [show (((kk : Int)) + ((j : Int))) = ((kk + j : Nat) : Int) from (by omega)]
            refine v_lload hX 0 rfl (atL dAX8_divide_2 35 rfl) ?_
            refine v_ldc2 hX (r := 65535) wd_1231 (by decide +kernel) (atL dAX8_divide_2 36 rfl) ?_
            refine v_land hX (r := jI ((c + ((wn : Int))) % 65536)) (jI_mask _ 16 (by decide)) (atL dAX8_divide_2 37 rfl) ?_
            refine v_l2i hX (jI_l2i _) (atL dAX8_divide_2 38 rfl) ?_
            refine v_iast hX (c := 12) (kk + j) (hQ5 0 (by simp [mn, tp])) (by decide) (fun _ _ => rfl) rfl (by omega) (by decide) (atL dAX8_divide_2 39 rfl) ?_
            refine v_sub (lv' := [(12, .long (jI (c + ((wn : Int))))), (10, .long (jI ((g : Int)))), (7, .int (iI ((kk : Int)))), (5, .int (iI ((j : Int)))), (4, .int (iI ((up : Int)))), (0, .ref (w.1 13 0)), (1, .ref (w.1 14 i)), (2, .ref (w.1 14 o)), (3, .ref (w.1 14 r))]) [0, 2, 3, 4, 5, 6, 7, 8, 9] rfl ?_
            rw [hδn] at hv
            refine wl g (c + (wn : Int)) _ hg65 (by omega) (by omega) (hdt.su ⟨by omega, by omega⟩) (hft.tr' (Fr.su (by simp))) (fun q hq => by rw [su_j (by omega)]; exact hagt q (by omega)) su_s ?_ hWg
            rw [n_win_su (Nat.le_refl j)]
            have e1 : (c + (wn : Int)) * ((65536 ^ j : Nat) : Int) = c * ((65536 ^ j : Nat) : Int) + (wn : Int) * ((65536 ^ j : Nat) : Int) := Int.add_mul _ _ _
            rw [e1]
            omega
          | succ d ihd =>
            intro j c t hj hc0 hc9 hdt hft hagt hv
            have hfj : t 12 0 (kk + j) = s 12 0 (kk + j) := hagt (kk + j) (by omega)
            have hdj := hdt (kk + j)
            obtain ⟨f, hf9⟩ : ∃ q : Int, t 12 0 (kk + j) = q := ⟨_, rfl⟩
            rw [hf9] at hdj hfj
            have htj : t 12 1 j = (n_dgt δ j : Int) := by rw [hft 12 1 (by simp)]; exact ht1 j (by omega)
            have hlj := n_dgt_lt δ j
            obtain ⟨m, hm⟩ : ∃ m : Nat, g * n_dgt δ j = m := ⟨_, rfl⟩
            have hmi : (g : Int) * (n_dgt δ j : Int) = (m : Int) := by rw [← Int.natCast_mul, hm]
            have hmb : m ≤ 65535 * 65535 := by rw [← hm]; exact Nat.mul_le_mul hg65 (Nat.le_of_lt_succ hlj)
            refine v_iload hX 0 rfl (atL dAX8_divide_1 38 rfl) ?_
            refine v_iload hX 4 rfl (atL dAX8_divide_1 39 rfl) ?_
            refine v_icmp_ge hX ⟨by omega, by omega⟩ ⟨by omega, by omega⟩ (tgt := 255) (atL dAX8_divide_1 40 rfl) (by decide) (fun h185 => absurd h185 (by omega)) (fun h185 => ?_)
            refine v_lload hX 1 rfl (atL dAX8_divide_1 41 rfl) ?_
            refine v_aload_n hX 6 rfl (atL dAX8_divide_1 42 rfl) ?_
            refine gf_X8_10 hX hk0 (atL dAX8_divide_1 43 rfl) ?_
            refine gf_X8_175 hX (hQ 0 (by simp [mn, tp])) (atL dAX8_divide_1 44 rfl) ?_
            refine v_iload hX 3 rfl (atL dAX8_divide_1 45 rfl) ?_
            refine v_iload hX 0 rfl (atL dAX8_divide_1 46 rfl) ?_
            refine v_iadd hX (iI_add _ _) (atL dAX8_divide_1 47 rfl) ?_
            rw [show (((kk : Int)) + ((j : Int))) = ((kk + j : Nat) : Int) from (by omega)]
            refine v_iald hX (r := iI (f)) (kk + j) (hQ5 0 (by simp [mn, tp])) (fun _ => rfl) rfl (by omega) (by decide) (congrArg iI hf9) (atL dAX8_divide_1 48 rfl) ?_
            refine v_i2l hX (iI_i2l ⟨by omega, by omega⟩) (atL dAX8_divide_1 49 rfl) ?_
            refine v_lload hX 2 rfl (atL dAX8_divide_1 50 rfl) ?_
            refine v_aload_n hX 6 rfl (atL dAX8_divide_1 51 rfl) ?_
            refine gf_X8_16 hX hk0 (atL dAX8_divide_1 52 rfl) ?_
            refine gf_X8_175 hX (hQ 1 (by simp [mn, tp])) (atL dAX8_divide_1 53 rfl) ?_
            refine v_iload hX 0 rfl (atL dAX8_divide_1 54 rfl) ?_
            refine v_iald hX (r := iI ((n_dgt δ j : Int))) j (hQ5 1 (by simp [mn, tp])) (fun _ => rfl) rfl (by omega) (by decide) (congrArg iI htj) (atL dAX8_divide_1 55 rfl) ?_
            refine v_i2l hX (iI_i2l ⟨by omega, by omega⟩) (atL dAX8_divide_1 56 rfl) ?_
            refine v_lmul hX (jI_mul _ _) (atL dAX8_divide_1 57 rfl) ?_
            rw [show (((g : Int)) * ((n_dgt δ j : Int))) = (m : Int) from hmi]
            refine v_lsub hX (jI_sub _ _) (atL dAX8_divide_1 58 rfl) ?_
            refine v_ladd hX (jI_add _ _) (atL dAX8_divide_1 59 rfl) ?_
            refine v_lstore hX (lv' := [(12, .long (jI (c + (f - ((m : Int)))))), (14, .int (iI ((j : Int)))), (10, .long (jI ((g : Int)))), (7, .int (iI ((kk : Int)))), (5, .int (iI ((n : Int)))), (4, .int (iI ((up : Int)))), (0, .ref (w.1 13 0)), (1, .ref (w.1 14 i)), (2, .ref (w.1 14 o)), (3, .ref (w.1 14 r))]) (Nat.le_of_ble_eq_true rfl) rfl (atL dAX8_divide_2 0 rfl) ?_
            refine v_aload_n hX 6 rfl (atL dAX8_divide_2 1 rfl) ?_
            refine gf_X8_10 hX hk0 (atL dAX8_divide_2 2 rfl) ?_
            refine gf_X8_175 hX (hQ 0 (by simp [mn, tp])) (atL dAX8_divide_2 3 rfl) ?_
            refine v_iload hX 3 rfl (atL dAX8_divide_2 4 rfl) ?_
            refine v_iload hX 1 rfl (atL dAX8_divide_2 5 rfl) ?_
            refine v_iadd hX (iI_add _ _) (atL dAX8_divide_2 6 rfl) ?_
            rw [show (((kk : Int)) + ((j : Int))) = ((kk + j : Nat) : Int) from (by omega)]
            refine v_lload hX 0 rfl (atL dAX8_divide_2 7 rfl) ?_
            refine v_ldc2 hX (r := 65535) wd_1231 (by decide +kernel) (atL dAX8_divide_2 8 rfl) ?_
            refine v_land hX (r := jI ((c + (f - ((m : Int)))) % 65536)) (jI_mask _ 16 (by decide)) (atL dAX8_divide_2 9 rfl) ?_
            refine v_l2i hX (jI_l2i _) (atL dAX8_divide_2 10 rfl) ?_
            refine v_iast hX (c := 12) (kk + j) (hQ5 0 (by simp [mn, tp])) (by decide) (fun _ _ => rfl) rfl (by omega) (by decide) (atL dAX8_divide_2 11 rfl) ?_
            refine v_lload hX 0 rfl (atL dAX8_divide_2 12 rfl) ?_
            refine v_bipush hX (by decide +kernel) (atL dAX8_divide_2 13 rfl) ?_
            refine v_lshr hX (r := jI ((c + (f - ((m : Int)))) / 65536)) (jI_shr ⟨by omega, by omega⟩ 16 (by decide)) (atL dAX8_divide_2 14 rfl) ?_
            refine v_lstore hX (lv' := [(12, .long (jI ((c + (f - ((m : Int)))) / 65536))), (14, .int (iI ((j : Int)))), (10, .long (jI ((g : Int)))), (7, .int (iI ((kk : Int)))), (5, .int (iI ((n : Int)))), (4, .int (iI ((up : Int)))), (0, .ref (w.1 13 0)), (1, .ref (w.1 14 i)), (2, .ref (w.1 14 o)), (3, .ref (w.1 14 r))]) (Nat.le_of_ble_eq_true rfl) rfl (atL dAX8_divide_2 15 rfl) ?_
            refine v_iinc hX (lv' := [(14, .int (iI (((j : Int)) + 1))), (12, .long (jI ((c + (f - ((m : Int)))) / 65536))), (10, .long (jI ((g : Int)))), (7, .int (iI ((kk : Int)))), (5, .int (iI ((n : Int)))), (4, .int (iI ((up : Int)))), (0, .ref (w.1 13 0)), (1, .ref (w.1 14 i)), (2, .ref (w.1 14 o)), (3, .ref (w.1 14 r))]) 1 rfl (iI_add _ _) (Nat.le_of_ble_eq_true rfl) rfl (atL dAX8_divide_2 16 rfl) ?_
            refine v_goto hX (tgt := 181) (atL dAX8_divide_2 17 rfl) (by decide) ?_
            refine v_sub (lv' := [(14, .int (iI (((j : Int)) + 1))), (12, .long (jI ((c + (f - ((m : Int)))) / 65536))), (10, .long (jI ((g : Int)))), (7, .int (iI ((kk : Int)))), (5, .int (iI ((n : Int)))), (4, .int (iI ((up : Int)))), (0, .ref (w.1 13 0)), (1, .ref (w.1 14 i)), (2, .ref (w.1 14 o)), (3, .ref (w.1 14 r))]) [0, 1, 2, 3, 4, 5, 6, 7, 8, 9] rfl ?_
            rw [show (j : Int) + 1 = ((j + 1 : Nat) : Int) by omega]
            refine ihd (j + 1) _ _ (by omega) (by omega) (by omega) (hdt.su ⟨by omega, by omega⟩) (hft.tr' (Fr.su (by simp))) (fun q hq => by rw [su_j (by omega)]; exact hagt q (by omega)) ?_
            have e := n_take_step (Q := (g : Int)) (f := f) (d := (n_dgt δ j : Int)) (s := c + (f - (m : Int))) (c := c) (r := (c + (f - (m : Int))) % 65536) (q' := (c + (f - (m : Int))) / 65536) hv (by rw [hmi]; omega) (by omega)
            rw [n_win_suS (by omega), n_pS, e, n_win_suc hds, n_dgt_suc, ← hfj]
        obtain ⟨P, hPe⟩ : ∃ q, 65536 ^ (n - 1) = q := ⟨_, rfl⟩
        have hdkm := hds (kk + n - 1)
        obtain ⟨wm, hwm⟩ : ∃ q : Nat, s 12 0 (kk + n - 1) = (q : Int) := ⟨(s 12 0 (kk + n - 1)).toNat, by omega⟩
        have hHd := hd1 (n - 1)
        obtain ⟨H, hHe⟩ : ∃ q : Nat, s2 12 1 (n - 1) = (q : Int) := ⟨(s2 12 1 (n - 1)).toNat, by omega⟩
        have hs1H : s 12 1 (n - 1) = (H : Int) := by rw [hfr 12 1 (by simp; omega)]; exact hHe
        rw [hHe] at hHd hH0
        rw [hwm] at hdkm
        obtain ⟨g0, hg0⟩ : ∃ q, (wn * 65536 + wm) / H = q := ⟨_, rfl⟩
        have hg0b : g0 ≤ 4294967296 := by rw [← hg0]; exact Nat.le_trans (Nat.div_le_self _ _) (by omega)
        have hWd : W = vB 65536 (n_win s 0 kk) (n - 1) + (wm + wn * 65536) * P := by
          rw [← hWe, show n + 1 = (n - 1) + 2 by omega, n_vB_2, hPe]
          show _ + ((s 12 0 (kk + (n - 1))).toNat + (s 12 0 (kk + (n - 1 + 1))).toNat * 65536) * P = _
          rw [show kk + (n - 1 + 1) = kk + n by omega, show kk + (n - 1) = kk + n - 1 by omega, hwn, hwm]
          rfl
        have hδd : δ = vB 65536 (fN s2 1) (n - 1) + H * P := by
          rw [← hδ, show n = (n - 1) + 1 by omega, vB_suc, hPe]
          show _ + (s2 12 1 (n - 1)).toNat * P = _
          rw [hHe]
          rfl
        have hgl := div_g (n := n) hPe.symm hWd (by rw [← hPe]; exact vB_lt (fun j _ => n_win_lt hds kk j)) hδd (by omega) hg0
        rw [hWe] at hWB
        refine v_iload hX 0 rfl (atL dAX8_divide_0 51 rfl) ?_
        refine v_if_lt hX ⟨by omega, by omega⟩ (tgt := 427) (atL dAX8_divide_0 52 rfl) (by decide) (fun h99 => absurd h99 (by omega)) (fun h99 => ?_)
        refine v_aload_n hX 3 rfl (atL dAX8_divide_0 53 rfl) ?_
        refine gf_X8_10 hX hk0 (atL dAX8_divide_0 54 rfl) ?_
        refine gf_X8_175 hX (hQ 0 (by simp [mn, tp])) (atL dAX8_divide_0 55 rfl) ?_
        refine v_iload hX 0 rfl (atL dAX8_divide_0 56 rfl) ?_
        refine v_iload hX 1 rfl (atL dAX8_divide_0 57 rfl) ?_
        refine v_iadd hX (iI_add _ _) (atL dAX8_divide_0 58 rfl) ?_
        rw [show (((kk : Int)) + ((n : Int))) = ((kk + n : Nat) : Int) from (by omega)]
        refine v_iald hX (r := iI ((wn : Int))) (kk + n) (hQ5 0 (by simp [mn, tp])) (fun _ => rfl) rfl (by omega) (by decide) (congrArg iI hwn) (atL dAX8_divide_0 59 rfl) ?_
        refine v_i2l hX (iI_i2l ⟨by omega, by omega⟩) (atL dAX8_divide_1 0 rfl) ?_
        refine v_bipush hX (by decide +kernel) (atL dAX8_divide_1 1 rfl) ?_
        refine v_lshl hX (r := jI (((wn : Int)) * 65536)) (jI_shl _ 16 (by decide)) (atL dAX8_divide_1 2 rfl) ?_
        refine v_aload_n hX 3 rfl (atL dAX8_divide_1 3 rfl) ?_
        refine gf_X8_10 hX hk0 (atL dAX8_divide_1 4 rfl) ?_
        refine gf_X8_175 hX (hQ 0 (by simp [mn, tp])) (atL dAX8_divide_1 5 rfl) ?_
        refine v_iload hX 0 rfl (atL dAX8_divide_1 6 rfl) ?_
        refine v_iload hX 1 rfl (atL dAX8_divide_1 7 rfl) ?_
        refine v_iadd hX (iI_add _ _) (atL dAX8_divide_1 8 rfl) ?_
        refine v_iconst hX (atL dAX8_divide_1 9 rfl) ?_
        refine v_isub hX (iI_sub _ _) (atL dAX8_divide_1 10 rfl) ?_
        rw [show ((((kk : Int)) + ((n : Int))) - 1) = ((kk + n - 1 : Nat) : Int) from (by omega)]
        refine v_iald hX (r := iI ((wm : Int))) (kk + n - 1) (hQ5 0 (by simp [mn, tp])) (fun _ => rfl) rfl (by omega) (by decide) (congrArg iI hwm) (atL dAX8_divide_1 11 rfl) ?_
        refine v_i2l hX (iI_i2l ⟨by omega, by omega⟩) (atL dAX8_divide_1 12 rfl) ?_
        refine v_ladd hX (jI_add _ _) (atL dAX8_divide_1 13 rfl) ?_
        refine v_lstore hX (lv' := [(8, .long (jI ((((wn : Int)) * 65536) + ((wm : Int))))), (7, .int (iI ((kk : Int)))), (5, .int (iI ((n : Int)))), (4, .int (iI ((up : Int)))), (0, .ref (w.1 13 0)), (1, .ref (w.1 14 i)), (2, .ref (w.1 14 o)), (3, .ref (w.1 14 r))]) (Nat.le_of_ble_eq_true rfl) rfl (atL dAX8_divide_1 14 rfl) ?_
        refine v_lload hX 0 rfl (atL dAX8_divide_1 15 rfl) ?_
        refine v_aload_n hX 4 rfl (atL dAX8_divide_1 16 rfl) ?_
        refine gf_X8_16 hX hk0 (atL dAX8_divide_1 17 rfl) ?_
        refine gf_X8_175 hX (hQ 1 (by simp [mn, tp])) (atL dAX8_divide_1 18 rfl) ?_
        refine v_iload hX 2 rfl (atL dAX8_divide_1 19 rfl) ?_
        refine v_iconst hX (atL dAX8_divide_1 20 rfl) ?_
        refine v_isub hX (iI_sub _ _) (atL dAX8_divide_1 21 rfl) ?_
        rw [show (((n : Int)) - 1) = ((n - 1 : Nat) : Int) from (by omega)]
        refine v_iald hX (r := iI ((H : Int))) (n - 1) (hQ5 1 (by simp [mn, tp])) (fun _ => rfl) rfl (by omega) (by decide) (congrArg iI hs1H) (atL dAX8_divide_1 22 rfl) ?_
        refine v_i2l hX (iI_i2l ⟨by omega, by omega⟩) (atL dAX8_divide_1 23 rfl) ?_
        refine v_ldiv hX (fun e0 => absurd ((jI_eq (b := 0) ⟨by omega, by omega⟩ ⟨by omega, by omega⟩).mp e0) (by omega)) (jI_div (by omega) (by omega) (by omega) (by omega)) (atL dAX8_divide_1 24 rfl) ?_
        rw [show (((((wn : Int)) * 65536) + ((wm : Int))) / ((H : Int))) = (g0 : Int) from (by rw [show (wn : Int) * 65536 + (wm : Int) = ((wn * 65536 + wm : Nat) : Int) by omega, ← Int.natCast_ediv, hg0])]
        refine v_lstore hX (lv' := [(10, .long (jI ((g0 : Int)))), (8, .long (jI ((((wn : Int)) * 65536) + ((wm : Int))))), (7, .int (iI ((kk : Int)))), (5, .int (iI ((n : Int)))), (4, .int (iI ((up : Int)))), (0, .ref (w.1 13 0)), (1, .ref (w.1 14 i)), (2, .ref (w.1 14 o)), (3, .ref (w.1 14 r))]) (Nat.le_of_ble_eq_true rfl) rfl (atL dAX8_divide_1 25 rfl) ?_
        refine v_lload hX 0 rfl (atL dAX8_divide_1 26 rfl) ?_
        refine v_ldc2 hX (r := 65535) wd_1231 (by decide +kernel) (atL dAX8_divide_1 27 rfl) ?_
        refine v_lcmp_le hX ⟨by omega, by omega⟩ ⟨by omega, by omega⟩ (atL dAX8_divide_1 28 rfl) (tgt := 171) (atL dAX8_divide_1 29 rfl) (by decide) (fun h161 => ?_) (fun h161 => ?_)
        · refine v_lload hX 0 rfl (atL dAX8_divide_1 32 rfl) ?_
          refine v_lstore hX (lv' := [(10, .long (jI ((g0 : Int)))), (8, .long (jI ((((wn : Int)) * 65536) + ((wm : Int))))), (7, .int (iI ((kk : Int)))), (5, .int (iI ((n : Int)))), (4, .int (iI ((up : Int)))), (0, .ref (w.1 13 0)), (1, .ref (w.1 14 i)), (2, .ref (w.1 14 o)), (3, .ref (w.1 14 r))]) (Nat.le_of_ble_eq_true rfl) rfl (atL dAX8_divide_1 33 rfl) ?_
          refine v_lconst hX (atL dAX8_divide_1 34 rfl) ?_
          show V X _ w _ _ _ (.long (jI (0)) :: _)
          refine v_lstore hX (lv' := [(12, .long (jI (0))), (10, .long (jI ((g0 : Int)))), (8, .long (jI ((((wn : Int)) * 65536) + ((wm : Int))))), (7, .int (iI ((kk : Int)))), (5, .int (iI ((n : Int)))), (4, .int (iI ((up : Int)))), (0, .ref (w.1 13 0)), (1, .ref (w.1 14 i)), (2, .ref (w.1 14 o)), (3, .ref (w.1 14 r))]) (Nat.le_of_ble_eq_true rfl) rfl (atL dAX8_divide_1 35 rfl) ?_
          refine v_iconst hX (atL dAX8_divide_1 36 rfl) ?_
          refine v_istore hX (lv' := [(14, .int (iI (0))), (12, .long (jI (0))), (10, .long (jI ((g0 : Int)))), (8, .long (jI ((((wn : Int)) * 65536) + ((wm : Int))))), (7, .int (iI ((kk : Int)))), (5, .int (iI ((n : Int)))), (4, .int (iI ((up : Int)))), (0, .ref (w.1 13 0)), (1, .ref (w.1 14 i)), (2, .ref (w.1 14 o)), (3, .ref (w.1 14 r))]) (Nat.le_of_ble_eq_true rfl) rfl (atL dAX8_divide_1 37 rfl) ?_
          refine v_sub (lv' := [(14, .int (iI (0))), (12, .long (jI (0))), (10, .long (jI ((g0 : Int)))), (7, .int (iI ((kk : Int)))), (5, .int (iI ((n : Int)))), (4, .int (iI ((up : Int)))), (0, .ref (w.1 13 0)), (1, .ref (w.1 14 i)), (2, .ref (w.1 14 o)), (3, .ref (w.1 14 r))]) [0, 1, 2, 4, 5, 6, 7, 8, 9, 10] rfl ?_
          refine sl g0 (by omega) hgl n 0 0 s (by omega) (by omega) (by omega) hds Fr.rf (fun q _ => rfl) ?_
          show (0 : Int) + 0 * _ = 0 - _ * 0
          rw [Int.zero_mul, Int.mul_zero]; rfl
        · refine v_ldc2 hX (r := 65535) wd_1231 (by decide +kernel) (atL dAX8_divide_1 30 rfl) ?_
          refine v_goto hX (tgt := 173) (atL dAX8_divide_1 31 rfl) (by decide) ?_
          refine v_lstore hX (lv' := [(10, .long (jI (65535))), (8, .long (jI ((((wn : Int)) * 65536) + ((wm : Int))))), (7, .int (iI ((kk : Int)))), (5, .int (iI ((n : Int)))), (4, .int (iI ((up : Int)))), (0, .ref (w.1 13 0)), (1, .ref (w.1 14 i)), (2, .ref (w.1 14 o)), (3, .ref (w.1 14 r))]) (Nat.le_of_ble_eq_true rfl) rfl (atL dAX8_divide_1 33 rfl) ?_
          refine v_lconst hX (atL dAX8_divide_1 34 rfl) ?_
          show V X _ w _ _ _ (.long (jI (0)) :: _)
          refine v_lstore hX (lv' := [(12, .long (jI (0))), (10, .long (jI (65535))), (8, .long (jI ((((wn : Int)) * 65536) + ((wm : Int))))), (7, .int (iI ((kk : Int)))), (5, .int (iI ((n : Int)))), (4, .int (iI ((up : Int)))), (0, .ref (w.1 13 0)), (1, .ref (w.1 14 i)), (2, .ref (w.1 14 o)), (3, .ref (w.1 14 r))]) (Nat.le_of_ble_eq_true rfl) rfl (atL dAX8_divide_1 35 rfl) ?_
          refine v_iconst hX (atL dAX8_divide_1 36 rfl) ?_
          refine v_istore hX (lv' := [(14, .int (iI (0))), (12, .long (jI (0))), (10, .long (jI (65535))), (8, .long (jI ((((wn : Int)) * 65536) + ((wm : Int))))), (7, .int (iI ((kk : Int)))), (5, .int (iI ((n : Int)))), (4, .int (iI ((up : Int)))), (0, .ref (w.1 13 0)), (1, .ref (w.1 14 i)), (2, .ref (w.1 14 o)), (3, .ref (w.1 14 r))]) (Nat.le_of_ble_eq_true rfl) rfl (atL dAX8_divide_1 37 rfl) ?_
          refine v_sub (lv' := [(14, .int (iI (0))), (12, .long (jI (0))), (10, .long (jI (65535))), (7, .int (iI ((kk : Int)))), (5, .int (iI ((n : Int)))), (4, .int (iI ((up : Int)))), (0, .ref (w.1 13 0)), (1, .ref (w.1 14 i)), (2, .ref (w.1 14 o)), (3, .ref (w.1 14 r))]) [0, 1, 2, 4, 5, 6, 7, 8, 9, 10] rfl ?_
          refine sl 65535 (by omega) (by rw [show (65535 + 1) * δ = δ * 65536 from Nat.mul_comm _ _]; exact hWB) n 0 0 s (by omega) (by omega) (by omega) hds Fr.rf (fun q _ => rfl) ?_
          show (0 : Int) + 0 * _ = 0 - _ * 0
          rw [Int.zero_mul, Int.mul_zero]; rfl
    refine v_bipush hX (by decide +kernel) (atL dAX8_divide_0 8 rfl) ?_
    refine v_aload_n hX 2 rfl (atL dAX8_divide_0 9 rfl) ?_
    refine gf_X8_164 hX (v := (x : Int)) (hx) hj (atL dAX8_divide_0 10 rfl) ?_
    refine v_imul hX (iI_mul _ _) (atL dAX8_divide_0 11 rfl) ?_
    refine v_aload_n hX 2 rfl (atL dAX8_divide_0 12 rfl) ?_
    refine v_callN hX (As := []) (rest := [.int (iI (16 * ((x : Int))))]) (c_X7_bits (xl X) w σ o y hj hM) lk_X8_167 hj (fun _ => rfl) rfl rfl rfl (by rw [hR]; exact ⟨Nat.le_of_ble_eq_true rfl, Nat.le_of_ble_eq_true rfl⟩) ⟨Nat.zero_le _, Nat.zero_le _⟩ rfl (Nat.le_of_ble_eq_true rfl) (atL dAX8_divide_0 13 rfl) (fun rb sb hb => ?_)
    obtain ⟨hba, hbb⟩ := hb
    rw [hbb]
    subst hba
    show V X _ w _ _ σ [.int (iI ((blen y : Nat))), .int (iI (16 * ((x : Int))))]
    refine v_isub hX (iI_sub _ _) (atL dAX8_divide_0 14 rfl) ?_
    rw [show ((16 * ((x : Int))) - ((blen y : Nat))) = (up : Int) from (by omega)]
    refine v_istore hX (lv' := [(4, .int (iI ((up : Int)))), (0, .ref (w.1 13 0)), (1, .ref (w.1 14 i)), (2, .ref (w.1 14 o)), (3, .ref (w.1 14 r))]) (Nat.le_of_ble_eq_true rfl) rfl (atL dAX8_divide_0 15 rfl) ?_
    refine v_aload_n hX 2 rfl (atL dAX8_divide_0 16 rfl) ?_
    refine v_iload hX 0 rfl (atL dAX8_divide_0 17 rfl) ?_
    refine v_aload_n hX 1 rfl (atL dAX8_divide_0 18 rfl) ?_
    refine gf_X8_10 hX hk0 (atL dAX8_divide_0 19 rfl) ?_
    refine v_callS hX (As := [.ref (w.1 14 i), .int (iI ((up : Int))), .ref (w.1 14 0)]) (rest := []) (c_X8_shift (xl X) w σ i v hi hN (Nat.lt_of_lt_of_le hv8 (Nat.pow_le_pow_right (by omega) (by omega))) up hup 0 (hQ 0 (by simp [mn, tp])) (hAN 0) (by omega)) lk_X8_171 rfl (by rw [hR]; exact ⟨Nat.le_of_ble_eq_true rfl, Nat.le_of_ble_eq_true rfl⟩) ⟨Nat.zero_le _, Nat.zero_le _⟩ rfl (Nat.le_of_ble_eq_true rfl) (atL dAX8_divide_0 20 rfl) (fun _ s1 h1 => ?_)
    obtain ⟨h1a, h1f⟩ := h1
    have hAN1 := hAN.one h1f h1a
    show V X _ w _ _ s1 []
    refine v_aload_n hX 3 rfl (atL dAX8_divide_0 21 rfl) ?_
    refine v_iload hX 0 rfl (atL dAX8_divide_0 22 rfl) ?_
    refine v_aload_n hX 1 rfl (atL dAX8_divide_0 23 rfl) ?_
    refine gf_X8_16 hX hk0 (atL dAX8_divide_0 24 rfl) ?_
    refine v_callS hX (As := [.ref (w.1 14 o), .int (iI ((up : Int))), .ref (w.1 14 1)]) (rest := []) (c_X8_shift (xl X) w s1 o y hj (nm.fr hM h1f (by simp; omega) (by simp; omega)) (Nat.lt_of_lt_of_le (Nat.lt_of_le_of_lt (show y ≤ v by omega) hv8) (Nat.pow_le_pow_right (by omega) (by omega))) up hup 1 (hQ 1 (by simp [mn, tp])) (hAN1 1) (by omega)) lk_X8_171 rfl (by rw [hR]; exact ⟨Nat.le_of_ble_eq_true rfl, Nat.le_of_ble_eq_true rfl⟩) ⟨Nat.zero_le _, Nat.zero_le _⟩ rfl (Nat.le_of_ble_eq_true rfl) (atL dAX8_divide_0 25 rfl) (fun _ s2 h2 => ?_)
    obtain ⟨h2a, h2f⟩ := h2
    have hAN2 := hAN1.one h2f h2a
    have h1b := nm.fr h1a h2f (by simp) (by simp)
    generalize hNe : v * 2 ^ up = N at h1b
    generalize hDe : y * 2 ^ up = δ at h2a
    obtain ⟨a, ha, ha8, had, hat, hav⟩ := h1b
    obtain ⟨n, hn, hn8, hnd, hnt, hnv⟩ := h2a
    have hyv : δ ≤ N := by rw [← hNe, ← hDe]; exact Nat.mul_le_mul_right _ (by omega)
    have hδ0 : δ ≠ 0 := by rw [← hDe]; exact Nat.mul_ne_zero hy0 (by omega)
    have hn1 : 0 < n := Nat.pos_of_ne_zero (fun q => hδ0 ((NN_0 hnt hnd hnv).mp q))
    have hna : n ≤ a := Nat.le_of_not_lt (fun q => absurd (n_used_lt had hav hnd hnt hnv q) (by omega))
    have hNa := n_used_lt_pow had hav (Nat.le_refl a)
    have ha9 : a ≤ 269 := n_used_le had hat hav (by rw [← hNe]; exact Nat.lt_of_lt_of_le (Nat.mul_lt_mul_of_lt_of_le hv8 (show 2 ^ up ≤ 65536 by omega) (by omega)) (Nat.le_refl _))
    show V X _ w _ _ s2 []
    refine v_aload_n hX 1 rfl (atL dAX8_divide_0 26 rfl) ?_
    refine gf_X8_16 hX hk0 (atL dAX8_divide_0 27 rfl) ?_
    refine gf_X8_164 hX (v := (n : Int)) (hn) (hQ 1 (by simp [mn, tp])) (atL dAX8_divide_0 28 rfl) ?_
    refine v_istore hX (lv' := [(5, .int (iI ((n : Int)))), (4, .int (iI ((up : Int)))), (0, .ref (w.1 13 0)), (1, .ref (w.1 14 i)), (2, .ref (w.1 14 o)), (3, .ref (w.1 14 r))]) (Nat.le_of_ble_eq_true rfl) rfl (atL dAX8_divide_0 29 rfl) ?_
    refine v_aload_n hX 2 rfl (atL dAX8_divide_0 30 rfl) ?_
    refine gf_X8_10 hX hk0 (atL dAX8_divide_0 31 rfl) ?_
    refine gf_X8_175 hX (hQ 0 (by simp [mn, tp])) (atL dAX8_divide_0 32 rfl) ?_
    refine v_aload_n hX 2 rfl (atL dAX8_divide_0 33 rfl) ?_
    refine gf_X8_10 hX hk0 (atL dAX8_divide_0 34 rfl) ?_
    refine gf_X8_164 hX (v := (a : Int)) (ha) (hQ 0 (by simp [mn, tp])) (atL dAX8_divide_0 35 rfl) ?_
    refine v_iconst hX (atL dAX8_divide_0 36 rfl) ?_
    refine v_iast hX (c := 12) a (hQ5 0 (by simp [mn, tp])) (by decide) (fun _ _ => rfl) rfl (by omega) (by decide) (atL dAX8_divide_0 37 rfl) ?_
    refine v_aload_n hX 2 rfl (atL dAX8_divide_0 38 rfl) ?_
    refine gf_X8_10 hX hk0 (atL dAX8_divide_0 39 rfl) ?_
    refine gf_X8_164 hX (v := (a : Int)) ((su_c (by decide)).trans (ha)) (hQ 0 (by simp [mn, tp])) (atL dAX8_divide_0 40 rfl) ?_
    refine v_iload hX 0 rfl (atL dAX8_divide_0 41 rfl) ?_
    refine v_isub hX (iI_sub _ _) (atL dAX8_divide_0 42 rfl) ?_
    refine v_istore hX (lv' := [(6, .int (iI (((a : Int)) - ((n : Int))))), (5, .int (iI ((n : Int)))), (4, .int (iI ((up : Int)))), (0, .ref (w.1 13 0)), (1, .ref (w.1 14 i)), (2, .ref (w.1 14 o)), (3, .ref (w.1 14 r))]) (Nat.le_of_ble_eq_true rfl) rfl (atL dAX8_divide_0 43 rfl) ?_
    refine v_aload_n hX 6 rfl (atL dAX8_divide_0 44 rfl) ?_
    refine v_iload hX 0 rfl (atL dAX8_divide_0 45 rfl) ?_
    refine v_iconst hX (atL dAX8_divide_0 46 rfl) ?_
    refine v_iadd hX (iI_add _ _) (atL dAX8_divide_0 47 rfl) ?_
    refine pf_X8_164 hX hr (atL dAX8_divide_0 48 rfl) ?_
    refine v_iload hX 0 rfl (atL dAX8_divide_0 49 rfl) ?_
    refine v_istore hX (lv' := [(7, .int (iI (((a : Int)) - ((n : Int))))), (6, .int (iI (((a : Int)) - ((n : Int))))), (5, .int (iI ((n : Int)))), (4, .int (iI ((up : Int)))), (0, .ref (w.1 13 0)), (1, .ref (w.1 14 i)), (2, .ref (w.1 14 o)), (3, .ref (w.1 14 r))]) (Nat.le_of_ble_eq_true rfl) rfl (atL dAX8_divide_0 50 rfl) ?_
    refine v_sub (lv' := [(7, .int (iI (((a : Int)) - ((n : Int))))), (5, .int (iI ((n : Int)))), (4, .int (iI ((up : Int)))), (0, .ref (w.1 13 0)), (1, .ref (w.1 14 i)), (2, .ref (w.1 14 o)), (3, .ref (w.1 14 r))]) [0, 2, 3, 4, 5, 6, 7] rfl ?_
    rw [show (a : Int) - (n : Int) = ((a - n + 1 : Nat) : Int) - 1 by omega]
    have hz3 : ∀ j, j < a → su (su s2 12 0 a 0) 11 r 0 (((a - n + 1 : Nat) : Int) - 1 + 1) 12 0 j = s2 12 0 j := fun j hj => by rw [su_c (by decide), su_j (by omega)]
    have hza : su (su s2 12 0 a 0) 11 r 0 (((a - n + 1 : Nat) : Int) - 1 + 1) 12 0 a = 0 := by rw [su_c (by decide), su_s]
    have hd3 : NDg (su (su s2 12 0 a 0) 11 r 0 (((a - n + 1 : Nat) : Int) - 1 + 1)) 0 := fun j => by rw [su_c (by decide)]; exact ((hAN2 0).su ⟨by omega, by omega⟩) j
    have hgd : ∀ j, j < a → s2 12 0 j = (n_dgt N j : Int) := fun j hj => by rw [← n_dgt_WN had hav j, if_pos hj]
    refine loop N δ a n s2 hAN2 ((h1f.mono (by simp)).tr' (h2f.mono (by simp))) hNa ha9 hn1 hna hn8 hn hnv (hnt hn1) hgd (by rw [← hNe, ← hDe, Nat.mul_mod_mul_right, Nat.mul_div_cancel _ hPp]) (by rw [← hNe, ← hDe, Nat.mul_div_mul_right _ _ hPp]) (a - n + 1) _ (Nat.le_refl _) hd3 (fun j => by rw [su_c (by decide), su_i (by omega)]; exact hAN2 r j) ((Fr.su (by simp)).tr' (Fr.su (by simp))) (by rw [su_s]; omega) (fun j hj => hz3 j (by omega)) ?_ ?_
    · rw [Nat.sub_self]
      show _ = 0 * δ + _
      rw [Nat.zero_mul, Nat.zero_add, win_top hz3 hza hgd hNa (by omega) (by omega)]
    · rw [win_top hz3 hza hgd hNa (by omega) (by omega)]
      refine n_red_first hNa hn1 hna ?_
      rw [← hnv]
      exact vB_top hn1 (by have := hnt hn1; have := (hnd (n - 1)).1; show (s2 12 1 (n - 1)).toNat ≠ 0; omega)
  · refine v_aload_n hX 3 rfl (atL dAX8_divide_0 4 rfl) ?_
    refine v_iconst hX (atL dAX8_divide_0 5 rfl) ?_
    refine pf_X8_164 hX hr (atL dAX8_divide_0 6 rfl) ?_
    exact v_vret hX (atL dAX8_divide_0 7 rfl) (hret () _ ⟨by rw [Nat.mod_eq_of_lt (by omega)]; exact nm.fr hN (l := [(11, r)]) (Fr.su (by simp)) (by simp; omega) (by simp), by rw [Nat.div_eq_of_lt (by omega)]; exact n_set0 (hAN r), hAN.fr (l := [(11, r)]) (Fr.su (by simp)) (by simp), Fr.su (by simp)⟩)
