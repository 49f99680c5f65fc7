theorem rv_byte {L : List Nat} (h : BY L) : ∀ j, rv L / 256 ^ j % 256 = if j < L.length then L.getD (L.length - 1 - j) 0 else 0 := by
  induction L with
  | nil =>
    intro j
    rw [if_neg (by simp)]
    show 0 / 256 ^ j % 256 = 0
    rw [Nat.zero_div]
  | cons x L ih =>
    intro j
    have hL : BY L := fun y hy => h y (List.mem_cons_of_mem _ hy)
    have hx : x < 256 := h x List.mem_cons_self
    have hlt := rv_lt hL
    rw [rv_cons, List.length_cons]
    rcases Nat.lt_or_ge j L.length with c | c
    · rw [if_pos (by omega)]
      have e : (256 : Nat) ^ L.length = 256 ^ j * (256 * 256 ^ (L.length - 1 - j)) := by
        rw [← Nat.pow_succ', ← Nat.pow_add]
        congr 1
        omega
      have e2 : x * 256 ^ L.length + rv L = rv L + 256 ^ j * (256 * (x * 256 ^ (L.length - 1 - j))) := by
        rw [e, Nat.add_comm, Nat.mul_left_comm x, Nat.mul_left_comm x]
      rw [e2, Nat.add_mul_div_left _ _ (Nat.pow_pos (by omega)), Nat.add_mul_mod_self_left, ih hL j, if_pos c, show L.length + 1 - 1 - j = (L.length - 1 - j) + 1 by omega]
      rfl
    · rcases Nat.eq_or_lt_of_le c with d | d
      · subst d
        rw [if_pos (by omega), Nat.add_comm, Nat.add_mul_div_right _ _ (Nat.pow_pos (by omega)), Nat.div_eq_of_lt hlt, Nat.zero_add, Nat.mod_eq_of_lt hx, show L.length + 1 - 1 - L.length = 0 by omega]
        rfl
      · rw [if_neg (by omega), Nat.div_eq_of_lt]
        have h1 : (x + 1) * 256 ^ L.length ≤ 256 * 256 ^ L.length := Nat.mul_le_mul_right _ hx
        rw [Nat.add_mul, Nat.one_mul, ← Nat.pow_succ'] at h1
        have h2 : (256 : Nat) ^ (L.length + 1) ≤ 256 ^ j := Nat.pow_le_pow_right (by omega) d
        omega
theorem n_dgt_b (v k : Nat) : n_dgt v k = v / 256 ^ (2 * k + 1) % 256 * 256 + v / 256 ^ (2 * k) % 256 := by
  unfold n_dgt
  have e : (65536 : Nat) ^ k = 256 ^ (2 * k) := by rw [Nat.pow_mul]
  rw [e, Nat.pow_succ, ← Nat.div_div_eq_div_mul]
  generalize v / 256 ^ (2 * k) = X
  omega
theorem mlen_lt (a : Nat) : mlen a < 2147483648 := by unfold mlen; split <;> decide
/-- an array's part from o on holds L -/
def AW (f : Nat → Int) (o : Nat) (L : List Nat) : Prop := ∀ j, j < L.length → f (o + j) = ((L.getD j 0 : Nat) : Int)

set_option maxHeartbeats 1000000 in
set_option maxRecDepth 100000 in
theorem c_X8_reads (l : Launch) (w : Wl) (σ : St) (a : Nat) (hka : w.2 16 a) (L : List Nat) (hB : BY L) (o n : Nat) (hn : L.length = n) (hA : AW (σ 13 a) o L) (hoa : o + n ≤ mlen a) (hn6 : n ≤ 256) (i : Nat) (hi : w.2 14 i) (hdi : NDg σ i) : Cn l yX8_reads cX8_reads 7 none 1 20 wN [.ref (w.1 16 a), .int (iI ((o : Int))), .int (iI ((n : Int))), .ref (w.1 14 i)] w σ (fun _ σ' => NN σ' i (rv L) ∧ Fr [(11, i), (12, i)] σ σ') := by
  refine Cn.of (own := RX8) (lv := [(0, .ref (w.1 16 a)), (1, .int (iI ((o : Int)))), (2, .int (iI ((n : Int)))), (3, .ref (w.1 14 i))]) (by decide +kernel) rfl (Nat.le_of_ble_eq_true rfl) rfl (fun X hX hxl hR hcl hret => ?_)
  subst hxl
  have hi2 : w.2 15 i := hcl 14 i hi (15, i) (by simp [mn, tp])
  have hrl := rv_lt hB
  have hrm : rv L < 65536 ^ ((n + 1) / 2) := by rw [hn] at hrl; refine Nat.lt_of_lt_of_le hrl ?_; rw [show (65536 : Nat) = 256 ^ 2 from rfl, ← Nat.pow_mul]; exact Nat.pow_le_pow_right (by omega) (by omega)
  have hml := mlen_lt a
  obtain ⟨m, hm⟩ : ∃ q, (n + 1) / 2 = q := ⟨_, rfl⟩
  rw [hm] at hrm
  have loop : ∀ (d kk : Nat) (t : St), kk + d = m → t 11 i 0 = (m : Int) → NDg t i → (∀ j, j < kk → t 12 i j = (n_dgt (rv L) j : Int)) → Fr [(11, i), (12, i)] σ t → V X (0, 0) w 12 [(4, .int (iI ((kk : Int)))), (0, .ref (w.1 16 a)), (1, .int (iI ((o : Int)))), (2, .int (iI ((n : Int)))), (3, .ref (w.1 14 i))] t [] := by
    intro d
    induction d with
    | zero =>
      intro kk t hk htm hdt hv hf
      obtain rfl : kk = m := by omega
      have hfin : vB 65536 (fN t i) kk = rv L := n_vB_fN hv hrm
      refine v_iload hX 0 rfl (atL dAX8_reads_0 9 rfl) ?_
      refine v_aload_n hX 4 rfl (atL dAX8_reads_0 10 rfl) ?_
      refine gf_X8_164 hX (v := (kk : Int)) (htm) hi (atL dAX8_reads_0 11 rfl) ?_
      refine v_icmp_ge hX ⟨by omega, by omega⟩ ⟨by omega, by omega⟩ (tgt := 85) (atL dAX8_reads_0 12 rfl) (by decide) (fun h18 => ?_) (fun h18 => absurd h18 (by omega))
      refine v_aload_n hX 4 rfl (atL dAX8_reads_0 58 rfl) ?_
      refine v_callN hX (As := []) (rest := []) (c_X7_cut (xl X) w t i hi hdt kk (rv L) htm (by omega) hfin) lk_X8_181 hi (fun _ => rfl) rfl rfl rfl (by rw [hR]; exact ⟨Nat.le_of_ble_eq_true rfl, Nat.le_of_ble_eq_true rfl⟩) ⟨Nat.zero_le _, Nat.zero_le _⟩ rfl (Nat.le_of_ble_eq_true rfl) (atL dAX8_reads_0 59 rfl) (fun _ s1 h1 => ?_)
      obtain ⟨h1a, h1f⟩ := h1
      show V X _ w _ _ s1 []
      exact v_vret hX (atL dAX8_reads_1 0 rfl) (hret () _ ⟨h1a, hf.tr' (h1f.mono (by simp))⟩)
    | succ d ih =>
      intro kk t hk htm hdt hv hf
      have hdg := n_dgt_b (rv L) kk
      have hb0 := rv_byte hB (2 * kk)
      have hb1 := rv_byte hB (2 * kk + 1)
      rw [hn, if_pos (by omega)] at hb0
      rw [hn] at hb1
      have hx0 := hB.get (n - 1 - 2 * kk)
      have hx1 := hB.get (n - 1 - (2 * kk + 1))
      have ht0 : t 13 a (o + n - 1 - 2 * kk) = ((L.getD (n - 1 - 2 * kk) 0 : Nat) : Int) := by rw [hf 13 a (by simp), show o + n - 1 - 2 * kk = o + (n - 1 - 2 * kk) by omega]; exact hA _ (by omega)
      obtain ⟨lo, hlo⟩ : ∃ q, L.getD (n - 1 - 2 * kk) 0 = q := ⟨_, rfl⟩
      obtain ⟨hh, hhh⟩ : ∃ q, L.getD (n - 1 - (2 * kk + 1)) 0 = q := ⟨_, rfl⟩
      rw [hlo] at hb0 hx0 ht0
      rw [hhh] at hb1 hx1
      rw [hb0] at hdg
      refine v_iload hX 0 rfl (atL dAX8_reads_0 9 rfl) ?_
      refine v_aload_n hX 4 rfl (atL dAX8_reads_0 10 rfl) ?_
      refine gf_X8_164 hX (v := (m : Int)) (htm) hi (atL dAX8_reads_0 11 rfl) ?_
      refine v_icmp_ge hX ⟨by omega, by omega⟩ ⟨by omega, by omega⟩ (tgt := 85) (atL dAX8_reads_0 12 rfl) (by decide) (fun h18 => absurd h18 (by omega)) (fun h18 => ?_)
      refine v_aload_n hX 1 rfl (atL dAX8_reads_0 13 rfl) ?_
      refine v_iload_n hX 2 rfl (atL dAX8_reads_0 14 rfl) ?_
      refine v_iload_n hX 3 rfl (atL dAX8_reads_0 15 rfl) ?_
      refine v_iadd hX (iI_add _ _) (atL dAX8_reads_0 16 rfl) ?_
      refine v_iconst hX (atL dAX8_reads_0 17 rfl) ?_
      refine v_isub hX (iI_sub _ _) (atL dAX8_reads_0 18 rfl) ?_
      refine v_iconst hX (atL dAX8_reads_0 19 rfl) ?_
      refine v_iload hX 0 rfl (atL dAX8_reads_0 20 rfl) ?_
      refine v_imul hX (iI_mul _ _) (atL dAX8_reads_0 21 rfl) ?_
      refine v_isub hX (iI_sub _ _) (atL dAX8_reads_0 22 rfl) ?_
      refine v_iald hX (r := iI ((lo : Int))) ((o + n - 1 - 2 * kk)) hka (fun _ => rfl) (by omega) (by omega) (mlen_lt a) (congrArg iI ht0) (atL dAX8_reads_0 23 rfl) ?_
      refine v_istore hX (lv' := [(5, .int (iI ((lo : Int)))), (4, .int (iI ((kk : Int)))), (0, .ref (w.1 16 a)), (1, .int (iI ((o : Int)))), (2, .int (iI ((n : Int)))), (3, .ref (w.1 14 i))]) (Nat.le_of_ble_eq_true rfl) rfl (atL dAX8_reads_0 24 rfl) ?_
      refine v_iload_n hX 4 rfl (atL dAX8_reads_0 25 rfl) ?_
      refine v_iconst hX (atL dAX8_reads_0 26 rfl) ?_
      refine v_isub hX (iI_sub _ _) (atL dAX8_reads_0 27 rfl) ?_
      refine v_iconst hX (atL dAX8_reads_0 28 rfl) ?_
      refine v_iload hX 1 rfl (atL dAX8_reads_0 29 rfl) ?_
      refine v_imul hX (iI_mul _ _) (atL dAX8_reads_0 30 rfl) ?_
      refine v_isub hX (iI_sub _ _) (atL dAX8_reads_0 31 rfl) ?_
      refine v_if_lt hX ⟨by omega, by omega⟩ (tgt := 61) (atL dAX8_reads_0 32 rfl) (by decide) (fun h43 => ?_) (fun h43 => ?_)
      · refine v_iconst hX (atL dAX8_reads_0 45 rfl) ?_
        refine v_istore hX (lv' := [(6, .int (iI (0))), (5, .int (iI ((lo : Int)))), (4, .int (iI ((kk : Int)))), (0, .ref (w.1 16 a)), (1, .int (iI ((o : Int)))), (2, .int (iI ((n : Int)))), (3, .ref (w.1 14 i))]) (Nat.le_of_ble_eq_true rfl) rfl (atL dAX8_reads_0 46 rfl) ?_
        refine v_aload_n hX 6 rfl (atL dAX8_reads_0 47 rfl) ?_
        refine gf_X8_175 hX hi (atL dAX8_reads_0 48 rfl) ?_
        refine v_iload hX 2 rfl (atL dAX8_reads_0 49 rfl) ?_
        refine v_iload hX 0 rfl (atL dAX8_reads_0 50 rfl) ?_
        refine v_bipush hX (by decide +kernel) (atL dAX8_reads_0 51 rfl) ?_
        refine v_ishl hX (r := iI (((0 * 256 : Nat) : Int))) ((iI_shl _ 8 (by decide)).trans (congrArg iI (show (0 : Int) * ((2 ^ 8 : Nat) : Int) = ((0 * 256 : Nat) : Int) by omega))) (atL dAX8_reads_0 52 rfl) ?_
        refine v_iload hX 1 rfl (atL dAX8_reads_0 53 rfl) ?_
        refine v_ior hX (r := iI (((0 * 256 + lo : Nat) : Int))) (iI_or (k := 8) hx0 ⟨0, by omega⟩ (by omega)) (atL dAX8_reads_0 54 rfl) ?_
        refine v_iast hX (c := 12) kk hi2 (by decide) (fun _ _ => rfl) rfl (show kk < 270 by omega) (by decide) (atL dAX8_reads_0 55 rfl) ?_
        refine v_iinc hX (lv' := [(4, .int (iI (((kk : Int)) + 1))), (6, .int (iI (0))), (5, .int (iI ((lo : Int)))), (0, .ref (w.1 16 a)), (1, .int (iI ((o : Int)))), (2, .int (iI ((n : Int)))), (3, .ref (w.1 14 i))]) 2 rfl (iI_add _ _) (Nat.le_of_ble_eq_true rfl) rfl (atL dAX8_reads_0 56 rfl) ?_
        refine v_goto hX (tgt := 12) (atL dAX8_reads_0 57 rfl) (by decide) ?_
        rw [if_neg (by omega)] at hb1
        rw [hb1] at hdg
        refine v_sub (lv' := [(4, .int (iI (((kk : Int)) + 1))), (0, .ref (w.1 16 a)), (1, .int (iI ((o : Int)))), (2, .int (iI ((n : Int)))), (3, .ref (w.1 14 i))]) [0, 3, 4, 5, 6] rfl ?_
        rw [show (kk : Int) + 1 = ((kk + 1 : Nat) : Int) by omega]
        refine ih (kk + 1) _ (by omega) (by rw [su_c (by decide)]; exact htm) (hdt.su ⟨by omega, by omega⟩) (fun j hj => ?_) (hf.tr' (Fr.su (by simp)))
        by_cases e : j = kk
        · rw [e, su_s, hdg]
        · rw [su_j e]; exact hv j (by omega)
      · refine v_aload_n hX 2 rfl (atL dAX8_reads_0 33 rfl) ?_
        refine v_iload_n hX 3 rfl (atL dAX8_reads_0 34 rfl) ?_
        refine v_iload_n hX 4 rfl (atL dAX8_reads_0 35 rfl) ?_
        refine v_iadd hX (iI_add _ _) (atL dAX8_reads_0 36 rfl) ?_
        refine v_iconst hX (atL dAX8_reads_0 37 rfl) ?_
        refine v_isub hX (iI_sub _ _) (atL dAX8_reads_0 38 rfl) ?_
        refine v_iconst hX (atL dAX8_reads_0 39 rfl) ?_
        refine v_iload hX 1 rfl (atL dAX8_reads_0 40 rfl) ?_
        refine v_imul hX (iI_mul _ _) (atL dAX8_reads_0 41 rfl) ?_
        refine v_isub hX (iI_sub _ _) (atL dAX8_reads_0 42 rfl) ?_
        have ht1 : t 13 a (o + n - 2 - 2 * kk) = (hh : Int) := by rw [hf 13 a (by simp), show o + n - 2 - 2 * kk = o + (n - 1 - (2 * kk + 1)) by omega, ← hhh]; exact hA _ (by omega)
        refine v_iald hX (r := iI ((hh : Int))) ((o + n - 2 - 2 * kk)) hka (fun _ => rfl) (by omega) (by omega) (mlen_lt a) (congrArg iI ht1) (atL dAX8_reads_0 43 rfl) ?_
        refine v_goto hX (tgt := 62) (atL dAX8_reads_0 44 rfl) (by decide) ?_
        refine v_istore hX (lv' := [(6, .int (iI ((hh : Int)))), (5, .int (iI ((lo : Int)))), (4, .int (iI ((kk : Int)))), (0, .ref (w.1 16 a)), (1, .int (iI ((o : Int)))), (2, .int (iI ((n : Int)))), (3, .ref (w.1 14 i))]) (Nat.le_of_ble_eq_true rfl) rfl (atL dAX8_reads_0 46 rfl) ?_
        refine v_aload_n hX 6 rfl (atL dAX8_reads_0 47 rfl) ?_
        refine gf_X8_175 hX hi (atL dAX8_reads_0 48 rfl) ?_
        refine v_iload hX 2 rfl (atL dAX8_reads_0 49 rfl) ?_
        refine v_iload hX 0 rfl (atL dAX8_reads_0 50 rfl) ?_
        refine v_bipush hX (by decide +kernel) (atL dAX8_reads_0 51 rfl) ?_
        refine v_ishl hX (r := iI (((hh * 256 : Nat) : Int))) ((iI_shl _ 8 (by decide)).trans (congrArg iI (show ((hh : Int) : Int) * ((2 ^ 8 : Nat) : Int) = ((hh * 256 : Nat) : Int) by omega))) (atL dAX8_reads_0 52 rfl) ?_
        refine v_iload hX 1 rfl (atL dAX8_reads_0 53 rfl) ?_
        refine v_ior hX (r := iI (((hh * 256 + lo : Nat) : Int))) (iI_or (k := 8) hx0 ⟨hh, by omega⟩ (by omega)) (atL dAX8_reads_0 54 rfl) ?_
        refine v_iast hX (c := 12) kk hi2 (by decide) (fun _ _ => rfl) rfl (show kk < 270 by omega) (by decide) (atL dAX8_reads_0 55 rfl) ?_
        refine v_iinc hX (lv' := [(4, .int (iI (((kk : Int)) + 1))), (6, .int (iI ((hh : Int)))), (5, .int (iI ((lo : Int)))), (0, .ref (w.1 16 a)), (1, .int (iI ((o : Int)))), (2, .int (iI ((n : Int)))), (3, .ref (w.1 14 i))]) 2 rfl (iI_add _ _) (Nat.le_of_ble_eq_true rfl) rfl (atL dAX8_reads_0 56 rfl) ?_
        refine v_goto hX (tgt := 12) (atL dAX8_reads_0 57 rfl) (by decide) ?_
        rw [if_pos (by omega)] at hb1
        rw [hb1] at hdg
        refine v_sub (lv' := [(4, .int (iI (((kk : Int)) + 1))), (0, .ref (w.1 16 a)), (1, .int (iI ((o : Int)))), (2, .int (iI ((n : Int)))), (3, .ref (w.1 14 i))]) [0, 3, 4, 5, 6] rfl ?_
        rw [show (kk : Int) + 1 = ((kk + 1 : Nat) : Int) by omega]
        refine ih (kk + 1) _ (by omega) (by rw [su_c (by decide)]; exact htm) (hdt.su ⟨by omega, by omega⟩) (fun j hj => ?_) (hf.tr' (Fr.su (by simp)))
        by_cases e : j = kk
        · rw [e, su_s, hdg]
        · rw [su_j e]; exact hv j (by omega)
  refine v_aload_n hX 3 rfl (atL dAX8_reads_0 0 rfl) ?_
  refine v_iload_n hX 2 rfl (atL dAX8_reads_0 1 rfl) ?_
  refine v_iconst hX (atL dAX8_reads_0 2 rfl) ?_
  refine v_iadd hX (iI_add _ _) (atL dAX8_reads_0 3 rfl) ?_
  refine v_iconst hX (atL dAX8_reads_0 4 rfl) ?_
  refine v_idiv hX (fun e0 => absurd ((iI_eq (b := 0) ⟨by omega, by omega⟩ ⟨by omega, by omega⟩).mp e0) (by omega)) (iI_div (by omega) (by omega) (by omega) (by omega)) (atL dAX8_reads_0 5 rfl) ?_
  rw [show ((((n : Int)) + 1) / 2) = (m : Int) from (by omega)]
  refine pf_X8_164 hX hi (atL dAX8_reads_0 6 rfl) ?_
  refine v_iconst hX (atL dAX8_reads_0 7 rfl) ?_
  refine v_istore hX (lv' := [(4, .int (iI (0))), (0, .ref (w.1 16 a)), (1, .int (iI ((o : Int)))), (2, .int (iI ((n : Int)))), (3, .ref (w.1 14 i))]) (Nat.le_of_ble_eq_true rfl) rfl (atL dAX8_reads_0 8 rfl) ?_
  refine v_sub (lv' := [(4, .int (iI (0))), (0, .ref (w.1 16 a)), (1, .int (iI ((o : Int)))), (2, .int (iI ((n : Int)))), (3, .ref (w.1 14 i))]) [0, 1, 2, 3, 4] rfl ?_
  exact loop m 0 _ (by omega) su_s (fun j => by rw [su_c (by decide)]; exact hdi j) (fun j hj => absurd hj (by omega)) (Fr.su (by simp))

set_option maxHeartbeats 1000000 in
set_option maxRecDepth 100000 in
theorem c_X8_number (l : Launch) (w : Wl) (σ : St) (hk0 : w.2 13 0) (s : Nat) (hs : s < 24) (L : List Nat) (hS : SM1 σ s L) (hB : BY L) (i : Nat) (hi : w.2 14 i) (hdi : NDg σ i) : Cn l yX8_number cX8_number 3 none 2 46 wN [.ref (w.1 13 0), .int (iI ((s : Int))), .ref (w.1 14 i)] w σ (fun _ σ' => NN σ' i (rv L) ∧ Fr [(11, i), (12, i)] σ σ') := by
  refine Cn.of (own := RX8) (lv := [(0, .ref (w.1 13 0)), (1, .int (iI ((s : Int)))), (2, .ref (w.1 14 i))]) (by decide +kernel) rfl (Nat.le_of_ble_eq_true rfl) rfl (fun X hX hxl hR hcl hret => ?_)
  subst hxl
  have hQ : ∀ q, (14, q) ∈ mn σ 13 0 → w.2 14 q := fun q h => hcl 13 0 hk0 (14, q) h
  have hQ5 : ∀ q, (14, q) ∈ mn σ 13 0 → w.2 15 q := fun q h => hcl 14 q (hQ q h) (15, q) (by simp [mn, tp])
  have hQ16 : ∀ q, (16, q) ∈ mn σ 13 0 → w.2 16 q := fun q h => hcl 13 0 hk0 (16, q) h
  have hs2 := hS.1
  have hL := hS.2.1
  refine v_aload_n hX 0 rfl (atL dAX8_number_0 0 rfl) ?_
  refine gf_X8_67 hX hk0 (atL dAX8_number_0 1 rfl) ?_
  refine v_sipush hX (by decide +kernel) (atL dAX8_number_0 2 rfl) ?_
  refine v_iload_n hX 1 rfl (atL dAX8_number_0 3 rfl) ?_
  refine v_imul hX (iI_mul _ _) (atL dAX8_number_0 4 rfl) ?_
  rw [show (256 * ((s : Int))) = ((256 * s : Nat) : Int) from (by omega)]
  refine v_aload_n hX 0 rfl (atL dAX8_number_0 5 rfl) ?_
  refine gf_X8_71 hX hk0 (atL dAX8_number_0 6 rfl) ?_
  refine v_iload_n hX 1 rfl (atL dAX8_number_0 7 rfl) ?_
  refine v_iald hX (r := iI ((L.length : Int))) s (hQ16 1 (by simp [mn, tp])) (fun _ => rfl) rfl (show s < 24 by omega) (by decide) (congrArg iI hs2) (atL dAX8_number_0 8 rfl) ?_
  refine v_aload_n hX 2 rfl (atL dAX8_number_0 9 rfl) ?_
  refine v_callS hX (As := [.ref (w.1 16 0), .int (iI (((256 * s : Nat) : Int))), .int (iI ((L.length : Int))), .ref (w.1 14 i)]) (rest := []) (c_X8_reads (xl X) w σ 0 (hQ16 0 (by simp [mn, tp])) L hB (256 * s) L.length rfl hS.2.2 (by show _ ≤ 6144; omega) hL i hi hdi) lk_X8_263 rfl (by rw [hR]; exact ⟨Nat.le_of_ble_eq_true rfl, Nat.le_of_ble_eq_true rfl⟩) ⟨Nat.zero_le _, Nat.zero_le _⟩ rfl (Nat.le_of_ble_eq_true rfl) (atL dAX8_number_0 10 rfl) (fun _ s1 h1 => ?_)
  show V X _ w _ _ s1 []
  exact v_vret hX (atL dAX8_number_0 11 rfl) (hret () _ h1)
