section ICE
variable {X : CX} {z : Nat × Nat} {w : Wl} {pc nx : Nat} {lv : List (Nat × Value)} {σ : St} {st : List Value} {cc : ByteArray} {nL : Nat} {own : String} {ret : Option FieldType}
theorem v_iconstE (hX : okX X cc nL own ret) {n r : Int} (e : n = r) (hdg : At cc pc (.iconst n) 1 nx) (kk : V X z w nx lv σ (.int (iI r) :: st)) : V X z w pc lv σ st := by
  subst e
  exact v_iconst hX hdg kk
end ICE
theorem n_half_dig (v k : Nat) : n_dgt (v / 2) k = n_dgt v k / 2 + n_dgt v (k + 1) % 2 * 32768 := by
  unfold n_dgt
  rw [Nat.div_div_eq_div_mul, Nat.mul_comm 2, ← Nat.div_div_eq_div_mul, Nat.pow_succ, ← Nat.div_div_eq_div_mul]
  generalize v / 65536 ^ k = x
  omega
theorem n_vB_fN {s : St} {i n v : Nat} (h : ∀ j, j < n → s 12 i j = (n_dgt v j : Int)) (hv : v < 65536 ^ n) : vB 65536 (fN s i) n = v := by
  rw [← n_dgt_all hv]
  exact vB_congr (fun j hj => by show (s 12 i j).toNat = _; rw [h j hj]; omega)

set_option maxHeartbeats 1000000 in
set_option maxRecDepth 100000 in
theorem c_X7_compare (l : Launch) (w : Wl) (σ : St) (i v : Nat) (hi : w.2 14 i) (hN : NN σ i v) (o y : Nat) (hj : w.2 14 o) (hM : NN σ o y)  : Cn l yX7_compare cX7_compare 3 (Option.some Jvm.ClassFile.FieldType.int) 0 0 wI [.ref (w.1 14 i), .ref (w.1 14 o)] w σ (fun a σ' => a = (if v < y then -1 else if v = y then 0 else 1) ∧ σ' = σ) := by
  refine Cn.of (own := RX7) (lv := [(0, .ref (w.1 14 i)), (1, .ref (w.1 14 o))]) (by decide +kernel) rfl (Nat.le_of_ble_eq_true rfl) rfl (fun X hX hxl hR hcl hret => ?_)
  subst hxl
  have hi2 : w.2 15 i := hcl 14 i hi (15, i) (by simp [mn, tp])
  obtain ⟨u, hu, hu8, hd, ht, hv⟩ := hN
  have hj2 : w.2 15 o := hcl 14 o hj (15, o) (by simp [mn, tp])
  obtain ⟨x, hx, hx8, he, hxt, hy⟩ := hM
  have loop : u = x → ∀ (n : Nat), n ≤ u → (∀ j, n ≤ j → j < u → σ 12 i j = σ 12 o j) → V X (0, 0) w 35 [(2, .int (iI ((n : Int) - 1))), (0, .ref (w.1 14 i)), (1, .ref (w.1 14 o))] σ [] := by
    intro hux n
    induction n with
    | zero =>
      intro hn hag
      refine v_iload_n hX 0 rfl (atL dAX7_compare_0 19 rfl) ?_
      refine v_if_lt hX ⟨by omega, by omega⟩ (tgt := 60) (atL dAX7_compare_0 20 rfl) (by decide) (fun h36 => ?_) (fun h36 => absurd h36 (by omega))
      refine v_iload_n hX 0 rfl (atL dAX7_compare_0 32 rfl) ?_
      refine v_if_ge hX ⟨by omega, by omega⟩ (tgt := 68) (atL dAX7_compare_0 33 rfl) (by decide) (fun h61 => absurd h61 (by omega)) (fun h61 => ?_)
      refine v_iconst hX (atL dAX7_compare_0 34 rfl) ?_
      refine v_goto hX (tgt := 88) (atL dAX7_compare_0 35 rfl) (by decide) ?_
      exact v_iret hX (atL dAX7_compare_0 48 rfl) (hret _ _ ⟨by have e := n_dig_eq (y := y) hv (by rw [hux]; exact hy) hag rfl; rw [if_neg (by omega), if_pos e], rfl⟩)
    | succ n ih =>
      intro hn hag
      have hdn := hd n
      have hen := he n
      refine v_iload_n hX 0 rfl (atL dAX7_compare_0 19 rfl) ?_
      refine v_if_lt hX ⟨by omega, by omega⟩ (tgt := 60) (atL dAX7_compare_0 20 rfl) (by decide) (fun h36 => absurd h36 (by omega)) (fun h36 => ?_)
      refine v_aload_n hX 1 rfl (atL dAX7_compare_0 21 rfl) ?_
      refine gf_X7_7 hX hi (atL dAX7_compare_0 22 rfl) ?_
      refine v_iload_n hX 0 rfl (atL dAX7_compare_0 23 rfl) ?_
      refine v_iald hX (r := iI (σ 12 i n)) n hi2 (fun _ => rfl) (by omega) (by omega) (by decide) (congrArg iI (rfl)) (atL dAX7_compare_0 24 rfl) ?_
      refine v_aload_n hX 2 rfl (atL dAX7_compare_0 25 rfl) ?_
      refine gf_X7_7 hX hj (atL dAX7_compare_0 26 rfl) ?_
      refine v_iload_n hX 0 rfl (atL dAX7_compare_0 27 rfl) ?_
      refine v_iald hX (r := iI (σ 12 o n)) n hj2 (fun _ => rfl) (by omega) (by omega) (by decide) (congrArg iI (rfl)) (atL dAX7_compare_0 28 rfl) ?_
      refine v_icmp_ne hX ⟨by omega, by omega⟩ ⟨by omega, by omega⟩ (tgt := 60) (atL dAX7_compare_0 29 rfl) (by decide) (fun h51 => ?_) (fun h51 => ?_)
      · refine v_iload_n hX 0 rfl (atL dAX7_compare_0 32 rfl) ?_
        refine v_if_ge hX ⟨by omega, by omega⟩ (tgt := 68) (atL dAX7_compare_0 33 rfl) (by decide) (fun h61 => ?_) (fun h61 => absurd h61 (by omega))
        refine v_aload_n hX 1 rfl (atL dAX7_compare_0 36 rfl) ?_
        refine gf_X7_7 hX hi (atL dAX7_compare_0 37 rfl) ?_
        refine v_iload_n hX 0 rfl (atL dAX7_compare_0 38 rfl) ?_
        refine v_iald hX (r := iI (σ 12 i n)) n hi2 (fun _ => rfl) (by omega) (by omega) (by decide) (congrArg iI (rfl)) (atL dAX7_compare_0 39 rfl) ?_
        refine v_aload_n hX 2 rfl (atL dAX7_compare_0 40 rfl) ?_
        refine gf_X7_7 hX hj (atL dAX7_compare_0 41 rfl) ?_
        refine v_iload_n hX 0 rfl (atL dAX7_compare_0 42 rfl) ?_
        refine v_iald hX (r := iI (σ 12 o n)) n hj2 (fun _ => rfl) (by omega) (by omega) (by decide) (congrArg iI (rfl)) (atL dAX7_compare_0 43 rfl) ?_
        refine v_icmp_ge hX ⟨by omega, by omega⟩ ⟨by omega, by omega⟩ (tgt := 87) (atL dAX7_compare_0 44 rfl) (by decide) (fun h80 => ?_) (fun h80 => ?_)
        · refine v_iconst hX (atL dAX7_compare_0 47 rfl) ?_
          exact v_iret hX (atL dAX7_compare_0 48 rfl) (hret _ _ ⟨by have e := n_dig_lt (v := y) he hd (by rw [hux]; exact hy) hv (fun j a b => (hag j (by omega) b).symm) (n := n) (by omega) (by omega); rw [if_neg (by omega), if_neg (by omega)], rfl⟩)
        · refine v_iconst hX (atL dAX7_compare_0 45 rfl) ?_
          refine v_goto hX (tgt := 88) (atL dAX7_compare_0 46 rfl) (by decide) ?_
          exact v_iret hX (atL dAX7_compare_0 48 rfl) (hret _ _ ⟨by have e := n_dig_lt (y := y) hd he hv (by rw [hux]; exact hy) (fun j a b => hag j (by omega) b) (n := n) (by omega) (by omega); rw [if_pos e], rfl⟩)
      · refine v_iinc hX (lv' := [(2, .int (iI ((((n + 1 : Nat) : Int) - 1) + (-1)))), (0, .ref (w.1 14 i)), (1, .ref (w.1 14 o))]) 0 rfl (iI_add _ _) (Nat.le_of_ble_eq_true rfl) rfl (atL dAX7_compare_0 30 rfl) ?_
        refine v_goto hX (tgt := 35) (atL dAX7_compare_0 31 rfl) (by decide) ?_
        rw [show ((n + 1 : Nat) : Int) - 1 + (-1) = (n : Int) - 1 by omega]
        exact ih (by omega) (fun j a b => by by_cases e : j = n; rw [e]; omega; exact hag j (by omega) b)
  refine v_aload_n hX 0 rfl (atL dAX7_compare_0 0 rfl) ?_
  refine gf_X7_13 hX (v := (u : Int)) (hu) hi (atL dAX7_compare_0 1 rfl) ?_
  refine v_aload_n hX 1 rfl (atL dAX7_compare_0 2 rfl) ?_
  refine gf_X7_13 hX (v := (x : Int)) (hx) hj (atL dAX7_compare_0 3 rfl) ?_
  refine v_icmp_eq hX ⟨by omega, by omega⟩ ⟨by omega, by omega⟩ (tgt := 28) (atL dAX7_compare_0 4 rfl) (by decide) (fun h8 => ?_) (fun h8 => ?_)
  · refine v_aload_n hX 0 rfl (atL dAX7_compare_0 14 rfl) ?_
    refine gf_X7_13 hX (v := (u : Int)) (hu) hi (atL dAX7_compare_0 15 rfl) ?_
    refine v_iconst hX (atL dAX7_compare_0 16 rfl) ?_
    refine v_isub hX (iI_sub _ _) (atL dAX7_compare_0 17 rfl) ?_
    refine v_istore_n hX (i := 2) rfl (lv' := [(2, .int (iI (((u : Int)) - 1))), (0, .ref (w.1 14 i)), (1, .ref (w.1 14 o))]) (Nat.le_of_ble_eq_true rfl) rfl (atL dAX7_compare_0 18 rfl) ?_
    exact loop (by omega) u (Nat.le_refl u) (fun j a b => absurd a (by omega))
  · refine v_aload_n hX 0 rfl (atL dAX7_compare_0 5 rfl) ?_
    refine gf_X7_13 hX (v := (u : Int)) (hu) hi (atL dAX7_compare_0 6 rfl) ?_
    refine v_aload_n hX 1 rfl (atL dAX7_compare_0 7 rfl) ?_
    refine gf_X7_13 hX (v := (x : Int)) (hx) hj (atL dAX7_compare_0 8 rfl) ?_
    refine v_icmp_ge hX ⟨by omega, by omega⟩ ⟨by omega, by omega⟩ (tgt := 26) (atL dAX7_compare_0 9 rfl) (by decide) (fun h19 => ?_) (fun h19 => ?_)
    · refine v_iconst hX (atL dAX7_compare_0 12 rfl) ?_
      exact v_iret hX (atL dAX7_compare_0 13 rfl) (hret _ _ ⟨by have e := n_used_lt he hy hd ht hv (by omega); rw [if_neg (by omega), if_neg (by omega)], rfl⟩)
    · refine v_iconst hX (atL dAX7_compare_0 10 rfl) ?_
      refine v_goto hX (tgt := 27) (atL dAX7_compare_0 11 rfl) (by decide) ?_
      exact v_iret hX (atL dAX7_compare_0 13 rfl) (hret _ _ ⟨by rw [if_pos (n_used_lt hd hv he hxt hy (by omega))], rfl⟩)

set_option maxHeartbeats 1000000 in
set_option maxRecDepth 100000 in
theorem c_X7_add (l : Launch) (w : Wl) (σ : St) (i v : Nat) (hi : w.2 14 i) (hN : NN σ i v) (o y : Nat) (hj : w.2 14 o) (hM : NN σ o y) (hne : o ≠ i) (hv9 : v < 65536 ^ 269) (hy9 : y < 65536 ^ 269) : Cn l yX7_add cX7_add 5 none 1 20 wN [.ref (w.1 14 i), .ref (w.1 14 o)] w σ (fun _ σ' => NN σ' i (v + y) ∧ Fr [(11, i), (12, i)] σ σ') := by
  refine Cn.of (own := RX7) (lv := [(0, .ref (w.1 14 i)), (1, .ref (w.1 14 o))]) (by decide +kernel) rfl (Nat.le_of_ble_eq_true rfl) rfl (fun X hX hxl hR hcl hret => ?_)
  subst hxl
  have hi2 : w.2 15 i := hcl 14 i hi (15, i) (by simp [mn, tp])
  obtain ⟨u, hu, hu8, hd, ht, hv⟩ := hN
  have hj2 : w.2 15 o := hcl 14 o hj (15, o) (by simp [mn, tp])
  obtain ⟨x, hx, hx8, he, hxt, hy⟩ := hM
  have hu9 := n_used_le hd ht hv hv9
  have hx9 := n_used_le he hxt hy hy9
  have loop : ∀ (m : Nat), m ≤ 269 → u ≤ m → x ≤ m → ∀ (d k : Nat) (c : Int) (s : St), k + d = m → 0 ≤ c → c ≤ 1 → NDg s i → Fr [(12, i)] σ s → (∀ j, k ≤ j → s 12 i j = σ 12 i j) → ((vB 65536 (fN s i) k : Nat) : Int) + c * ((65536 ^ k : Nat) : Int) = ((vB 65536 (n_dgt v) k : Nat) : Int) + ((vB 65536 (n_dgt y) k : Nat) : Int) → V X (0, 0) w 28 [(4, .int (iI ((k : Int)))), (3, .int (iI ((m : Int)))), (2, .int (iI (c))), (0, .ref (w.1 14 i)), (1, .ref (w.1 14 o))] s [] := by
    intro m hm hum hxm d
    induction d with
    | zero =>
      intro k c s hk hc0 hc1 hds hf hag hval
      obtain rfl : k = m := by omega
      have hfin : vB 65536 (fN (su (su s 12 i k c) 11 i 0 ((k : Int) + 1)) i) (k + 1) = v + y := by
        have e := n_vB_suS (σ := s) (i := i) (m := k) hc0
        rw [n_dgt_vB, n_dgt_vB, Nat.mod_eq_of_lt (n_used_lt_pow hd hv hum), Nat.mod_eq_of_lt (n_used_lt_pow he hy hxm)] at hval
        rw [vB_congr (g := fN (su s 12 i k c) i) (fun j _ => by show (su (su s 12 i k c) 11 i 0 ((k : Int) + 1) 12 i j).toNat = _; rw [su_c (by decide)])]
        omega
      refine v_iload hX 0 rfl (atL dAX7_add_0 15 rfl) ?_
      refine v_iload_n hX 1 rfl (atL dAX7_add_0 16 rfl) ?_
      refine v_icmp_ge hX ⟨by omega, by omega⟩ ⟨by omega, by omega⟩ (tgt := 100) (atL dAX7_add_0 17 rfl) (by decide) (fun h31 => ?_) (fun h31 => absurd h31 (by omega))
      refine v_aload_n hX 3 rfl (atL dAX7_add_0 55 rfl) ?_
      refine gf_X7_7 hX hi (atL dAX7_add_0 56 rfl) ?_
      refine v_iload_n hX 1 rfl (atL dAX7_add_0 57 rfl) ?_
      refine v_iload_n hX 2 rfl (atL dAX7_add_0 58 rfl) ?_
      refine v_iast hX (c := 12) k hi2 (by decide) (fun _ _ => rfl) rfl (by omega) (by decide) (atL dAX7_add_0 59 rfl) ?_
      refine v_aload_n hX 3 rfl (atL dAX7_add_1 0 rfl) ?_
      refine v_iload_n hX 1 rfl (atL dAX7_add_1 1 rfl) ?_
      refine v_iconst hX (atL dAX7_add_1 2 rfl) ?_
      refine v_iadd hX (iI_add _ _) (atL dAX7_add_1 3 rfl) ?_
      refine pf_X7_13 hX hi (atL dAX7_add_1 4 rfl) ?_
      refine v_aload_n hX 3 rfl (atL dAX7_add_1 5 rfl) ?_
      refine v_callV hX (As := []) (rest := []) (c_X7_cut (xl X) w (su (su s 12 i k c) 11 i 0 (((k : Int)) + 1)) i hi (fun j => by rw [su_c (by decide)]; exact (hds.su ⟨by omega, by omega⟩) j) (k + 1) (v + y) (by rw [su_s]; omega) (by omega) hfin) lk_X7_23 hi (fun _ => rfl) rfl rfl rfl (by rw [hR]; exact ⟨Nat.le_of_ble_eq_true rfl, Nat.le_of_ble_eq_true rfl⟩) ⟨Nat.zero_le _, Nat.zero_le _⟩ rfl (Nat.le_of_ble_eq_true rfl) (atL dAX7_add_1 6 rfl) (fun _ s1 h1 => ?_)
      obtain ⟨h1a, h1f⟩ := h1
      show V X _ w _ _ s1 []
      exact v_vret hX (atL dAX7_add_1 7 rfl) (hret () _ ⟨h1a, (((hf.mono (by simp)).tr' (Fr.su (by simp))).tr' (Fr.su (by simp))).tr' (h1f.mono (by simp))⟩)
    | succ d ih =>
      intro k c s hk hc0 hc1 hds hf hag hval
      have hsi : s 11 i 0 = (u : Int) := by rw [hf 11 i (by simp)]; exact hu
      have hso : s 11 o 0 = (x : Int) := by rw [hf 11 o (by simp)]; exact hx
      have hro : s 12 o k = σ 12 o k := by rw [hf 12 o (by simp [hne])]
      have hri := hag k (Nat.le_refl k)
      have hgv := n_dgt_WN hd hv k
      have hgy := n_dgt_WN he hy k
      have hlv := n_dgt_lt v k
      have hly := n_dgt_lt y k
      refine v_iload hX 0 rfl (atL dAX7_add_0 15 rfl) ?_
      refine v_iload_n hX 1 rfl (atL dAX7_add_0 16 rfl) ?_
      refine v_icmp_ge hX ⟨by omega, by omega⟩ ⟨by omega, by omega⟩ (tgt := 100) (atL dAX7_add_0 17 rfl) (by decide) (fun h31 => absurd h31 (by omega)) (fun h31 => ?_)
      refine v_iload_n hX 2 rfl (atL dAX7_add_0 18 rfl) ?_
      refine v_iload hX 0 rfl (atL dAX7_add_0 19 rfl) ?_
      refine v_aload_n hX 3 rfl (atL dAX7_add_0 20 rfl) ?_
      refine gf_X7_13 hX (v := (u : Int)) (hsi) hi (atL dAX7_add_0 21 rfl) ?_
      refine v_icmp_ge hX ⟨by omega, by omega⟩ ⟨by omega, by omega⟩ (tgt := 54) (atL dAX7_add_0 22 rfl) (by decide) (fun h41 => ?_) (fun h41 => ?_)
      · refine v_iconstE hX (r := (n_dgt v k : Int)) (by rw [← hgv, if_neg (by omega)]) (atL dAX7_add_0 28 rfl) ?_
        refine v_iload hX 0 rfl (atL dAX7_add_0 29 rfl) ?_
        refine v_aload_n hX 4 rfl (atL dAX7_add_0 30 rfl) ?_
        refine gf_X7_13 hX (v := (x : Int)) (hso) hj (atL dAX7_add_0 31 rfl) ?_
        refine v_icmp_ge hX ⟨by omega, by omega⟩ ⟨by omega, by omega⟩ (tgt := 74) (atL dAX7_add_0 32 rfl) (by decide) (fun h61 => ?_) (fun h61 => ?_)
        · refine v_iconstE hX (r := (n_dgt y k : Int)) (by rw [← hgy, if_neg (by omega)]) (atL dAX7_add_0 38 rfl) ?_
          refine v_iadd hX (iI_add _ _) (atL dAX7_add_0 39 rfl) ?_
          refine v_iadd hX (iI_add _ _) (atL dAX7_add_0 40 rfl) ?_
          refine v_istore_n hX (i := 2) rfl (lv' := [(2, .int (iI (c + (((n_dgt v k : Int)) + ((n_dgt y k : Int)))))), (4, .int (iI ((k : Int)))), (3, .int (iI ((m : Int)))), (0, .ref (w.1 14 i)), (1, .ref (w.1 14 o))]) (Nat.le_of_ble_eq_true rfl) rfl (atL dAX7_add_0 41 rfl) ?_
          refine v_aload_n hX 3 rfl (atL dAX7_add_0 42 rfl) ?_
          refine gf_X7_7 hX hi (atL dAX7_add_0 43 rfl) ?_
          refine v_iload hX 1 rfl (atL dAX7_add_0 44 rfl) ?_
          refine v_iload_n hX 0 rfl (atL dAX7_add_0 45 rfl) ?_
          refine v_ldc hX (r := 65535) wd_1190 (by decide +kernel) (atL dAX7_add_0 46 rfl) ?_
          refine v_iand hX (r := iI ((c + (((n_dgt v k : Int)) + ((n_dgt y k : Int)))) % 65536)) (iI_mask _ 16 (by decide)) (atL dAX7_add_0 47 rfl) ?_
          refine v_iast hX (c := 12) k hi2 (by decide) (fun _ _ => rfl) rfl (by omega) (by decide) (atL dAX7_add_0 48 rfl) ?_
          refine v_iload_n hX 0 rfl (atL dAX7_add_0 49 rfl) ?_
          refine v_bipush hX (by decide +kernel) (atL dAX7_add_0 50 rfl) ?_
          refine v_ishr hX (r := iI ((c + (((n_dgt v k : Int)) + ((n_dgt y k : Int)))) / 65536)) (iI_shr ⟨by omega, by omega⟩ 16 (by decide)) (atL dAX7_add_0 51 rfl) ?_
          refine v_istore_n hX (i := 2) rfl (lv' := [(2, .int (iI ((c + (((n_dgt v k : Int)) + ((n_dgt y k : Int)))) / 65536))), (4, .int (iI ((k : Int)))), (3, .int (iI ((m : Int)))), (0, .ref (w.1 14 i)), (1, .ref (w.1 14 o))]) (Nat.le_of_ble_eq_true rfl) rfl (atL dAX7_add_0 52 rfl) ?_
          refine v_iinc hX (lv' := [(4, .int (iI (((k : Int)) + 1))), (2, .int (iI ((c + (((n_dgt v k : Int)) + ((n_dgt y k : Int)))) / 65536))), (3, .int (iI ((m : Int)))), (0, .ref (w.1 14 i)), (1, .ref (w.1 14 o))]) 1 rfl (iI_add _ _) (Nat.le_of_ble_eq_true rfl) rfl (atL dAX7_add_0 53 rfl) ?_
          refine v_goto hX (tgt := 28) (atL dAX7_add_0 54 rfl) (by decide) ?_
          refine v_sub (lv' := [(4, .int (iI (((k : Int)) + 1))), (3, .int (iI ((m : Int)))), (2, .int (iI ((c + (((n_dgt v k : Int)) + ((n_dgt y k : Int)))) / 65536))), (0, .ref (w.1 14 i)), (1, .ref (w.1 14 o))]) [0, 2, 1, 3, 4] rfl ?_
          rw [show (k : Int) + 1 = ((k + 1 : Nat) : Int) by omega]
          refine ih (k + 1) _ _ (by omega) (by omega) (by omega) (hds.su ⟨by omega, by omega⟩) (hf.tr' (Fr.su (by simp))) (fun j hj => by rw [su_j (by omega)]; exact hag j (by omega)) ?_
          rw [n_vB_suS (by omega), n_dgt_suc, n_dgt_suc, n_pS]
          have e := carry_I (B := 65536) (s := c + ((n_dgt v k : Int) + (n_dgt y k : Int))) (d := (n_dgt v k : Int) + (n_dgt y k : Int)) (r := (c + ((n_dgt v k : Int) + (n_dgt y k : Int))) % 65536) (q := (c + ((n_dgt v k : Int) + (n_dgt y k : Int))) / 65536) hval (by omega) (by omega)
          rw [Int.add_mul] at e
          omega
        · refine v_aload_n hX 4 rfl (atL dAX7_add_0 33 rfl) ?_
          refine gf_X7_7 hX hj (atL dAX7_add_0 34 rfl) ?_
          refine v_iload hX 0 rfl (atL dAX7_add_0 35 rfl) ?_
          refine v_iald hX (r := iI ((n_dgt y k : Int))) k hj2 (fun _ => rfl) rfl (by omega) (by decide) (congrArg iI (by rw [hro, ← hgy, if_pos (by omega)])) (atL dAX7_add_0 36 rfl) ?_
          refine v_goto hX (tgt := 75) (atL dAX7_add_0 37 rfl) (by decide) ?_
          refine v_iadd hX (iI_add _ _) (atL dAX7_add_0 39 rfl) ?_
          refine v_iadd hX (iI_add _ _) (atL dAX7_add_0 40 rfl) ?_
          refine v_istore_n hX (i := 2) rfl (lv' := [(2, .int (iI (c + (((n_dgt v k : Int)) + ((n_dgt y k : Int)))))), (4, .int (iI ((k : Int)))), (3, .int (iI ((m : Int)))), (0, .ref (w.1 14 i)), (1, .ref (w.1 14 o))]) (Nat.le_of_ble_eq_true rfl) rfl (atL dAX7_add_0 41 rfl) ?_
          refine v_aload_n hX 3 rfl (atL dAX7_add_0 42 rfl) ?_
          refine gf_X7_7 hX hi (atL dAX7_add_0 43 rfl) ?_
          refine v_iload hX 1 rfl (atL dAX7_add_0 44 rfl) ?_
          refine v_iload_n hX 0 rfl (atL dAX7_add_0 45 rfl) ?_
          refine v_ldc hX (r := 65535) wd_1190 (by decide +kernel) (atL dAX7_add_0 46 rfl) ?_
          refine v_iand hX (r := iI ((c + (((n_dgt v k : Int)) + ((n_dgt y k : Int)))) % 65536)) (iI_mask _ 16 (by decide)) (atL dAX7_add_0 47 rfl) ?_
          refine v_iast hX (c := 12) k hi2 (by decide) (fun _ _ => rfl) rfl (by omega) (by decide) (atL dAX7_add_0 48 rfl) ?_
          refine v_iload_n hX 0 rfl (atL dAX7_add_0 49 rfl) ?_
          refine v_bipush hX (by decide +kernel) (atL dAX7_add_0 50 rfl) ?_
          refine v_ishr hX (r := iI ((c + (((n_dgt v k : Int)) + ((n_dgt y k : Int)))) / 65536)) (iI_shr ⟨by omega, by omega⟩ 16 (by decide)) (atL dAX7_add_0 51 rfl) ?_
          refine v_istore_n hX (i := 2) rfl (lv' := [(2, .int (iI ((c + (((n_dgt v k : Int)) + ((n_dgt y k : Int)))) / 65536))), (4, .int (iI ((k : Int)))), (3, .int (iI ((m : Int)))), (0, .ref (w.1 14 i)), (1, .ref (w.1 14 o))]) (Nat.le_of_ble_eq_true rfl) rfl (atL dAX7_add_0 52 rfl) ?_
          refine v_iinc hX (lv' := [(4, .int (iI (((k : Int)) + 1))), (2, .int (iI ((c + (((n_dgt v k : Int)) + ((n_dgt y k : Int)))) / 65536))), (3, .int (iI ((m : Int)))), (0, .ref (w.1 14 i)), (1, .ref (w.1 14 o))]) 1 rfl (iI_add _ _) (Nat.le_of_ble_eq_true rfl) rfl (atL dAX7_add_0 53 rfl) ?_
          refine v_goto hX (tgt := 28) (atL dAX7_add_0 54 rfl) (by decide) ?_
          refine v_sub (lv' := [(4, .int (iI (((k : Int)) + 1))), (3, .int (iI ((m : Int)))), (2, .int (iI ((c + (((n_dgt v k : Int)) + ((n_dgt y k : Int)))) / 65536))), (0, .ref (w.1 14 i)), (1, .ref (w.1 14 o))]) [0, 2, 1, 3, 4] rfl ?_
          rw [show (k : Int) + 1 = ((k + 1 : Nat) : Int) by omega]
          refine ih (k + 1) _ _ (by omega) (by omega) (by omega) (hds.su ⟨by omega, by omega⟩) (hf.tr' (Fr.su (by simp))) (fun j hj => by rw [su_j (by omega)]; exact hag j (by omega)) ?_
          rw [n_vB_suS (by omega), n_dgt_suc, n_dgt_suc, n_pS]
          have e := carry_I (B := 65536) (s := c + ((n_dgt v k : Int) + (n_dgt y k : Int))) (d := (n_dgt v k : Int) + (n_dgt y k : Int)) (r := (c + ((n_dgt v k : Int) + (n_dgt y k : Int))) % 65536) (q := (c + ((n_dgt v k : Int) + (n_dgt y k : Int))) / 65536) hval (by omega) (by omega)
          rw [Int.add_mul] at e
          omega
      · refine v_aload_n hX 3 rfl (atL dAX7_add_0 23 rfl) ?_
        refine gf_X7_7 hX hi (atL dAX7_add_0 24 rfl) ?_
        refine v_iload hX 0 rfl (atL dAX7_add_0 25 rfl) ?_
        refine v_iald hX (r := iI ((n_dgt v k : Int))) k hi2 (fun _ => rfl) rfl (by omega) (by decide) (congrArg iI (by rw [hri, ← hgv, if_pos (by omega)])) (atL dAX7_add_0 26 rfl) ?_
        refine v_goto hX (tgt := 55) (atL dAX7_add_0 27 rfl) (by decide) ?_
        refine v_iload hX 0 rfl (atL dAX7_add_0 29 rfl) ?_
        refine v_aload_n hX 4 rfl (atL dAX7_add_0 30 rfl) ?_
        refine gf_X7_13 hX (v := (x : Int)) (hso) hj (atL dAX7_add_0 31 rfl) ?_
        refine v_icmp_ge hX ⟨by omega, by omega⟩ ⟨by omega, by omega⟩ (tgt := 74) (atL dAX7_add_0 32 rfl) (by decide) (fun h61 => ?_) (fun h61 => ?_)
        · refine v_iconstE hX (r := (n_dgt y k : Int)) (by rw [← hgy, if_neg (by omega)]) (atL dAX7_add_0 38 rfl) ?_
          refine v_iadd hX (iI_add _ _) (atL dAX7_add_0 39 rfl) ?_
          refine v_iadd hX (iI_add _ _) (atL dAX7_add_0 40 rfl) ?_
          refine v_istore_n hX (i := 2) rfl (lv' := [(2, .int (iI (c + (((n_dgt v k : Int)) + ((n_dgt y k : Int)))))), (4, .int (iI ((k : Int)))), (3, .int (iI ((m : Int)))), (0, .ref (w.1 14 i)), (1, .ref (w.1 14 o))]) (Nat.le_of_ble_eq_true rfl) rfl (atL dAX7_add_0 41 rfl) ?_
          refine v_aload_n hX 3 rfl (atL dAX7_add_0 42 rfl) ?_
          refine gf_X7_7 hX hi (atL dAX7_add_0 43 rfl) ?_
          refine v_iload hX 1 rfl (atL dAX7_add_0 44 rfl) ?_
          refine v_iload_n hX 0 rfl (atL dAX7_add_0 45 rfl) ?_
          refine v_ldc hX (r := 65535) wd_1190 (by decide +kernel) (atL dAX7_add_0 46 rfl) ?_
          refine v_iand hX (r := iI ((c + (((n_dgt v k : Int)) + ((n_dgt y k : Int)))) % 65536)) (iI_mask _ 16 (by decide)) (atL dAX7_add_0 47 rfl) ?_
          refine v_iast hX (c := 12) k hi2 (by decide) (fun _ _ => rfl) rfl (by omega) (by decide) (atL dAX7_add_0 48 rfl) ?_
          refine v_iload_n hX 0 rfl (atL dAX7_add_0 49 rfl) ?_
          refine v_bipush hX (by decide +kernel) (atL dAX7_add_0 50 rfl) ?_
          refine v_ishr hX (r := iI ((c + (((n_dgt v k : Int)) + ((n_dgt y k : Int)))) / 65536)) (iI_shr ⟨by omega, by omega⟩ 16 (by decide)) (atL dAX7_add_0 51 rfl) ?_
          refine v_istore_n hX (i := 2) rfl (lv' := [(2, .int (iI ((c + (((n_dgt v k : Int)) + ((n_dgt y k : Int)))) / 65536))), (4, .int (iI ((k : Int)))), (3, .int (iI ((m : Int)))), (0, .ref (w.1 14 i)), (1, .ref (w.1 14 o))]) (Nat.le_of_ble_eq_true rfl) rfl (atL dAX7_add_0 52 rfl) ?_
          refine v_iinc hX (lv' := [(4, .int (iI (((k : Int)) + 1))), (2, .int (iI ((c + (((n_dgt v k : Int)) + ((n_dgt y k : Int)))) / 65536))), (3, .int (iI ((m : Int)))), (0, .ref (w.1 14 i)), (1, .ref (w.1 14 o))]) 1 rfl (iI_add _ _) (Nat.le_of_ble_eq_true rfl) rfl (atL dAX7_add_0 53 rfl) ?_
          refine v_goto hX (tgt := 28) (atL dAX7_add_0 54 rfl) (by decide) ?_
          refine v_sub (lv' := [(4, .int (iI (((k : Int)) + 1))), (3, .int (iI ((m : Int)))), (2, .int (iI ((c + (((n_dgt v k : Int)) + ((n_dgt y k : Int)))) / 65536))), (0, .ref (w.1 14 i)), (1, .ref (w.1 14 o))]) [0, 2, 1, 3, 4] rfl ?_
          rw [show (k : Int) + 1 = ((k + 1 : Nat) : Int) by omega]
          refine ih (k + 1) _ _ (by omega) (by omega) (by omega) (hds.su ⟨by omega, by omega⟩) (hf.tr' (Fr.su (by simp))) (fun j hj => by rw [su_j (by omega)]; exact hag j (by omega)) ?_
          rw [n_vB_suS (by omega), n_dgt_suc, n_dgt_suc, n_pS]
          have e := carry_I (B := 65536) (s := c + ((n_dgt v k : Int) + (n_dgt y k : Int))) (d := (n_dgt v k : Int) + (n_dgt y k : Int)) (r := (c + ((n_dgt v k : Int) + (n_dgt y k : Int))) % 65536) (q := (c + ((n_dgt v k : Int) + (n_dgt y k : Int))) / 65536) hval (by omega) (by omega)
          rw [Int.add_mul] at e
          omega
        · refine v_aload_n hX 4 rfl (atL dAX7_add_0 33 rfl) ?_
          refine gf_X7_7 hX hj (atL dAX7_add_0 34 rfl) ?_
          refine v_iload hX 0 rfl (atL dAX7_add_0 35 rfl) ?_
          refine v_iald hX (r := iI ((n_dgt y k : Int))) k hj2 (fun _ => rfl) rfl (by omega) (by decide) (congrArg iI (by rw [hro, ← hgy, if_pos (by omega)])) (atL dAX7_add_0 36 rfl) ?_
          refine v_goto hX (tgt := 75) (atL dAX7_add_0 37 rfl) (by decide) ?_
          refine v_iadd hX (iI_add _ _) (atL dAX7_add_0 39 rfl) ?_
          refine v_iadd hX (iI_add _ _) (atL dAX7_add_0 40 rfl) ?_
          refine v_istore_n hX (i := 2) rfl (lv' := [(2, .int (iI (c + (((n_dgt v k : Int)) + ((n_dgt y k : Int)))))), (4, .int (iI ((k : Int)))), (3, .int (iI ((m : Int)))), (0, .ref (w.1 14 i)), (1, .ref (w.1 14 o))]) (Nat.le_of_ble_eq_true rfl) rfl (atL dAX7_add_0 41 rfl) ?_
          refine v_aload_n hX 3 rfl (atL dAX7_add_0 42 rfl) ?_
          refine gf_X7_7 hX hi (atL dAX7_add_0 43 rfl) ?_
          refine v_iload hX 1 rfl (atL dAX7_add_0 44 rfl) ?_
          refine v_iload_n hX 0 rfl (atL dAX7_add_0 45 rfl) ?_
          refine v_ldc hX (r := 65535) wd_1190 (by decide +kernel) (atL dAX7_add_0 46 rfl) ?_
          refine v_iand hX (r := iI ((c + (((n_dgt v k : Int)) + ((n_dgt y k : Int)))) % 65536)) (iI_mask _ 16 (by decide)) (atL dAX7_add_0 47 rfl) ?_
          refine v_iast hX (c := 12) k hi2 (by decide) (fun _ _ => rfl) rfl (by omega) (by decide) (atL dAX7_add_0 48 rfl) ?_
          refine v_iload_n hX 0 rfl (atL dAX7_add_0 49 rfl) ?_
          refine v_bipush hX (by decide +kernel) (atL dAX7_add_0 50 rfl) ?_
          refine v_ishr hX (r := iI ((c + (((n_dgt v k : Int)) + ((n_dgt y k : Int)))) / 65536)) (iI_shr ⟨by omega, by omega⟩ 16 (by decide)) (atL dAX7_add_0 51 rfl) ?_
          refine v_istore_n hX (i := 2) rfl (lv' := [(2, .int (iI ((c + (((n_dgt v k : Int)) + ((n_dgt y k : Int)))) / 65536))), (4, .int (iI ((k : Int)))), (3, .int (iI ((m : Int)))), (0, .ref (w.1 14 i)), (1, .ref (w.1 14 o))]) (Nat.le_of_ble_eq_true rfl) rfl (atL dAX7_add_0 52 rfl) ?_
          refine v_iinc hX (lv' := [(4, .int (iI (((k : Int)) + 1))), (2, .int (iI ((c + (((n_dgt v k : Int)) + ((n_dgt y k : Int)))) / 65536))), (3, .int (iI ((m : Int)))), (0, .ref (w.1 14 i)), (1, .ref (w.1 14 o))]) 1 rfl (iI_add _ _) (Nat.le_of_ble_eq_true rfl) rfl (atL dAX7_add_0 53 rfl) ?_
          refine v_goto hX (tgt := 28) (atL dAX7_add_0 54 rfl) (by decide) ?_
          refine v_sub (lv' := [(4, .int (iI (((k : Int)) + 1))), (3, .int (iI ((m : Int)))), (2, .int (iI ((c + (((n_dgt v k : Int)) + ((n_dgt y k : Int)))) / 65536))), (0, .ref (w.1 14 i)), (1, .ref (w.1 14 o))]) [0, 2, 1, 3, 4] rfl ?_
          rw [show (k : Int) + 1 = ((k + 1 : Nat) : Int) by omega]
          refine ih (k + 1) _ _ (by omega) (by omega) (by omega) (hds.su ⟨by omega, by omega⟩) (hf.tr' (Fr.su (by simp))) (fun j hj => by rw [su_j (by omega)]; exact hag j (by omega)) ?_
          rw [n_vB_suS (by omega), n_dgt_suc, n_dgt_suc, n_pS]
          have e := carry_I (B := 65536) (s := c + ((n_dgt v k : Int) + (n_dgt y k : Int))) (d := (n_dgt v k : Int) + (n_dgt y k : Int)) (r := (c + ((n_dgt v k : Int) + (n_dgt y k : Int))) % 65536) (q := (c + ((n_dgt v k : Int) + (n_dgt y k : Int))) / 65536) hval (by omega) (by omega)
          rw [Int.add_mul] at e
          omega
  refine v_iconst hX (atL dAX7_add_0 0 rfl) ?_
  refine v_istore_n hX (i := 2) rfl (lv' := [(2, .int (iI (0))), (0, .ref (w.1 14 i)), (1, .ref (w.1 14 o))]) (Nat.le_of_ble_eq_true rfl) rfl (atL dAX7_add_0 1 rfl) ?_
  refine v_aload_n hX 1 rfl (atL dAX7_add_0 2 rfl) ?_
  refine gf_X7_13 hX (v := (u : Int)) (hu) hi (atL dAX7_add_0 3 rfl) ?_
  refine v_aload_n hX 2 rfl (atL dAX7_add_0 4 rfl) ?_
  refine gf_X7_13 hX (v := (x : Int)) (hx) hj (atL dAX7_add_0 5 rfl) ?_
  refine v_icmp_le hX ⟨by omega, by omega⟩ ⟨by omega, by omega⟩ (tgt := 20) (atL dAX7_add_0 6 rfl) (by decide) (fun h10 => ?_) (fun h10 => ?_)
  · refine v_aload_n hX 2 rfl (atL dAX7_add_0 10 rfl) ?_
    refine gf_X7_13 hX (v := (x : Int)) (hx) hj (atL dAX7_add_0 11 rfl) ?_
    refine v_istore_n hX (i := 3) rfl (lv' := [(3, .int (iI ((x : Int)))), (2, .int (iI (0))), (0, .ref (w.1 14 i)), (1, .ref (w.1 14 o))]) (Nat.le_of_ble_eq_true rfl) rfl (atL dAX7_add_0 12 rfl) ?_
    refine v_iconst hX (atL dAX7_add_0 13 rfl) ?_
    refine v_istore hX (lv' := [(4, .int (iI (0))), (3, .int (iI ((x : Int)))), (2, .int (iI (0))), (0, .ref (w.1 14 i)), (1, .ref (w.1 14 o))]) (Nat.le_of_ble_eq_true rfl) rfl (atL dAX7_add_0 14 rfl) ?_
    exact loop x (by omega) (by omega) (by omega) x 0 0 σ (by omega) (by omega) (by omega) hd Fr.rf (fun j _ => rfl) rfl
  · refine v_aload_n hX 1 rfl (atL dAX7_add_0 7 rfl) ?_
    refine gf_X7_13 hX (v := (u : Int)) (hu) hi (atL dAX7_add_0 8 rfl) ?_
    refine v_goto hX (tgt := 24) (atL dAX7_add_0 9 rfl) (by decide) ?_
    refine v_istore_n hX (i := 3) rfl (lv' := [(3, .int (iI ((u : Int)))), (2, .int (iI (0))), (0, .ref (w.1 14 i)), (1, .ref (w.1 14 o))]) (Nat.le_of_ble_eq_true rfl) rfl (atL dAX7_add_0 12 rfl) ?_
    refine v_iconst hX (atL dAX7_add_0 13 rfl) ?_
    refine v_istore hX (lv' := [(4, .int (iI (0))), (3, .int (iI ((u : Int)))), (2, .int (iI (0))), (0, .ref (w.1 14 i)), (1, .ref (w.1 14 o))]) (Nat.le_of_ble_eq_true rfl) rfl (atL dAX7_add_0 14 rfl) ?_
    exact loop u (by omega) (by omega) (by omega) u 0 0 σ (by omega) (by omega) (by omega) hd Fr.rf (fun j _ => rfl) rfl

set_option maxHeartbeats 1000000 in
set_option maxRecDepth 100000 in
theorem c_X7_less (l : Launch) (w : Wl) (σ : St) (i v : Nat) (hi : w.2 14 i) (hN : NN σ i v) (o y : Nat) (hj : w.2 14 o) (hM : NN σ o y) (hne : o ≠ i) (hyv : y ≤ v) : Cn l yX7_less cX7_less 4 none 1 20 wN [.ref (w.1 14 i), .ref (w.1 14 o)] w σ (fun _ σ' => NN σ' i (v - y) ∧ Fr [(11, i), (12, i)] σ σ') := by
  refine Cn.of (own := RX7) (lv := [(0, .ref (w.1 14 i)), (1, .ref (w.1 14 o))]) (by decide +kernel) rfl (Nat.le_of_ble_eq_true rfl) rfl (fun X hX hxl hR hcl hret => ?_)
  subst hxl
  have hi2 : w.2 15 i := hcl 14 i hi (15, i) (by simp [mn, tp])
  obtain ⟨u, hu, hu8, hd, ht, hv⟩ := hN
  have hj2 : w.2 15 o := hcl 14 o hj (15, o) (by simp [mn, tp])
  obtain ⟨x, hx, hx8, he, hxt, hy⟩ := hM
  have hxu : x ≤ u := Nat.le_of_not_lt (fun q => absurd (n_used_lt hd hv he hxt hy q) (by omega))
  have loop : ∀ (d k : Nat) (c : Int) (s : St), k + d = u → (c = 0 ∨ c = -1) → NDg s i → Fr [(12, i)] σ s → (∀ j, k ≤ j → s 12 i j = σ 12 i j) → ((vB 65536 (fN s i) k : Nat) : Int) + c * ((65536 ^ k : Nat) : Int) = ((vB 65536 (n_dgt v) k : Nat) : Int) - ((vB 65536 (n_dgt y) k : Nat) : Int) → V X (0, 0) w 4 [(3, .int (iI ((k : Int)))), (2, .int (iI (c))), (0, .ref (w.1 14 i)), (1, .ref (w.1 14 o))] s [] := by
    intro d
    induction d with
    | zero =>
      intro k c s hk hc hds hf hag hval
      obtain rfl : k = u := by omega
      have hsi : s 11 i 0 = (k : Int) := by rw [hf 11 i (by simp)]; exact hu
      have hfin : vB 65536 (fN s i) k = v - y := by
        rw [n_dgt_vB, n_dgt_vB, Nat.mod_eq_of_lt (n_used_lt_pow hd hv (Nat.le_refl k)), Nat.mod_eq_of_lt (n_used_lt_pow he hy hxu)] at hval
        have hX := vB_lt (b := 65536) (f := fN s i) (n := k) (fun j _ => n_dg_lt hds j)
        have e := no_borrow hval (by omega) (by omega) hc
        omega
      refine v_iload_n hX 0 rfl (atL dAX7_less_0 4 rfl) ?_
      refine v_aload_n hX 2 rfl (atL dAX7_less_0 5 rfl) ?_
      refine gf_X7_13 hX (v := (k : Int)) (hsi) hi (atL dAX7_less_0 6 rfl) ?_
      refine v_icmp_ge hX ⟨by omega, by omega⟩ ⟨by omega, by omega⟩ (tgt := 61) (atL dAX7_less_0 7 rfl) (by decide) (fun h9 => ?_) (fun h9 => absurd h9 (by omega))
      refine v_aload_n hX 2 rfl (atL dAX7_less_0 39 rfl) ?_
      refine v_callV hX (As := []) (rest := []) (c_X7_cut (xl X) w s i hi hds k (v - y) hsi (by omega) hfin) lk_X7_23 hi (fun _ => rfl) rfl rfl rfl (by rw [hR]; exact ⟨Nat.le_of_ble_eq_true rfl, Nat.le_of_ble_eq_true rfl⟩) ⟨Nat.zero_le _, Nat.zero_le _⟩ rfl (Nat.le_of_ble_eq_true rfl) (atL dAX7_less_0 40 rfl) (fun _ s1 h1 => ?_)
      obtain ⟨h1a, h1f⟩ := h1
      show V X _ w _ _ s1 []
      exact v_vret hX (atL dAX7_less_0 41 rfl) (hret () _ ⟨h1a, (hf.mono (by simp)).tr' (h1f.mono (by simp))⟩)
    | succ d ih =>
      intro k c s hk hc hds hf hag hval
      have hsi : s 11 i 0 = (u : Int) := by rw [hf 11 i (by simp)]; exact hu
      have hso : s 11 o 0 = (x : Int) := by rw [hf 11 o (by simp)]; exact hx
      have hro : s 12 o k = σ 12 o k := by rw [hf 12 o (by simp [hne])]
      have hri := hag k (Nat.le_refl k)
      have hgv := n_dgt_WN hd hv k
      have hgy := n_dgt_WN he hy k
      have hlv := n_dgt_lt v k
      have hly := n_dgt_lt y k
      refine v_iload_n hX 0 rfl (atL dAX7_less_0 4 rfl) ?_
      refine v_aload_n hX 2 rfl (atL dAX7_less_0 5 rfl) ?_
      refine gf_X7_13 hX (v := (u : Int)) (hsi) hi (atL dAX7_less_0 6 rfl) ?_
      refine v_icmp_ge hX ⟨by omega, by omega⟩ ⟨by omega, by omega⟩ (tgt := 61) (atL dAX7_less_0 7 rfl) (by decide) (fun h9 => absurd h9 (by omega)) (fun h9 => ?_)
      refine v_iload_n hX 1 rfl (atL dAX7_less_0 8 rfl) ?_
      refine v_aload_n hX 2 rfl (atL dAX7_less_0 9 rfl) ?_
      refine gf_X7_7 hX hi (atL dAX7_less_0 10 rfl) ?_
      refine v_iload_n hX 0 rfl (atL dAX7_less_0 11 rfl) ?_
      refine v_iald hX (r := iI ((n_dgt v k : Int))) k hi2 (fun _ => rfl) rfl (by omega) (by decide) (congrArg iI (by rw [hri, ← hgv, if_pos (by omega)])) (atL dAX7_less_0 12 rfl) ?_
      refine v_iload_n hX 0 rfl (atL dAX7_less_0 13 rfl) ?_
      refine v_aload_n hX 3 rfl (atL dAX7_less_0 14 rfl) ?_
      refine gf_X7_13 hX (v := (x : Int)) (hso) hj (atL dAX7_less_0 15 rfl) ?_
      refine v_icmp_ge hX ⟨by omega, by omega⟩ ⟨by omega, by omega⟩ (tgt := 36) (atL dAX7_less_0 16 rfl) (by decide) (fun h24 => ?_) (fun h24 => ?_)
      · refine v_iconstE hX (r := (n_dgt y k : Int)) (by rw [← hgy, if_neg (by omega)]) (atL dAX7_less_0 22 rfl) ?_
        refine v_isub hX (iI_sub _ _) (atL dAX7_less_0 23 rfl) ?_
        refine v_iadd hX (iI_add _ _) (atL dAX7_less_0 24 rfl) ?_
        refine v_istore_n hX (i := 2) rfl (lv' := [(2, .int (iI (c + (((n_dgt v k : Int)) - ((n_dgt y k : Int)))))), (3, .int (iI ((k : Int)))), (0, .ref (w.1 14 i)), (1, .ref (w.1 14 o))]) (Nat.le_of_ble_eq_true rfl) rfl (atL dAX7_less_0 25 rfl) ?_
        refine v_aload_n hX 2 rfl (atL dAX7_less_0 26 rfl) ?_
        refine gf_X7_7 hX hi (atL dAX7_less_0 27 rfl) ?_
        refine v_iload_n hX 1 rfl (atL dAX7_less_0 28 rfl) ?_
        refine v_iload_n hX 0 rfl (atL dAX7_less_0 29 rfl) ?_
        refine v_ldc hX (r := 65535) wd_1190 (by decide +kernel) (atL dAX7_less_0 30 rfl) ?_
        refine v_iand hX (r := iI ((c + (((n_dgt v k : Int)) - ((n_dgt y k : Int)))) % 65536)) (iI_mask _ 16 (by decide)) (atL dAX7_less_0 31 rfl) ?_
        refine v_iast hX (c := 12) k hi2 (by decide) (fun _ _ => rfl) rfl (by omega) (by decide) (atL dAX7_less_0 32 rfl) ?_
        refine v_iload_n hX 0 rfl (atL dAX7_less_0 33 rfl) ?_
        refine v_bipush hX (by decide +kernel) (atL dAX7_less_0 34 rfl) ?_
        refine v_ishr hX (r := iI ((c + (((n_dgt v k : Int)) - ((n_dgt y k : Int)))) / 65536)) (iI_shr ⟨by omega, by omega⟩ 16 (by decide)) (atL dAX7_less_0 35 rfl) ?_
        refine v_istore_n hX (i := 2) rfl (lv' := [(2, .int (iI ((c + (((n_dgt v k : Int)) - ((n_dgt y k : Int)))) / 65536))), (3, .int (iI ((k : Int)))), (0, .ref (w.1 14 i)), (1, .ref (w.1 14 o))]) (Nat.le_of_ble_eq_true rfl) rfl (atL dAX7_less_0 36 rfl) ?_
        refine v_iinc hX (lv' := [(3, .int (iI (((k : Int)) + 1))), (2, .int (iI ((c + (((n_dgt v k : Int)) - ((n_dgt y k : Int)))) / 65536))), (0, .ref (w.1 14 i)), (1, .ref (w.1 14 o))]) 1 rfl (iI_add _ _) (Nat.le_of_ble_eq_true rfl) rfl (atL dAX7_less_0 37 rfl) ?_
        refine v_goto hX (tgt := 4) (atL dAX7_less_0 38 rfl) (by decide) ?_
        refine v_sub (lv' := [(3, .int (iI (((k : Int)) + 1))), (2, .int (iI ((c + (((n_dgt v k : Int)) - ((n_dgt y k : Int)))) / 65536))), (0, .ref (w.1 14 i)), (1, .ref (w.1 14 o))]) [0, 1, 2, 3] rfl ?_
        rw [show (k : Int) + 1 = ((k + 1 : Nat) : Int) by omega]
        refine ih (k + 1) _ _ (by omega) (by omega) (hds.su ⟨by omega, by omega⟩) (hf.tr' (Fr.su (by simp))) (fun j hj => by rw [su_j (by omega)]; exact hag j (by omega)) ?_
        rw [n_vB_suS (by omega), n_dgt_suc, n_dgt_suc, n_pS]
        have e := carry_I (B := 65536) (s := c + ((n_dgt v k : Int) - (n_dgt y k : Int))) (d := (n_dgt v k : Int) - (n_dgt y k : Int)) (r := (c + ((n_dgt v k : Int) - (n_dgt y k : Int))) % 65536) (q := (c + ((n_dgt v k : Int) - (n_dgt y k : Int))) / 65536) hval (by omega) (by omega)
        rw [Int.sub_mul] at e
        omega
      · refine v_aload_n hX 3 rfl (atL dAX7_less_0 17 rfl) ?_
        refine gf_X7_7 hX hj (atL dAX7_less_0 18 rfl) ?_
        refine v_iload_n hX 0 rfl (atL dAX7_less_0 19 rfl) ?_
        refine v_iald hX (r := iI ((n_dgt y k : Int))) k hj2 (fun _ => rfl) rfl (by omega) (by decide) (congrArg iI (by rw [hro, ← hgy, if_pos (by omega)])) (atL dAX7_less_0 20 rfl) ?_
        refine v_goto hX (tgt := 37) (atL dAX7_less_0 21 rfl) (by decide) ?_
        refine v_isub hX (iI_sub _ _) (atL dAX7_less_0 23 rfl) ?_
        refine v_iadd hX (iI_add _ _) (atL dAX7_less_0 24 rfl) ?_
        refine v_istore_n hX (i := 2) rfl (lv' := [(2, .int (iI (c + (((n_dgt v k : Int)) - ((n_dgt y k : Int)))))), (3, .int (iI ((k : Int)))), (0, .ref (w.1 14 i)), (1, .ref (w.1 14 o))]) (Nat.le_of_ble_eq_true rfl) rfl (atL dAX7_less_0 25 rfl) ?_
        refine v_aload_n hX 2 rfl (atL dAX7_less_0 26 rfl) ?_
        refine gf_X7_7 hX hi (atL dAX7_less_0 27 rfl) ?_
        refine v_iload_n hX 1 rfl (atL dAX7_less_0 28 rfl) ?_
        refine v_iload_n hX 0 rfl (atL dAX7_less_0 29 rfl) ?_
        refine v_ldc hX (r := 65535) wd_1190 (by decide +kernel) (atL dAX7_less_0 30 rfl) ?_
        refine v_iand hX (r := iI ((c + (((n_dgt v k : Int)) - ((n_dgt y k : Int)))) % 65536)) (iI_mask _ 16 (by decide)) (atL dAX7_less_0 31 rfl) ?_
        refine v_iast hX (c := 12) k hi2 (by decide) (fun _ _ => rfl) rfl (by omega) (by decide) (atL dAX7_less_0 32 rfl) ?_
        refine v_iload_n hX 0 rfl (atL dAX7_less_0 33 rfl) ?_
        refine v_bipush hX (by decide +kernel) (atL dAX7_less_0 34 rfl) ?_
        refine v_ishr hX (r := iI ((c + (((n_dgt v k : Int)) - ((n_dgt y k : Int)))) / 65536)) (iI_shr ⟨by omega, by omega⟩ 16 (by decide)) (atL dAX7_less_0 35 rfl) ?_
        refine v_istore_n hX (i := 2) rfl (lv' := [(2, .int (iI ((c + (((n_dgt v k : Int)) - ((n_dgt y k : Int)))) / 65536))), (3, .int (iI ((k : Int)))), (0, .ref (w.1 14 i)), (1, .ref (w.1 14 o))]) (Nat.le_of_ble_eq_true rfl) rfl (atL dAX7_less_0 36 rfl) ?_
        refine v_iinc hX (lv' := [(3, .int (iI (((k : Int)) + 1))), (2, .int (iI ((c + (((n_dgt v k : Int)) - ((n_dgt y k : Int)))) / 65536))), (0, .ref (w.1 14 i)), (1, .ref (w.1 14 o))]) 1 rfl (iI_add _ _) (Nat.le_of_ble_eq_true rfl) rfl (atL dAX7_less_0 37 rfl) ?_
        refine v_goto hX (tgt := 4) (atL dAX7_less_0 38 rfl) (by decide) ?_
        refine v_sub (lv' := [(3, .int (iI (((k : Int)) + 1))), (2, .int (iI ((c + (((n_dgt v k : Int)) - ((n_dgt y k : Int)))) / 65536))), (0, .ref (w.1 14 i)), (1, .ref (w.1 14 o))]) [0, 1, 2, 3] rfl ?_
        rw [show (k : Int) + 1 = ((k + 1 : Nat) : Int) by omega]
        refine ih (k + 1) _ _ (by omega) (by omega) (hds.su ⟨by omega, by omega⟩) (hf.tr' (Fr.su (by simp))) (fun j hj => by rw [su_j (by omega)]; exact hag j (by omega)) ?_
        rw [n_vB_suS (by omega), n_dgt_suc, n_dgt_suc, n_pS]
        have e := carry_I (B := 65536) (s := c + ((n_dgt v k : Int) - (n_dgt y k : Int))) (d := (n_dgt v k : Int) - (n_dgt y k : Int)) (r := (c + ((n_dgt v k : Int) - (n_dgt y k : Int))) % 65536) (q := (c + ((n_dgt v k : Int) - (n_dgt y k : Int))) / 65536) hval (by omega) (by omega)
        rw [Int.sub_mul] at e
        omega
  refine v_iconst hX (atL dAX7_less_0 0 rfl) ?_
  refine v_istore_n hX (i := 2) rfl (lv' := [(2, .int (iI (0))), (0, .ref (w.1 14 i)), (1, .ref (w.1 14 o))]) (Nat.le_of_ble_eq_true rfl) rfl (atL dAX7_less_0 1 rfl) ?_
  refine v_iconst hX (atL dAX7_less_0 2 rfl) ?_
  refine v_istore_n hX (i := 3) rfl (lv' := [(3, .int (iI (0))), (2, .int (iI (0))), (0, .ref (w.1 14 i)), (1, .ref (w.1 14 o))]) (Nat.le_of_ble_eq_true rfl) rfl (atL dAX7_less_0 3 rfl) ?_
  refine v_sub (lv' := [(3, .int (iI (0))), (2, .int (iI (0))), (0, .ref (w.1 14 i)), (1, .ref (w.1 14 o))]) [0, 1, 2, 3] rfl ?_
  exact loop u 0 0 σ (by omega) (Or.inl rfl) hd Fr.rf (fun j _ => rfl) rfl

theorem iI_or3 {a b k : Nat} (ha : a < 2 ^ k) (hb : 2 ^ k ∣ b) (hs : a + b < 4294967296) : iI (a : Int) ||| iI (b : Int) = iI ((a + b : Nat) : Int) := by
  rw [Int32.or_comm, iI_or ha hb hs, Nat.add_comm]

set_option maxHeartbeats 1000000 in
set_option maxRecDepth 100000 in
theorem c_X7_half (l : Launch) (w : Wl) (σ : St) (i v : Nat) (hi : w.2 14 i) (hN : NN σ i v)  : Cn l yX7_half cX7_half 2 none 1 20 wN [.ref (w.1 14 i)] w σ (fun _ σ' => NN σ' i (v / 2) ∧ Fr [(11, i), (12, i)] σ σ') := by
  refine Cn.of (own := RX7) (lv := [(0, .ref (w.1 14 i))]) (by decide +kernel) rfl (Nat.le_of_ble_eq_true rfl) rfl (fun X hX hxl hR hcl hret => ?_)
  subst hxl
  have hi2 : w.2 15 i := hcl 14 i hi (15, i) (by simp [mn, tp])
  obtain ⟨u, hu, hu8, hd, ht, hv⟩ := hN
  have loop : ∀ (d k : Nat) (s : St), k + d = u → (∀ j, j < k → s 12 i j = (n_dgt (v / 2) j : Int)) → (∀ j, k ≤ j → s 12 i j = σ 12 i j) → NDg s i → Fr [(12, i)] σ s → V X (0, 0) w 2 [(1, .int (iI ((k : Int)))), (0, .ref (w.1 14 i))] s [] := by
    intro d
    induction d with
    | zero =>
      intro k s hk h1 hag hds hf
      obtain rfl : k = u := by omega
      have hsi : s 11 i 0 = (k : Int) := by rw [hf 11 i (by simp)]; exact hu
      have hfin : vB 65536 (fN s i) k = v / 2 := n_vB_fN h1 (Nat.lt_of_le_of_lt (Nat.div_le_self _ _) (n_used_lt_pow hd hv (Nat.le_refl k)))
      refine v_iload_n hX 0 rfl (atL dAX7_half_0 2 rfl) ?_
      refine v_aload_n hX 1 rfl (atL dAX7_half_0 3 rfl) ?_
      refine gf_X7_13 hX (v := (k : Int)) (hsi) hi (atL dAX7_half_0 4 rfl) ?_
      refine v_icmp_ge hX ⟨by omega, by omega⟩ ⟨by omega, by omega⟩ (tgt := 58) (atL dAX7_half_0 5 rfl) (by decide) (fun h7 => ?_) (fun h7 => absurd h7 (by omega))
      refine v_aload_n hX 1 rfl (atL dAX7_half_0 37 rfl) ?_
      refine v_callV hX (As := []) (rest := []) (c_X7_cut (xl X) w s i hi hds k (v / 2) hsi (by omega) hfin) lk_X7_23 hi (fun _ => rfl) rfl rfl rfl (by rw [hR]; exact ⟨Nat.le_of_ble_eq_true rfl, Nat.le_of_ble_eq_true rfl⟩) ⟨Nat.zero_le _, Nat.zero_le _⟩ rfl (Nat.le_of_ble_eq_true rfl) (atL dAX7_half_0 38 rfl) (fun _ s1 h1 => ?_)
      obtain ⟨h1a, h1f⟩ := h1
      show V X _ w _ _ s1 []
      exact v_vret hX (atL dAX7_half_0 39 rfl) (hret () _ ⟨h1a, (hf.mono (by simp)).tr' (h1f.mono (by simp))⟩)
    | succ d ih =>
      intro k s hk h1 hag hds hf
      have hsi : s 11 i 0 = (u : Int) := by rw [hf 11 i (by simp)]; exact hu
      have hr0 := hag k (Nat.le_refl k)
      have hr1 := hag (k + 1) (by omega)
      have hg0 := n_dgt_WN hd hv k
      have hg1 := n_dgt_WN hd hv (k + 1)
      have hl0 := n_dgt_lt v k
      have hl1 := n_dgt_lt v (k + 1)
      have hhd := n_half_dig v k
      refine v_iload_n hX 0 rfl (atL dAX7_half_0 2 rfl) ?_
      refine v_aload_n hX 1 rfl (atL dAX7_half_0 3 rfl) ?_
      refine gf_X7_13 hX (v := (u : Int)) (hsi) hi (atL dAX7_half_0 4 rfl) ?_
      refine v_icmp_ge hX ⟨by omega, by omega⟩ ⟨by omega, by omega⟩ (tgt := 58) (atL dAX7_half_0 5 rfl) (by decide) (fun h7 => absurd h7 (by omega)) (fun h7 => ?_)
      refine v_aload_n hX 1 rfl (atL dAX7_half_0 6 rfl) ?_
      refine gf_X7_7 hX hi (atL dAX7_half_0 7 rfl) ?_
      refine v_iload_n hX 0 rfl (atL dAX7_half_0 8 rfl) ?_
      refine v_aload_n hX 1 rfl (atL dAX7_half_0 9 rfl) ?_
      refine gf_X7_7 hX hi (atL dAX7_half_0 10 rfl) ?_
      refine v_iload_n hX 0 rfl (atL dAX7_half_0 11 rfl) ?_
      refine v_iald hX (r := iI ((n_dgt v k : Int))) k hi2 (fun _ => rfl) rfl (by omega) (by decide) (congrArg iI (by rw [hr0, ← hg0, if_pos (by omega)])) (atL dAX7_half_0 12 rfl) ?_
      refine v_iconst hX (atL dAX7_half_0 13 rfl) ?_
      refine v_ishr hX (r := iI (((n_dgt v k : Int)) / 2)) (iI_shr ⟨by omega, by omega⟩ 1 (by decide)) (atL dAX7_half_0 14 rfl) ?_
      refine v_iload_n hX 0 rfl (atL dAX7_half_0 15 rfl) ?_
      refine v_iconst hX (atL dAX7_half_0 16 rfl) ?_
      refine v_iadd hX (iI_add _ _) (atL dAX7_half_0 17 rfl) ?_
      rw [show (((k : Int)) + 1) = ((k + 1 : Nat) : Int) from (by omega)]
      refine v_aload_n hX 1 rfl (atL dAX7_half_0 18 rfl) ?_
      refine gf_X7_13 hX (v := (u : Int)) (hsi) hi (atL dAX7_half_0 19 rfl) ?_
      refine v_icmp_ge hX ⟨by omega, by omega⟩ ⟨by omega, by omega⟩ (tgt := 49) (atL dAX7_half_0 20 rfl) (by decide) (fun h30 => ?_) (fun h30 => ?_)
      · refine v_iconstE hX (r := (n_dgt v (k + 1) : Int) % 2 * 32768) (by rw [← hg1, if_neg (by omega)]; rfl) (atL dAX7_half_0 32 rfl) ?_
        refine v_ior hX (r := iI (((n_dgt v k / 2 + n_dgt v (k + 1) % 2 * 32768 : Nat) : Int))) (by rw [show (n_dgt v k : Int) / 2 = ((n_dgt v k / 2 : Nat) : Int) by omega, show (n_dgt v (k + 1) : Int) % 2 * 32768 = ((n_dgt v (k + 1) % 2 * 32768 : Nat) : Int) by omega]; exact iI_or3 (k := 15) (by omega) ⟨n_dgt v (k + 1) % 2, by omega⟩ (by omega)) (atL dAX7_half_0 33 rfl) ?_
        refine v_iast hX (c := 12) k hi2 (by decide) (fun _ _ => rfl) rfl (by omega) (by decide) (atL dAX7_half_0 34 rfl) ?_
        refine v_iinc hX (lv' := [(1, .int (iI (((k : Int)) + 1))), (0, .ref (w.1 14 i))]) 0 rfl (iI_add _ _) (Nat.le_of_ble_eq_true rfl) rfl (atL dAX7_half_0 35 rfl) ?_
        refine v_goto hX (tgt := 2) (atL dAX7_half_0 36 rfl) (by decide) ?_
        rw [show (k : Int) + 1 = ((k + 1 : Nat) : Int) by omega]
        refine ih (k + 1) _ (by omega) (fun j hj => ?_) (fun j hj => by rw [su_j (by omega)]; exact hag j (by omega)) (hds.su ⟨by omega, by omega⟩) (hf.tr' (Fr.su (by simp)))
        by_cases e : j = k
        · rw [e, su_s, hhd]
        · rw [su_j e]; exact h1 j (by omega)
      · refine v_aload_n hX 1 rfl (atL dAX7_half_0 21 rfl) ?_
        refine gf_X7_7 hX hi (atL dAX7_half_0 22 rfl) ?_
        refine v_iload_n hX 0 rfl (atL dAX7_half_0 23 rfl) ?_
        refine v_iconst hX (atL dAX7_half_0 24 rfl) ?_
        refine v_iadd hX (iI_add _ _) (atL dAX7_half_0 25 rfl) ?_
        rw [show (((k : Int)) + 1) = ((k + 1 : Nat) : Int) from (by omega)]
        refine v_iald hX (r := iI ((n_dgt v (k + 1) : Int))) (k + 1) hi2 (fun _ => rfl) rfl (by omega) (by decide) (congrArg iI (by rw [hr1, ← hg1, if_pos (by omega)])) (atL dAX7_half_0 26 rfl) ?_
        refine v_iconst hX (atL dAX7_half_0 27 rfl) ?_
        refine v_iand hX (r := iI (((n_dgt v (k + 1) : Int)) % 2)) (iI_mask _ 1 (by decide)) (atL dAX7_half_0 28 rfl) ?_
        refine v_bipush hX (by decide +kernel) (atL dAX7_half_0 29 rfl) ?_
        refine v_ishl hX (r := iI ((((n_dgt v (k + 1) : Int)) % 2) * 32768)) (iI_shl _ 15 (by decide)) (atL dAX7_half_0 30 rfl) ?_
        refine v_goto hX (tgt := 50) (atL dAX7_half_0 31 rfl) (by decide) ?_
        refine v_ior hX (r := iI (((n_dgt v k / 2 + n_dgt v (k + 1) % 2 * 32768 : Nat) : Int))) (by rw [show (n_dgt v k : Int) / 2 = ((n_dgt v k / 2 : Nat) : Int) by omega, show (((n_dgt v (k + 1) : Int)) % 2) * 32768 = ((n_dgt v (k + 1) % 2 * 32768 : Nat) : Int) by omega]; exact iI_or3 (k := 15) (by omega) ⟨n_dgt v (k + 1) % 2, by omega⟩ (by omega)) (atL dAX7_half_0 33 rfl) ?_
        refine v_iast hX (c := 12) k hi2 (by decide) (fun _ _ => rfl) rfl (by omega) (by decide) (atL dAX7_half_0 34 rfl) ?_
        refine v_iinc hX (lv' := [(1, .int (iI (((k : Int)) + 1))), (0, .ref (w.1 14 i))]) 0 rfl (iI_add _ _) (Nat.le_of_ble_eq_true rfl) rfl (atL dAX7_half_0 35 rfl) ?_
        refine v_goto hX (tgt := 2) (atL dAX7_half_0 36 rfl) (by decide) ?_
        rw [show (k : Int) + 1 = ((k + 1 : Nat) : Int) by omega]
        refine ih (k + 1) _ (by omega) (fun j hj => ?_) (fun j hj => by rw [su_j (by omega)]; exact hag j (by omega)) (hds.su ⟨by omega, by omega⟩) (hf.tr' (Fr.su (by simp)))
        by_cases e : j = k
        · rw [e, su_s, hhd]
        · rw [su_j e]; exact h1 j (by omega)
  refine v_iconst hX (atL dAX7_half_0 0 rfl) ?_
  refine v_istore_n hX (i := 1) rfl (lv' := [(1, .int (iI (0))), (0, .ref (w.1 14 i))]) (Nat.le_of_ble_eq_true rfl) rfl (atL dAX7_half_0 1 rfl) ?_
  exact loop u 0 σ (by omega) (fun j hj => absurd hj (by omega)) (fun j _ => rfl) hd Fr.rf
