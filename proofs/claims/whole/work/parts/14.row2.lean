set_option maxHeartbeats 4000000 in
set_option maxRecDepth 100000 in
theorem c_X4_addPart (l : Launch) (w : Wl) (σ : St) (i : Nat) (hi : w.2 1 i) (ho : okR σ i) (o : Nat) (hv : w.2 1 o) (hq : okR σ o) (hne : o ≠ i) (a T : Nat) (ha : a + T ≤ (row σ o).length) (hr : (row σ i).length + T ≤ rcap i) : Cn l yX4_addPart cX4_addPart 5 none 1 21 wN [.ref (w.1 1 i), .ref (w.1 1 o), .int (iI ((a : Int))), .int (iI ((T : Int)))] w σ (fun _ σ' => σ' = sr σ i (row σ i ++ ((row σ o).drop a).take T)) := by
  refine Cn.of (own := RX4) (lv := [(0, .ref (w.1 1 i)), (1, .ref (w.1 1 o)), (2, .int (iI ((a : Int)))), (3, .int (iI ((T : Int))))]) (by decide +kernel) rfl (Nat.le_of_ble_eq_true rfl) rfl (fun X hX hxl hR hcl hret => ?_)
  subst hxl
  have hi2 : w.2 2 i := hcl 1 i hi (2, i) (by simp [mn, tp])
  have hn := ho.len
  have hcp := ho.cap
  have hrc : rcap i ≤ 296 := by unfold rcap; split <;> (try split) <;> (try split) <;> (try split) <;> (try split) <;> (try split) <;> omega
  have hqn := hq.len
  have hqc := hq.cap
  have hrq := rcap_le o
  have loop : ∀ (n m : Nat), m + n = T → V X (0, 0) w 3 [(4, .int (iI (m : Int))), (0, .ref (w.1 1 i)), (1, .ref (w.1 1 o)), (2, .int (iI (a : Int))), (3, .int (iI (T : Int)))] (sr σ i (row σ i ++ ((row σ o).drop a).take (m))) [] := by
    intro n
    induction n with
    | zero =>
      intro m hm
      obtain rfl : m = T := hm
      refine v_iload hX 0 rfl (atL dAX4_addPart_0 2 rfl) ?_
      refine v_iload_n hX 4 rfl (atL dAX4_addPart_0 3 rfl) ?_
      refine v_icmp_ge hX ⟨by omega, by omega⟩ ⟨by omega, by omega⟩ (tgt := 27) (atL dAX4_addPart_0 4 rfl) (by decide) (fun h6 => ?_) (fun h6 => absurd h6 (by omega))
      exact v_vret hX (atL dAX4_addPart_0 14 rfl) (hret () _ rfl)
    | succ n ih =>
      intro m hm
      have htk : (((row σ o).drop a).take m).length = m := by simp; omega
      refine v_iload hX 0 rfl (atL dAX4_addPart_0 2 rfl) ?_
      refine v_iload_n hX 4 rfl (atL dAX4_addPart_0 3 rfl) ?_
      refine v_icmp_ge hX ⟨by omega, by omega⟩ ⟨by omega, by omega⟩ (tgt := 27) (atL dAX4_addPart_0 4 rfl) (by decide) (fun h6 => absurd h6 (by omega)) (fun h6 => ?_)
      refine v_aload_n hX 1 rfl (atL dAX4_addPart_0 5 rfl) ?_
      refine v_aload_n hX 2 rfl (atL dAX4_addPart_0 6 rfl) ?_
      refine v_iload_n hX 3 rfl (atL dAX4_addPart_0 7 rfl) ?_
      refine v_iload hX 0 rfl (atL dAX4_addPart_0 8 rfl) ?_
      refine v_iadd hX (iI_add _ _) (atL dAX4_addPart_0 9 rfl) ?_
      refine v_callV hX (As := [.int (iI (((a : Int)) + ((m : Int))))]) (rest := [.ref (w.1 1 i)]) (c_X4_at (xl X) w (sr σ i (row σ i ++ ((row σ o).drop a).take (m))) o hv (okR_sr_ne hne hq) ((a : Int) + (m : Int)) ⟨by omega, by omega⟩) lk_X4_21 hv (fun _ => rfl) rfl rfl rfl (by rw [hR]; exact ⟨Nat.le_of_ble_eq_true rfl, Nat.le_of_ble_eq_true rfl⟩) ⟨Nat.zero_le _, Nat.zero_le _⟩ rfl (Nat.le_of_ble_eq_true rfl) (atL dAX4_addPart_0 10 rfl) (fun r1 s1 h1 => ?_)
      obtain ⟨hr1, hs1⟩ := h1
      rw [hs1]
      rw [if_pos (by omega), row_sr_ne hne, show ((a : Int) + (m : Int)).toNat = a + m by omega] at hr1
      subst hr1
      show V X _ w _ _ (sr σ i (row σ i ++ ((row σ o).drop a).take (m))) [.int (iI (((row σ o).getD (a + m) 0 : Nat))), .ref (w.1 1 i)]
      refine v_callV hX (As := [.int (iI (((row σ o).getD (a + m) 0 : Nat)))]) (rest := []) (c_X4_add (xl X) w (sr σ i (row σ i ++ ((row σ o).drop a).take (m))) i hi (okR_sr' ho (by simp; omega) (ho.by.app hq.by.drop.take)) (((row σ o).getD (a + m) 0 : Nat) : Int) (by rw [row_sr]; simp; omega)) lk_X4_17 hi (fun _ => rfl) rfl rfl rfl (by rw [hR]; exact ⟨Nat.le_of_ble_eq_true rfl, Nat.le_of_ble_eq_true rfl⟩) ⟨Nat.zero_le _, Nat.zero_le _⟩ rfl (Nat.le_of_ble_eq_true rfl) (atL dAX4_addPart_0 11 rfl) (fun _ s2 e2 => ?_)
      subst e2
      have hb := hq.by.get (a + m)
      rw [sr_app, show ((((row σ o).getD (a + m) 0 : Nat) : Int) % 256).toNat = (row σ o).getD (a + m) 0 by omega, List.append_assoc, gD_take_succ (by omega)]
      show V X _ w _ _ (sr σ i (row σ i ++ ((row σ o).drop a).take (m + 1))) []
      refine v_iinc hX (lv' := [(4, .int (iI (((m : Int)) + 1))), (0, .ref (w.1 1 i)), (1, .ref (w.1 1 o)), (2, .int (iI ((a : Int)))), (3, .int (iI ((T : Int))))]) 0 rfl (iI_add _ _) (Nat.le_of_ble_eq_true rfl) rfl (atL dAX4_addPart_0 12 rfl) ?_
      refine v_goto hX (tgt := 3) (atL dAX4_addPart_0 13 rfl) (by decide) ?_
      exact ih (m + 1) (by omega)
  refine v_iconst hX (atL dAX4_addPart_0 0 rfl) ?_
  refine v_istore hX (lv' := [(4, .int (iI (0))), (0, .ref (w.1 1 i)), (1, .ref (w.1 1 o)), (2, .int (iI ((a : Int)))), (3, .int (iI ((T : Int))))]) (Nat.le_of_ble_eq_true rfl) rfl (atL dAX4_addPart_0 1 rfl) ?_
  have e : σ = sr σ i (row σ i ++ ((row σ o).drop a).take (0)) := by rw [List.take_zero, List.append_nil, sr_self ho]
  rw [e]
  exact loop T 0 (by omega)

set_option maxHeartbeats 4000000 in
set_option maxRecDepth 100000 in
theorem c_X4_addRow (l : Launch) (w : Wl) (σ : St) (i : Nat) (hi : w.2 1 i) (ho : okR σ i) (o : Nat) (hv : w.2 1 o) (hq : okR σ o) (hne : o ≠ i) (hr : (row σ i).length + (row σ o).length ≤ rcap i) : Cn l yX4_addRow cX4_addRow 2 none 2 45 wN [.ref (w.1 1 i), .ref (w.1 1 o)] w σ (fun _ σ' => σ' = sr σ i (row σ i ++ row σ o)) := by
  refine Cn.of (own := RX4) (lv := [(0, .ref (w.1 1 i)), (1, .ref (w.1 1 o))]) (by decide +kernel) rfl (Nat.le_of_ble_eq_true rfl) rfl (fun X hX hxl hR hcl hret => ?_)
  subst hxl
  have hi2 : w.2 2 i := hcl 1 i hi (2, i) (by simp [mn, tp])
  have hn := ho.len
  have hcp := ho.cap
  have hrc : rcap i ≤ 296 := by unfold rcap; split <;> (try split) <;> (try split) <;> (try split) <;> (try split) <;> (try split) <;> omega
  have hqn := hq.len
  have hqc := hq.cap
  have hrq := rcap_le o
  refine v_aload_n hX 0 rfl (atL dAX4_addRow_0 0 rfl) ?_
  refine v_aload_n hX 1 rfl (atL dAX4_addRow_0 1 rfl) ?_
  refine v_iconst hX (atL dAX4_addRow_0 2 rfl) ?_
  refine v_aload_n hX 1 rfl (atL dAX4_addRow_0 3 rfl) ?_
  refine gf_X4_13 hX (v := ((row σ o).length : Int)) (hqn) hv (atL dAX4_addRow_0 4 rfl) ?_
  refine v_callV hX (As := [.ref (w.1 1 o), .int (iI (0)), .int (iI (((row σ o).length : Int)))]) (rest := []) (c_X4_addPart (xl X) w σ i hi ho o hv hq hne 0 (row σ o).length (by omega) hr) lk_X4_25 hi (fun _ => rfl) rfl rfl rfl (by rw [hR]; exact ⟨Nat.le_of_ble_eq_true rfl, Nat.le_of_ble_eq_true rfl⟩) ⟨Nat.zero_le _, Nat.zero_le _⟩ rfl (Nat.le_of_ble_eq_true rfl) (atL dAX4_addRow_0 5 rfl) (fun _ s1 e1 => ?_)
  subst e1
  rw [List.drop_zero, List.take_length]
  show V X _ w _ _ (sr σ i (row σ i ++ row σ o)) []
  exact v_vret hX (atL dAX4_addRow_0 6 rfl) (hret () _ rfl)

set_option maxHeartbeats 4000000 in
set_option maxRecDepth 100000 in
theorem c_X4_takePart (l : Launch) (w : Wl) (σ : St) (i : Nat) (hi : w.2 1 i) (ho : okR σ i) (o : Nat) (hv : w.2 1 o) (hq : okR σ o) (hne : o ≠ i) (a T : Nat) (ha : a + T ≤ (row σ o).length) (hr : T ≤ rcap i) : Cn l yX4_takePart cX4_takePart 4 none 2 45 wN [.ref (w.1 1 i), .ref (w.1 1 o), .int (iI ((a : Int))), .int (iI ((T : Int)))] w σ (fun _ σ' => σ' = sr σ i (((row σ o).drop a).take T)) := by
  refine Cn.of (own := RX4) (lv := [(0, .ref (w.1 1 i)), (1, .ref (w.1 1 o)), (2, .int (iI ((a : Int)))), (3, .int (iI ((T : Int))))]) (by decide +kernel) rfl (Nat.le_of_ble_eq_true rfl) rfl (fun X hX hxl hR hcl hret => ?_)
  subst hxl
  have hi2 : w.2 2 i := hcl 1 i hi (2, i) (by simp [mn, tp])
  have hn := ho.len
  have hcp := ho.cap
  have hrc : rcap i ≤ 296 := by unfold rcap; split <;> (try split) <;> (try split) <;> (try split) <;> (try split) <;> (try split) <;> omega
  have hqn := hq.len
  have hqc := hq.cap
  have hrq := rcap_le o
  refine v_aload_n hX 0 rfl (atL dAX4_takePart_0 0 rfl) ?_
  refine v_iconst hX (atL dAX4_takePart_0 1 rfl) ?_
  refine pf_X4_13 hX hi (atL dAX4_takePart_0 2 rfl) ?_
  rw [sr_nil]
  refine v_aload_n hX 0 rfl (atL dAX4_takePart_0 3 rfl) ?_
  refine v_aload_n hX 1 rfl (atL dAX4_takePart_0 4 rfl) ?_
  refine v_iload_n hX 2 rfl (atL dAX4_takePart_0 5 rfl) ?_
  refine v_iload_n hX 3 rfl (atL dAX4_takePart_0 6 rfl) ?_
  refine v_callV hX (As := [.ref (w.1 1 o), .int (iI ((a : Int))), .int (iI ((T : Int)))]) (rest := []) (c_X4_addPart (xl X) w (sr σ i []) i hi (okR_sr' ho (by simp) BY.nil) o hv (okR_sr_ne hne hq) hne a T (by rw [row_sr_ne hne]; exact ha) (by rw [row_sr]; simpa using hr)) lk_X4_25 hi (fun _ => rfl) rfl rfl rfl (by rw [hR]; exact ⟨Nat.le_of_ble_eq_true rfl, Nat.le_of_ble_eq_true rfl⟩) ⟨Nat.zero_le _, Nat.zero_le _⟩ rfl (Nat.le_of_ble_eq_true rfl) (atL dAX4_takePart_0 7 rfl) (fun _ s1 e1 => ?_)
  subst e1
  rw [sr_app, row_sr_ne hne, List.nil_append]
  show V X _ w _ _ (sr σ i (((row σ o).drop a).take T)) []
  exact v_vret hX (atL dAX4_takePart_0 8 rfl) (hret () _ rfl)

set_option maxHeartbeats 4000000 in
set_option maxRecDepth 100000 in
theorem c_X4_take (l : Launch) (w : Wl) (σ : St) (i : Nat) (hi : w.2 1 i) (ho : okR σ i) (o : Nat) (hv : w.2 1 o) (hq : okR σ o) (hne : o ≠ i) (hr : (row σ o).length ≤ rcap i) : Cn l yX4_take cX4_take 2 none 3 68 wN [.ref (w.1 1 i), .ref (w.1 1 o)] w σ (fun _ σ' => σ' = sr σ i (row σ o)) := by
  refine Cn.of (own := RX4) (lv := [(0, .ref (w.1 1 i)), (1, .ref (w.1 1 o))]) (by decide +kernel) rfl (Nat.le_of_ble_eq_true rfl) rfl (fun X hX hxl hR hcl hret => ?_)
  subst hxl
  have hi2 : w.2 2 i := hcl 1 i hi (2, i) (by simp [mn, tp])
  have hn := ho.len
  have hcp := ho.cap
  have hrc : rcap i ≤ 296 := by unfold rcap; split <;> (try split) <;> (try split) <;> (try split) <;> (try split) <;> (try split) <;> omega
  have hqn := hq.len
  have hqc := hq.cap
  have hrq := rcap_le o
  refine v_aload_n hX 0 rfl (atL dAX4_take_0 0 rfl) ?_
  refine v_aload_n hX 1 rfl (atL dAX4_take_0 1 rfl) ?_
  refine v_iconst hX (atL dAX4_take_0 2 rfl) ?_
  refine v_aload_n hX 1 rfl (atL dAX4_take_0 3 rfl) ?_
  refine gf_X4_13 hX (v := ((row σ o).length : Int)) (hqn) hv (atL dAX4_take_0 4 rfl) ?_
  refine v_callV hX (As := [.ref (w.1 1 o), .int (iI (0)), .int (iI (((row σ o).length : Int)))]) (rest := []) (c_X4_takePart (xl X) w σ i hi ho o hv hq hne 0 (row σ o).length (by omega) hr) lk_X4_29 hi (fun _ => rfl) rfl rfl rfl (by rw [hR]; exact ⟨Nat.le_of_ble_eq_true rfl, Nat.le_of_ble_eq_true rfl⟩) ⟨Nat.zero_le _, Nat.zero_le _⟩ rfl (Nat.le_of_ble_eq_true rfl) (atL dAX4_take_0 5 rfl) (fun _ s1 e1 => ?_)
  subst e1
  rw [List.drop_zero, List.take_length]
  show V X _ w _ _ (sr σ i (row σ o)) []
  exact v_vret hX (atL dAX4_take_0 6 rfl) (hret () _ rfl)

set_option maxHeartbeats 4000000 in
set_option maxRecDepth 100000 in
theorem c_X4_mixWith (l : Launch) (w : Wl) (σ : St) (i : Nat) (hi : w.2 1 i) (ho : okR σ i) (o : Nat) (hv : w.2 1 o) (hq : okR σ o) (hne : o ≠ i) : Cn l yX4_mixWith cX4_mixWith 3 none 1 22 wN [.ref (w.1 1 i), .ref (w.1 1 o)] w σ (fun _ σ' => σ' = sr σ i (mix (row σ i) (row σ o))) := by
  refine Cn.of (own := RX4) (lv := [(0, .ref (w.1 1 i)), (1, .ref (w.1 1 o))]) (by decide +kernel) rfl (Nat.le_of_ble_eq_true rfl) rfl (fun X hX hxl hR hcl hret => ?_)
  subst hxl
  have hi2 : w.2 2 i := hcl 1 i hi (2, i) (by simp [mn, tp])
  have hn := ho.len
  have hcp := ho.cap
  have hrc : rcap i ≤ 296 := by unfold rcap; split <;> (try split) <;> (try split) <;> (try split) <;> (try split) <;> (try split) <;> omega
  have hqn := hq.len
  have hqc := hq.cap
  have hrq := rcap_le o
  have loop : ∀ (n m : Nat), m + n = (row σ i).length → V X (0, 0) w 2 [(2, .int (iI (m : Int))), (0, .ref (w.1 1 i)), (1, .ref (w.1 1 o))] (sr σ i (mixm (m) (row σ i) (row σ o))) [] := by
    intro n
    induction n with
    | zero =>
      intro m hm
      refine v_iload_n hX 0 rfl (atL dAX4_mixWith_0 2 rfl) ?_
      refine v_aload_n hX 1 rfl (atL dAX4_mixWith_0 3 rfl) ?_
      refine gf_X4_13 hX (v := ((row σ i).length : Int)) ((sr_len.trans (by rw [mixm_len]))) hi (atL dAX4_mixWith_0 4 rfl) ?_
      refine v_icmp_ge hX ⟨by omega, by omega⟩ ⟨by omega, by omega⟩ (tgt := 32) (atL dAX4_mixWith_0 5 rfl) (by decide) (fun h7 => ?_) (fun h7 => absurd h7 (by omega))
      exact v_vret hX (atL dAX4_mixWith_0 18 rfl) (hret () _ (by rw [show m = (row σ i).length by omega, mixm_all]))
    | succ n ih =>
      intro m hm
      refine v_iload_n hX 0 rfl (atL dAX4_mixWith_0 2 rfl) ?_
      refine v_aload_n hX 1 rfl (atL dAX4_mixWith_0 3 rfl) ?_
      refine gf_X4_13 hX (v := ((row σ i).length : Int)) ((sr_len.trans (by rw [mixm_len]))) hi (atL dAX4_mixWith_0 4 rfl) ?_
      refine v_icmp_ge hX ⟨by omega, by omega⟩ ⟨by omega, by omega⟩ (tgt := 32) (atL dAX4_mixWith_0 5 rfl) (by decide) (fun h7 => absurd h7 (by omega)) (fun h7 => ?_)
      refine v_aload_n hX 1 rfl (atL dAX4_mixWith_0 6 rfl) ?_
      refine v_iload_n hX 0 rfl (atL dAX4_mixWith_0 7 rfl) ?_
      refine v_aload_n hX 1 rfl (atL dAX4_mixWith_0 8 rfl) ?_
      refine v_iload_n hX 0 rfl (atL dAX4_mixWith_0 9 rfl) ?_
      refine v_callV hX (As := [.int (iI ((m : Int)))]) (rest := [.int (iI ((m : Int))), .ref (w.1 1 i)]) (c_X4_at (xl X) w (sr σ i (mixm (m) (row σ i) (row σ o))) i hi (okR_sr' ho (by rw [mixm_len]; exact hcp) (mixm_by ho.by hq.by)) (m : Int) ⟨by omega, by omega⟩) lk_X4_21 hi (fun _ => rfl) rfl rfl rfl (by rw [hR]; exact ⟨Nat.le_of_ble_eq_true rfl, Nat.le_of_ble_eq_true rfl⟩) ⟨Nat.zero_le _, Nat.zero_le _⟩ rfl (Nat.le_of_ble_eq_true rfl) (atL dAX4_mixWith_0 10 rfl) (fun r1 s1 h1 => ?_)
      obtain ⟨hr1, hs1⟩ := h1
      rw [hs1]
      rw [if_pos (by omega), row_sr, Int.toNat_natCast, mixm_get (by omega), if_neg (by omega)] at hr1
      subst hr1
      show V X _ w _ _ (sr σ i (mixm (m) (row σ i) (row σ o))) [.int (iI (((row σ i).getD m 0 : Nat))), .int (iI ((m : Int))), .ref (w.1 1 i)]
      refine v_aload_n hX 2 rfl (atL dAX4_mixWith_0 11 rfl) ?_
      refine v_iload_n hX 0 rfl (atL dAX4_mixWith_0 12 rfl) ?_
      refine v_callV hX (As := [.int (iI ((m : Int)))]) (rest := [.int (iI (((row σ i).getD m 0 : Nat))), .int (iI ((m : Int))), .ref (w.1 1 i)]) (c_X4_at (xl X) w (sr σ i (mixm (m) (row σ i) (row σ o))) o hv (okR_sr_ne hne hq) (m : Int) ⟨by omega, by omega⟩) lk_X4_21 hv (fun _ => rfl) rfl rfl rfl (by rw [hR]; exact ⟨Nat.le_of_ble_eq_true rfl, Nat.le_of_ble_eq_true rfl⟩) ⟨Nat.zero_le _, Nat.zero_le _⟩ rfl (Nat.le_of_ble_eq_true rfl) (atL dAX4_mixWith_0 13 rfl) (fun r2 s2 h2 => ?_)
      obtain ⟨hr2, hs2⟩ := h2
      rw [hs2]
      rw [if_pos (by omega), row_sr_ne hne, Int.toNat_natCast] at hr2
      subst hr2
      show V X _ w _ _ (sr σ i (mixm (m) (row σ i) (row σ o))) [.int (iI (((row σ o).getD m 0 : Nat))), .int (iI (((row σ i).getD m 0 : Nat))), .int (iI ((m : Int))), .ref (w.1 1 i)]
      refine v_ixor hX (iI_xor (ho.by.get m) (hq.by.get m)) (atL dAX4_mixWith_0 14 rfl) ?_
      refine v_callV hX (As := [.int (iI ((m : Int))), .int (iI ((((row σ i).getD m 0 ^^^ (row σ o).getD m 0 : Nat) : Int)))]) (rest := []) (c_X4_put (xl X) w (sr σ i (mixm (m) (row σ i) (row σ o))) i hi (okR_sr' ho (by rw [mixm_len]; exact hcp) (mixm_by ho.by hq.by)) (m : Int) (((row σ i).getD m 0 ^^^ (row σ o).getD m 0 : Nat) : Int) ⟨by omega, by omega⟩) lk_X4_32 hi (fun _ => rfl) rfl rfl rfl (by rw [hR]; exact ⟨Nat.le_of_ble_eq_true rfl, Nat.le_of_ble_eq_true rfl⟩) ⟨Nat.zero_le _, Nat.zero_le _⟩ rfl (Nat.le_of_ble_eq_true rfl) (atL dAX4_mixWith_0 15 rfl) (fun _ s3 e3 => ?_)
      have hx := xor_by (ho.by.get m) (hq.by.get m)
      rw [row_sr, if_pos ⟨by omega, by rw [mixm_len]; omega⟩, sr_sr (by simp), Int.toNat_natCast, show ((((row σ i).getD m 0 ^^^ (row σ o).getD m 0 : Nat) : Int) % 256).toNat = (row σ i).getD m 0 ^^^ (row σ o).getD m 0 by omega, mixm_set] at e3
      subst e3
      show V X _ w _ _ (sr σ i (mixm (m + 1) (row σ i) (row σ o))) []
      refine v_iinc hX (lv' := [(2, .int (iI (((m : Int)) + 1))), (0, .ref (w.1 1 i)), (1, .ref (w.1 1 o))]) 0 rfl (iI_add _ _) (Nat.le_of_ble_eq_true rfl) rfl (atL dAX4_mixWith_0 16 rfl) ?_
      refine v_goto hX (tgt := 2) (atL dAX4_mixWith_0 17 rfl) (by decide) ?_
      exact ih (m + 1) (by omega)
  refine v_iconst hX (atL dAX4_mixWith_0 0 rfl) ?_
  refine v_istore_n hX (i := 2) rfl (lv' := [(2, .int (iI (0))), (0, .ref (w.1 1 i)), (1, .ref (w.1 1 o))]) (Nat.le_of_ble_eq_true rfl) rfl (atL dAX4_mixWith_0 1 rfl) ?_
  have e : σ = sr σ i (mixm (0) (row σ i) (row σ o)) := by rw [mixm_0, sr_self ho]
  rw [e]
  exact loop (row σ i).length 0 (by omega)

set_option maxHeartbeats 4000000 in
set_option maxRecDepth 100000 in
theorem c_X4_holds (l : Launch) (w : Wl) (σ : St) (i : Nat) (hi : w.2 1 i) (ho : okR σ i) (o : Nat) (hv : w.2 1 o) (hq : okR σ o) (hne : o ≠ i) : Cn l yX4_holds cX4_holds 4 (Option.some Jvm.ClassFile.FieldType.boolean) 1 21 wI [.ref (w.1 1 i), .ref (w.1 1 o), .int (iI (0))] w σ (fun a σ' => a = (if (row σ i).take (row σ o).length = row σ o then 1 else 0) ∧ σ' = σ) := by
  refine Cn.of (own := RX4) (lv := [(0, .ref (w.1 1 i)), (1, .ref (w.1 1 o)), (2, .int (iI (0)))]) (by decide +kernel) rfl (Nat.le_of_ble_eq_true rfl) rfl (fun X hX hxl hR hcl hret => ?_)
  subst hxl
  have hi2 : w.2 2 i := hcl 1 i hi (2, i) (by simp [mn, tp])
  have hn := ho.len
  have hcp := ho.cap
  have hrc : rcap i ≤ 296 := by unfold rcap; split <;> (try split) <;> (try split) <;> (try split) <;> (try split) <;> (try split) <;> omega
  have hqn := hq.len
  have hqc := hq.cap
  have hrq := rcap_le o
  have loop : (row σ o).length ≤ (row σ i).length → ∀ (n m : Nat), m + n = (row σ o).length → agr (row σ i) (row σ o) m → V X (0, 0) w 17 [(3, .int (iI ((m : Int)))), (0, .ref (w.1 1 i)), (1, .ref (w.1 1 o)), (2, .int (iI (0)))] σ [] := by
    intro hle n
    induction n with
    | zero =>
      intro m hm hag
      refine v_iload_n hX 0 rfl (atL dAX4_holds_0 11 rfl) ?_
      refine v_aload_n hX 2 rfl (atL dAX4_holds_0 12 rfl) ?_
      refine gf_X4_13 hX (v := ((row σ o).length : Int)) (hqn) hv (atL dAX4_holds_0 13 rfl) ?_
      refine v_icmp_ge hX ⟨by omega, by omega⟩ ⟨by omega, by omega⟩ (tgt := 48) (atL dAX4_holds_0 14 rfl) (by decide) (fun h22 => ?_) (fun h22 => absurd h22 (by omega))
      refine v_iconst hX (atL dAX4_holds_0 28 rfl) ?_
      exact v_zret hX (by decide +kernel) (atL dAX4_holds_0 29 rfl) (hret _ _ ⟨by rw [if_pos ((agr_take hle).mpr (by rw [show (row σ o).length = m by omega]; exact hag))], rfl⟩)
    | succ n ih =>
      intro m hm hag
      refine v_iload_n hX 0 rfl (atL dAX4_holds_0 11 rfl) ?_
      refine v_aload_n hX 2 rfl (atL dAX4_holds_0 12 rfl) ?_
      refine gf_X4_13 hX (v := ((row σ o).length : Int)) (hqn) hv (atL dAX4_holds_0 13 rfl) ?_
      refine v_icmp_ge hX ⟨by omega, by omega⟩ ⟨by omega, by omega⟩ (tgt := 48) (atL dAX4_holds_0 14 rfl) (by decide) (fun h22 => absurd h22 (by omega)) (fun h22 => ?_)
      refine v_aload_n hX 1 rfl (atL dAX4_holds_0 15 rfl) ?_
      refine v_iload_n hX 3 rfl (atL dAX4_holds_0 16 rfl) ?_
      refine v_iload_n hX 0 rfl (atL dAX4_holds_0 17 rfl) ?_
      refine v_iadd hX (iI_add _ _) (atL dAX4_holds_0 18 rfl) ?_
      refine v_callV hX (As := [.int (iI (0 + ((m : Int))))]) (rest := []) (c_X4_at (xl X) w σ i hi ho (0 + (m : Int)) ⟨by omega, by omega⟩) lk_X4_21 hi (fun _ => rfl) rfl rfl rfl (by rw [hR]; exact ⟨Nat.le_of_ble_eq_true rfl, Nat.le_of_ble_eq_true rfl⟩) ⟨Nat.zero_le _, Nat.zero_le _⟩ rfl (Nat.le_of_ble_eq_true rfl) (atL dAX4_holds_0 19 rfl) (fun r1 s1 h1 => ?_)
      obtain ⟨hr1, hs1⟩ := h1
      rw [hs1]
      rw [if_pos (by omega), show (0 + (m : Int)).toNat = m by omega] at hr1
      subst hr1
      have hb1 := ho.by.get m
      show V X _ w _ _ σ [.int (iI (((row σ i).getD m 0 : Nat)))]
      refine v_aload_n hX 2 rfl (atL dAX4_holds_0 20 rfl) ?_
      refine v_iload_n hX 0 rfl (atL dAX4_holds_0 21 rfl) ?_
      refine v_callV hX (As := [.int (iI ((m : Int)))]) (rest := [.int (iI (((row σ i).getD m 0 : Nat)))]) (c_X4_at (xl X) w σ o hv hq (m : Int) ⟨by omega, by omega⟩) lk_X4_21 hv (fun _ => rfl) rfl rfl rfl (by rw [hR]; exact ⟨Nat.le_of_ble_eq_true rfl, Nat.le_of_ble_eq_true rfl⟩) ⟨Nat.zero_le _, Nat.zero_le _⟩ rfl (Nat.le_of_ble_eq_true rfl) (atL dAX4_holds_0 22 rfl) (fun r2 s2 h2 => ?_)
      obtain ⟨hr2, hs2⟩ := h2
      rw [hs2]
      rw [if_pos (by omega), Int.toNat_natCast] at hr2
      subst hr2
      have hb2 := hq.by.get m
      show V X _ w _ _ σ [.int (iI (((row σ o).getD m 0 : Nat))), .int (iI (((row σ i).getD m 0 : Nat)))]
      refine v_icmp_eq hX ⟨by omega, by omega⟩ ⟨by omega, by omega⟩ (tgt := 42) (atL dAX4_holds_0 23 rfl) (by decide) (fun h37 => ?_) (fun h37 => ?_)
      · refine v_iinc hX (lv' := [(3, .int (iI (((m : Int)) + 1))), (0, .ref (w.1 1 i)), (1, .ref (w.1 1 o)), (2, .int (iI (0)))]) 0 rfl (iI_add _ _) (Nat.le_of_ble_eq_true rfl) rfl (atL dAX4_holds_0 26 rfl) ?_
        refine v_goto hX (tgt := 17) (atL dAX4_holds_0 27 rfl) (by decide) ?_
        exact ih (m + 1) (by omega) (agr_s hag (by exact_mod_cast h37))
      · refine v_iconst hX (atL dAX4_holds_0 24 rfl) ?_
        exact v_zret hX (by decide +kernel) (atL dAX4_holds_0 25 rfl) (hret _ _ ⟨by rw [if_neg (fun hh => h37 (by exact_mod_cast (agr_take hle).mp hh m (by omega)))], rfl⟩)
  refine v_aload_n hX 1 rfl (atL dAX4_holds_0 0 rfl) ?_
  refine gf_X4_13 hX (v := ((row σ o).length : Int)) (hqn) hv (atL dAX4_holds_0 1 rfl) ?_
  refine v_aload_n hX 0 rfl (atL dAX4_holds_0 2 rfl) ?_
  refine gf_X4_13 hX (v := ((row σ i).length : Int)) (hn) hi (atL dAX4_holds_0 3 rfl) ?_
  refine v_iload_n hX 2 rfl (atL dAX4_holds_0 4 rfl) ?_
  refine v_isub hX (iI_sub _ _) (atL dAX4_holds_0 5 rfl) ?_
  refine v_icmp_le hX ⟨by omega, by omega⟩ ⟨by omega, by omega⟩ (tgt := 15) (atL dAX4_holds_0 6 rfl) (by decide) (fun h10 => ?_) (fun h10 => ?_)
  · refine v_iconst hX (atL dAX4_holds_0 9 rfl) ?_
    refine v_istore_n hX (i := 3) rfl (lv' := [(3, .int (iI (0))), (0, .ref (w.1 1 i)), (1, .ref (w.1 1 o)), (2, .int (iI (0)))]) (Nat.le_of_ble_eq_true rfl) rfl (atL dAX4_holds_0 10 rfl) ?_
    exact loop (by omega) (row σ o).length 0 (by omega) (fun k hk => absurd hk (Nat.not_lt_zero k))
  · refine v_iconst hX (atL dAX4_holds_0 7 rfl) ?_
    exact v_zret hX (by decide +kernel) (atL dAX4_holds_0 8 rfl) (hret _ _ ⟨by rw [if_neg (take_ne (by omega))], rfl⟩)

set_option maxHeartbeats 4000000 in
set_option maxRecDepth 100000 in
theorem c_X4_othersFrom (l : Launch) (w : Wl) (σ : St) (i : Nat) (hi : w.2 1 i) (ho : okR σ i) (a : Nat) (ha : a ≤ (row σ i).length) : Cn l yX4_othersFrom cX4_othersFrom 3 (Option.some Jvm.ClassFile.FieldType.int) 1 21 wI [.ref (w.1 1 i), .int (iI ((a : Int)))] w σ (fun r σ' => r = (run (fun x => decide (x ≠ 0)) (row σ i) a : Nat) ∧ σ' = σ) := by
  refine Cn.of (own := RX4) (lv := [(0, .ref (w.1 1 i)), (1, .int (iI ((a : Int))))]) (by decide +kernel) rfl (Nat.le_of_ble_eq_true rfl) rfl (fun X hX hxl hR hcl hret => ?_)
  subst hxl
  have hi2 : w.2 2 i := hcl 1 i hi (2, i) (by simp [mn, tp])
  have hn := ho.len
  have hcp := ho.cap
  have hrc : rcap i ≤ 296 := by unfold rcap; split <;> (try split) <;> (try split) <;> (try split) <;> (try split) <;> (try split) <;> omega
  have loop : ∀ (n m : Nat), m + n = (row σ i).length → a ≤ m → (m - a) + run (fun x => decide (x ≠ 0)) (row σ i) m = run (fun x => decide (x ≠ 0)) (row σ i) a → V X (0, 0) w 2 [(2, .int (iI ((m : Int)))), (0, .ref (w.1 1 i)), (1, .int (iI ((a : Int))))] σ [] := by
    intro n
    induction n with
    | zero =>
      intro m hm ham hru
      refine v_iload_n hX 0 rfl (atL dAX4_othersFrom_0 2 rfl) ?_
      refine v_aload_n hX 1 rfl (atL dAX4_othersFrom_0 3 rfl) ?_
      refine gf_X4_13 hX (v := ((row σ i).length : Int)) (hn) hi (atL dAX4_othersFrom_0 4 rfl) ?_
      refine v_icmp_ge hX ⟨by omega, by omega⟩ ⟨by omega, by omega⟩ (tgt := 28) (atL dAX4_othersFrom_0 5 rfl) (by decide) (fun h7 => ?_) (fun h7 => absurd h7 (by omega))
      refine v_aload_n hX 1 rfl (atL dAX4_othersFrom_0 16 rfl) ?_
      refine gf_X4_13 hX (v := ((row σ i).length : Int)) (hn) hi (atL dAX4_othersFrom_0 17 rfl) ?_
      refine v_iload_n hX 2 rfl (atL dAX4_othersFrom_0 18 rfl) ?_
      refine v_isub hX (iI_sub _ _) (atL dAX4_othersFrom_0 19 rfl) ?_
      exact v_iret hX (atL dAX4_othersFrom_0 20 rfl) (hret _ _ ⟨by rw [run_0 (by omega)] at hru; omega, rfl⟩)
    | succ n ih =>
      intro m hm ham hru
      refine v_iload_n hX 0 rfl (atL dAX4_othersFrom_0 2 rfl) ?_
      refine v_aload_n hX 1 rfl (atL dAX4_othersFrom_0 3 rfl) ?_
      refine gf_X4_13 hX (v := ((row σ i).length : Int)) (hn) hi (atL dAX4_othersFrom_0 4 rfl) ?_
      refine v_icmp_ge hX ⟨by omega, by omega⟩ ⟨by omega, by omega⟩ (tgt := 28) (atL dAX4_othersFrom_0 5 rfl) (by decide) (fun h7 => absurd h7 (by omega)) (fun h7 => ?_)
      refine v_aload_n hX 1 rfl (atL dAX4_othersFrom_0 6 rfl) ?_
      refine v_iload_n hX 0 rfl (atL dAX4_othersFrom_0 7 rfl) ?_
      refine v_callV hX (As := [.int (iI ((m : Int)))]) (rest := []) (c_X4_at (xl X) w σ i hi ho (m : Int) ⟨by omega, by omega⟩) lk_X4_21 hi (fun _ => rfl) rfl rfl rfl (by rw [hR]; exact ⟨Nat.le_of_ble_eq_true rfl, Nat.le_of_ble_eq_true rfl⟩) ⟨Nat.zero_le _, Nat.zero_le _⟩ rfl (Nat.le_of_ble_eq_true rfl) (atL dAX4_othersFrom_0 8 rfl) (fun r1 s1 h1 => ?_)
      obtain ⟨hr1, hs1⟩ := h1
      rw [hs1]
      rw [if_pos (by omega), Int.toNat_natCast] at hr1
      subst hr1
      have hb1 := ho.by.get m
      show V X _ w _ _ σ [.int (iI (((row σ i).getD m 0 : Nat)))]
      refine v_if_ne hX ⟨by omega, by omega⟩ (tgt := 22) (atL dAX4_othersFrom_0 9 rfl) (by decide) (fun h15 => ?_) (fun h15 => ?_)
      · refine v_iinc hX (lv' := [(2, .int (iI (((m : Int)) + 1))), (0, .ref (w.1 1 i)), (1, .int (iI ((a : Int))))]) 0 rfl (iI_add _ _) (Nat.le_of_ble_eq_true rfl) rfl (atL dAX4_othersFrom_0 14 rfl) ?_
        refine v_goto hX (tgt := 2) (atL dAX4_othersFrom_0 15 rfl) (by decide) ?_
        rw [run_s (by omega) (by simp only [decide_eq_true_eq]; omega)] at hru
        exact ih (m + 1) (by omega) (by omega) (by omega)
      · refine v_iload_n hX 0 rfl (atL dAX4_othersFrom_0 10 rfl) ?_
        refine v_iload_n hX 2 rfl (atL dAX4_othersFrom_0 11 rfl) ?_
        refine v_isub hX (iI_sub _ _) (atL dAX4_othersFrom_0 12 rfl) ?_
        exact v_iret hX (atL dAX4_othersFrom_0 13 rfl) (hret _ _ ⟨by rw [run_e (by omega) (by simp only [decide_eq_true_eq]; omega)] at hru; omega, rfl⟩)
  refine v_iload_n hX 1 rfl (atL dAX4_othersFrom_0 0 rfl) ?_
  refine v_istore_n hX (i := 2) rfl (lv' := [(2, .int (iI ((a : Int)))), (0, .ref (w.1 1 i)), (1, .int (iI ((a : Int))))]) (Nat.le_of_ble_eq_true rfl) rfl (atL dAX4_othersFrom_0 1 rfl) ?_
  exact loop ((row σ i).length - a) a (by omega) (Nat.le_refl a) (by omega)

set_option maxHeartbeats 4000000 in
set_option maxRecDepth 100000 in
theorem c_X4_zerosFrom (l : Launch) (w : Wl) (σ : St) (i : Nat) (hi : w.2 1 i) (ho : okR σ i) (a : Nat) (ha : a ≤ (row σ i).length) : Cn l yX4_zerosFrom cX4_zerosFrom 3 (Option.some Jvm.ClassFile.FieldType.int) 1 21 wI [.ref (w.1 1 i), .int (iI ((a : Int)))] w σ (fun r σ' => r = (run (fun x => decide (x = 0)) (row σ i) a : Nat) ∧ σ' = σ) := by
  refine Cn.of (own := RX4) (lv := [(0, .ref (w.1 1 i)), (1, .int (iI ((a : Int))))]) (by decide +kernel) rfl (Nat.le_of_ble_eq_true rfl) rfl (fun X hX hxl hR hcl hret => ?_)
  subst hxl
  have hi2 : w.2 2 i := hcl 1 i hi (2, i) (by simp [mn, tp])
  have hn := ho.len
  have hcp := ho.cap
  have hrc : rcap i ≤ 296 := by unfold rcap; split <;> (try split) <;> (try split) <;> (try split) <;> (try split) <;> (try split) <;> omega
  have loop : ∀ (n m : Nat), m + n = (row σ i).length → a ≤ m → (m - a) + run (fun x => decide (x = 0)) (row σ i) m = run (fun x => decide (x = 0)) (row σ i) a → V X (0, 0) w 2 [(2, .int (iI ((m : Int)))), (0, .ref (w.1 1 i)), (1, .int (iI ((a : Int))))] σ [] := by
    intro n
    induction n with
    | zero =>
      intro m hm ham hru
      refine v_iload_n hX 0 rfl (atL dAX4_zerosFrom_0 2 rfl) ?_
      refine v_aload_n hX 1 rfl (atL dAX4_zerosFrom_0 3 rfl) ?_
      refine gf_X4_13 hX (v := ((row σ i).length : Int)) (hn) hi (atL dAX4_zerosFrom_0 4 rfl) ?_
      refine v_icmp_ge hX ⟨by omega, by omega⟩ ⟨by omega, by omega⟩ (tgt := 28) (atL dAX4_zerosFrom_0 5 rfl) (by decide) (fun h7 => ?_) (fun h7 => absurd h7 (by omega))
      refine v_aload_n hX 1 rfl (atL dAX4_zerosFrom_0 16 rfl) ?_
      refine gf_X4_13 hX (v := ((row σ i).length : Int)) (hn) hi (atL dAX4_zerosFrom_0 17 rfl) ?_
      refine v_iload_n hX 2 rfl (atL dAX4_zerosFrom_0 18 rfl) ?_
      refine v_isub hX (iI_sub _ _) (atL dAX4_zerosFrom_0 19 rfl) ?_
      exact v_iret hX (atL dAX4_zerosFrom_0 20 rfl) (hret _ _ ⟨by rw [run_0 (by omega)] at hru; omega, rfl⟩)
    | succ n ih =>
      intro m hm ham hru
      refine v_iload_n hX 0 rfl (atL dAX4_zerosFrom_0 2 rfl) ?_
      refine v_aload_n hX 1 rfl (atL dAX4_zerosFrom_0 3 rfl) ?_
      refine gf_X4_13 hX (v := ((row σ i).length : Int)) (hn) hi (atL dAX4_zerosFrom_0 4 rfl) ?_
      refine v_icmp_ge hX ⟨by omega, by omega⟩ ⟨by omega, by omega⟩ (tgt := 28) (atL dAX4_zerosFrom_0 5 rfl) (by decide) (fun h7 => absurd h7 (by omega)) (fun h7 => ?_)
      refine v_aload_n hX 1 rfl (atL dAX4_zerosFrom_0 6 rfl) ?_
      refine v_iload_n hX 0 rfl (atL dAX4_zerosFrom_0 7 rfl) ?_
      refine v_callV hX (As := [.int (iI ((m : Int)))]) (rest := []) (c_X4_at (xl X) w σ i hi ho (m : Int) ⟨by omega, by omega⟩) lk_X4_21 hi (fun _ => rfl) rfl rfl rfl (by rw [hR]; exact ⟨Nat.le_of_ble_eq_true rfl, Nat.le_of_ble_eq_true rfl⟩) ⟨Nat.zero_le _, Nat.zero_le _⟩ rfl (Nat.le_of_ble_eq_true rfl) (atL dAX4_zerosFrom_0 8 rfl) (fun r1 s1 h1 => ?_)
      obtain ⟨hr1, hs1⟩ := h1
      rw [hs1]
      rw [if_pos (by omega), Int.toNat_natCast] at hr1
      subst hr1
      have hb1 := ho.by.get m
      show V X _ w _ _ σ [.int (iI (((row σ i).getD m 0 : Nat)))]
      refine v_if_eq hX ⟨by omega, by omega⟩ (tgt := 22) (atL dAX4_zerosFrom_0 9 rfl) (by decide) (fun h15 => ?_) (fun h15 => ?_)
      · refine v_iinc hX (lv' := [(2, .int (iI (((m : Int)) + 1))), (0, .ref (w.1 1 i)), (1, .int (iI ((a : Int))))]) 0 rfl (iI_add _ _) (Nat.le_of_ble_eq_true rfl) rfl (atL dAX4_zerosFrom_0 14 rfl) ?_
        refine v_goto hX (tgt := 2) (atL dAX4_zerosFrom_0 15 rfl) (by decide) ?_
        rw [run_s (by omega) (by simp only [decide_eq_true_eq]; omega)] at hru
        exact ih (m + 1) (by omega) (by omega) (by omega)
      · refine v_iload_n hX 0 rfl (atL dAX4_zerosFrom_0 10 rfl) ?_
        refine v_iload_n hX 2 rfl (atL dAX4_zerosFrom_0 11 rfl) ?_
        refine v_isub hX (iI_sub _ _) (atL dAX4_zerosFrom_0 12 rfl) ?_
        exact v_iret hX (atL dAX4_zerosFrom_0 13 rfl) (hret _ _ ⟨by rw [run_e (by omega) (by simp only [decide_eq_true_eq]; omega)] at hru; omega, rfl⟩)
  refine v_iload_n hX 1 rfl (atL dAX4_zerosFrom_0 0 rfl) ?_
  refine v_istore_n hX (i := 2) rfl (lv' := [(2, .int (iI ((a : Int)))), (0, .ref (w.1 1 i)), (1, .int (iI ((a : Int))))]) (Nat.le_of_ble_eq_true rfl) rfl (atL dAX4_zerosFrom_0 1 rfl) ?_
  exact loop ((row σ i).length - a) a (by omega) (Nat.le_refl a) (by omega)
