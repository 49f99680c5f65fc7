set_option maxHeartbeats 1000000 in
set_option maxRecDepth 100000 in
theorem c_X8_are (l : Launch) (w : Wl) (σ : St) (hk0 : w.2 13 0) (p0 : Int) (hp0 : rI p0) (p1 : Int) (hp1 : rI p1) (p2 : Int) (hp2 : rI p2) : Cn l yX8_are cX8_are 4 (Option.some Jvm.ClassFile.FieldType.boolean) 1 21 wI [.ref (w.1 13 0), .int (iI (p0)), .int (iI (p1)), .int (iI (p2))] w σ (fun a σ' => (a = 1 ∧ (isS p0 ∧ isS p1 ∧ isS p2) ∧ σ' = su σ 10 0 0 0) ∨ (a = 0 ∧ ¬ (isS p0 ∧ isS p1 ∧ isS p2) ∧ σ' = su σ 10 0 0 1)) := by
  refine Cn.of (own := RX8) (lv := [(0, .ref (w.1 13 0)), (1, .int (iI (p0))), (2, .int (iI (p1))), (3, .int (iI (p2)))]) (by decide +kernel) rfl (Nat.le_of_ble_eq_true rfl) rfl (fun X hX hxl hR hcl hret => ?_)
  subst hxl
  refine v_aload_n hX 0 rfl (atL dAX8_are_0 0 rfl) ?_
  refine v_iconst hX (atL dAX8_are_0 1 rfl) ?_
  refine pf_X8_156 hX hk0 (atL dAX8_are_0 2 rfl) ?_
  refine v_aload_n hX 0 rfl (atL dAX8_are_0 3 rfl) ?_
  refine v_iload_n hX 1 rfl (atL dAX8_are_0 4 rfl) ?_
  refine v_callV hX (As := [.int (iI (p0))]) (rest := []) (c_X8_isSlot (xl X) w (su σ 10 0 0 0) hk0 p0 hp0) lk_X8_237 hk0 (fun _ => rfl) rfl rfl rfl (by rw [hR]; exact ⟨Nat.le_of_ble_eq_true rfl, Nat.le_of_ble_eq_true rfl⟩) ⟨Nat.zero_le _, Nat.zero_le _⟩ rfl (Nat.le_of_ble_eq_true rfl) (atL dAX8_are_0 5 rfl) (fun r7 s7 g7 => ?_)
  have gd7 : r7 = 0 ∨ r7 = 1 := by rcases g7 with q | q <;> omega
  show V X _ w _ _ s7 [.int (iI (r7))]
  refine v_if_eq hX ⟨by omega, by omega⟩ (tgt := 33) (atL dAX8_are_0 6 rfl) (by decide) (fun h10 => ?_) (fun h10 => ?_)
  · refine v_iconst hX (atL dAX8_are_0 17 rfl) ?_
    exact v_zret hX (by decide +kernel) (atL dAX8_are_0 18 rfl) (hret _ _ (Or.inr ⟨rfl, fun q => (g7.resolve_left (fun q => by omega)).2.1 q.1, by rw [(g7.resolve_left (fun q => by omega)).2.2, su_su]⟩))
  · obtain ⟨-, hs7, e7⟩ := (g7.resolve_right (fun q => by omega))
    refine v_aload_n hX 0 rfl (atL dAX8_are_0 7 rfl) ?_
    refine v_iload_n hX 2 rfl (atL dAX8_are_0 8 rfl) ?_
    refine v_callV hX (As := [.int (iI (p1))]) (rest := []) (c_X8_isSlot (xl X) w s7 hk0 p1 hp1) lk_X8_237 hk0 (fun _ => rfl) rfl rfl rfl (by rw [hR]; exact ⟨Nat.le_of_ble_eq_true rfl, Nat.le_of_ble_eq_true rfl⟩) ⟨Nat.zero_le _, Nat.zero_le _⟩ rfl (Nat.le_of_ble_eq_true rfl) (atL dAX8_are_0 9 rfl) (fun r15 s15 g15 => ?_)
    have gd15 : r15 = 0 ∨ r15 = 1 := by rcases g15 with q | q <;> omega
    show V X _ w _ _ s15 [.int (iI (r15))]
    refine v_if_eq hX ⟨by omega, by omega⟩ (tgt := 33) (atL dAX8_are_0 10 rfl) (by decide) (fun h18 => ?_) (fun h18 => ?_)
    · refine v_iconst hX (atL dAX8_are_0 17 rfl) ?_
      exact v_zret hX (by decide +kernel) (atL dAX8_are_0 18 rfl) (hret _ _ (Or.inr ⟨rfl, fun q => (g15.resolve_left (fun q => by omega)).2.1 q.2.1, by rw [(g15.resolve_left (fun q => by omega)).2.2, e7, su_su]⟩))
    · obtain ⟨-, hs15, e15⟩ := (g15.resolve_right (fun q => by omega))
      refine v_aload_n hX 0 rfl (atL dAX8_are_0 11 rfl) ?_
      refine v_iload_n hX 3 rfl (atL dAX8_are_0 12 rfl) ?_
      refine v_callV hX (As := [.int (iI (p2))]) (rest := []) (c_X8_isSlot (xl X) w s15 hk0 p2 hp2) lk_X8_237 hk0 (fun _ => rfl) rfl rfl rfl (by rw [hR]; exact ⟨Nat.le_of_ble_eq_true rfl, Nat.le_of_ble_eq_true rfl⟩) ⟨Nat.zero_le _, Nat.zero_le _⟩ rfl (Nat.le_of_ble_eq_true rfl) (atL dAX8_are_0 13 rfl) (fun r23 s23 g23 => ?_)
      have gd23 : r23 = 0 ∨ r23 = 1 := by rcases g23 with q | q <;> omega
      show V X _ w _ _ s23 [.int (iI (r23))]
      refine v_if_eq hX ⟨by omega, by omega⟩ (tgt := 33) (atL dAX8_are_0 14 rfl) (by decide) (fun h26 => ?_) (fun h26 => ?_)
      · refine v_iconst hX (atL dAX8_are_0 17 rfl) ?_
        exact v_zret hX (by decide +kernel) (atL dAX8_are_0 18 rfl) (hret _ _ (Or.inr ⟨rfl, fun q => (g23.resolve_left (fun q => by omega)).2.1 q.2.2, by rw [(g23.resolve_left (fun q => by omega)).2.2, e15, e7, su_su]⟩))
      · refine v_iconst hX (atL dAX8_are_0 15 rfl) ?_
        refine v_goto hX (tgt := 34) (atL dAX8_are_0 16 rfl) (by decide) ?_
        exact v_zret hX (by decide +kernel) (atL dAX8_are_0 18 rfl) (hret _ _ (Or.inl ⟨rfl, ⟨hs7, hs15, (g23.resolve_right (fun q => by omega)).2.1⟩, by rw [(g23.resolve_right (fun q => by omega)).2.2, e15, e7]⟩))

set_option maxHeartbeats 1000000 in
set_option maxRecDepth 100000 in
theorem c_X8_isHash (l : Launch) (w : Wl) (σ : St) (hk0 : w.2 13 0) (h : Int) (hh : rI h) : Cn l yX8_isHash cX8_isHash 2 (Option.some Jvm.ClassFile.FieldType.boolean) 1 21 wI [.ref (w.1 13 0), .int (iI (h))] w σ (fun a σ' => (a = 1 ∧ isH h ∧ σ' = σ) ∨ (a = 0 ∧ ¬ isH h ∧ σ' = su σ 10 0 0 2)) := by
  refine Cn.of (own := RX8) (lv := [(0, .ref (w.1 13 0)), (1, .int (iI (h)))]) (by decide +kernel) rfl (Nat.le_of_ble_eq_true rfl) rfl (fun X hX hxl hR hcl hret => ?_)
  subst hxl
  refine v_aload_n hX 0 rfl (atL dAX8_isHash_0 0 rfl) ?_
  refine v_iload_n hX 1 rfl (atL dAX8_isHash_0 1 rfl) ?_
  refine v_if_lt hX hh (tgt := 10) (atL dAX8_isHash_0 2 rfl) (by decide) (fun h2 => ?_) (fun h2 => ?_)
  · refine v_iconst hX (atL dAX8_isHash_0 6 rfl) ?_
    refine v_goto hX (tgt := 15) (atL dAX8_isHash_0 7 rfl) (by decide) ?_
    refine v_callV hX (As := [.int (iI (1))]) (rest := []) (c_X8_bad (xl X) w σ hk0 1 (by decide)) lk_X8_244 hk0 (fun _ => rfl) rfl rfl rfl (by rw [hR]; exact ⟨Nat.le_of_ble_eq_true rfl, Nat.le_of_ble_eq_true rfl⟩) ⟨Nat.zero_le _, Nat.zero_le _⟩ rfl (Nat.le_of_ble_eq_true rfl) (atL dAX8_isHash_0 9 rfl) (fun rb sb gb => ?_)
    obtain ⟨gba, gbb⟩ := gb
    subst gba
    show V X _ w _ _ sb [.int (iI (1))]
    refine v_if_ne hX ⟨by omega, by omega⟩ (tgt := 25) (atL dAX8_isHash_0 10 rfl) (by decide) (fun h18 => ?_) (fun h18 => absurd h18 (by omega))
    refine v_iconst hX (atL dAX8_isHash_0 13 rfl) ?_
    exact v_zret hX (by decide +kernel) (atL dAX8_isHash_0 14 rfl) (hret _ _ (Or.inr ⟨rfl, fun q => by omega, (gbb.resolve_left (fun q => by omega)).2⟩))
  · refine v_iload_n hX 1 rfl (atL dAX8_isHash_0 3 rfl) ?_
    refine v_iconst hX (atL dAX8_isHash_0 4 rfl) ?_
    refine v_icmp_le hX hh ⟨by omega, by omega⟩ (tgt := 14) (atL dAX8_isHash_0 5 rfl) (by decide) (fun h7 => ?_) (fun h7 => ?_)
    · refine v_iconst hX (atL dAX8_isHash_0 8 rfl) ?_
      refine v_callV hX (As := [.int (iI (0))]) (rest := []) (c_X8_bad (xl X) w σ hk0 0 (by decide)) lk_X8_244 hk0 (fun _ => rfl) rfl rfl rfl (by rw [hR]; exact ⟨Nat.le_of_ble_eq_true rfl, Nat.le_of_ble_eq_true rfl⟩) ⟨Nat.zero_le _, Nat.zero_le _⟩ rfl (Nat.le_of_ble_eq_true rfl) (atL dAX8_isHash_0 9 rfl) (fun rb sb gb => ?_)
      obtain ⟨gba, gbb⟩ := gb
      subst gba
      show V X _ w _ _ sb [.int (iI (0))]
      refine v_if_ne hX ⟨by omega, by omega⟩ (tgt := 25) (atL dAX8_isHash_0 10 rfl) (by decide) (fun h18 => absurd h18 (by omega)) (fun h18 => ?_)
      refine v_iconst hX (atL dAX8_isHash_0 11 rfl) ?_
      refine v_goto hX (tgt := 26) (atL dAX8_isHash_0 12 rfl) (by decide) ?_
      exact v_zret hX (by decide +kernel) (atL dAX8_isHash_0 14 rfl) (hret _ _ (Or.inl ⟨rfl, by omega, (gbb.resolve_right (fun q => by omega)).2⟩))
    · refine v_iconst hX (atL dAX8_isHash_0 6 rfl) ?_
      refine v_goto hX (tgt := 15) (atL dAX8_isHash_0 7 rfl) (by decide) ?_
      refine v_callV hX (As := [.int (iI (1))]) (rest := []) (c_X8_bad (xl X) w σ hk0 1 (by decide)) lk_X8_244 hk0 (fun _ => rfl) rfl rfl rfl (by rw [hR]; exact ⟨Nat.le_of_ble_eq_true rfl, Nat.le_of_ble_eq_true rfl⟩) ⟨Nat.zero_le _, Nat.zero_le _⟩ rfl (Nat.le_of_ble_eq_true rfl) (atL dAX8_isHash_0 9 rfl) (fun rb sb gb => ?_)
      obtain ⟨gba, gbb⟩ := gb
      subst gba
      show V X _ w _ _ sb [.int (iI (1))]
      refine v_if_ne hX ⟨by omega, by omega⟩ (tgt := 25) (atL dAX8_isHash_0 10 rfl) (by decide) (fun h18 => ?_) (fun h18 => absurd h18 (by omega))
      refine v_iconst hX (atL dAX8_isHash_0 13 rfl) ?_
      exact v_zret hX (by decide +kernel) (atL dAX8_isHash_0 14 rfl) (hret _ _ (Or.inr ⟨rfl, fun q => by omega, (gbb.resolve_left (fun q => by omega)).2⟩))
