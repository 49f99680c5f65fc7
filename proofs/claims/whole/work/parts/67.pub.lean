set_option maxHeartbeats 1000000 in
set_option maxRecDepth 100000 in
theorem c_X6_slotAt (l : Launch) (hst : l.stackTraces = false) (w : Wl) (σ : St) (hk0 : w.2 0 0) (k : Int) (hk : rI k) : Cx l yX6_slotAt cX6_slotAt 2 (Option.some (Jvm.ClassFile.FieldType.object "SealHouse$Row")) 6 82 1 6 wT [.ref (w.1 0 0), .int (iI (k))] w σ (fun a σ' => ∃ n : Nat, k = (n : Int) ∧ n < 24 ∧ a = w.1 1 n ∧ σ' = σ) (fun E => E = eI ∧ ¬ isS k) := by
  refine Cx.of (own := RX6) (lv := [(0, .ref (w.1 0 0)), (1, .int (iI (k)))]) (by decide +kernel) rfl (Nat.le_of_ble_eq_true rfl) rfl (fun X hX hxl hR hcl hret hx => ?_)
  subst hxl
  have hH : ∀ c q, (c, q) ∈ mn σ 0 0 → w.2 c q := fun c q h => hcl 0 0 hk0 (c, q) h
  refine v_iload_n hX 1 rfl (atL dAX6_slotAt_0 0 rfl) ?_
  refine v_if_lt hX hk (tgt := 10) (atL dAX6_slotAt_0 1 rfl) (by decide) (fun h1 => ?_) (fun h1 => ?_)
  · exact v_throwSW hX hst wd_251 xi_I (List.mem_of_getElem? (i := 0) rfl) xg_I xl_I xn_I (by decide +kernel) (atL dAX6_slotAt_0 5 rfl) (atL dAX6_slotAt_0 6 rfl) (atL dAX6_slotAt_0 7 rfl) (atL dAX6_slotAt_0 8 rfl) (atL dAX6_slotAt_0 9 rfl) (by rw [hR]; exact ⟨Nat.le_of_ble_eq_true rfl, Nat.le_of_ble_eq_true rfl⟩) (by rw [hR]; exact ⟨Nat.le_of_ble_eq_true rfl, Nat.le_of_ble_eq_true rfl⟩) (hx _ (⟨rfl, fun q => by unfold isS at q; omega⟩) _ (Nat.le_of_ble_eq_true rfl) (Nat.le_of_ble_eq_true rfl))
  · refine v_iload_n hX 1 rfl (atL dAX6_slotAt_0 2 rfl) ?_
    refine v_bipush hX (by decide +kernel) (atL dAX6_slotAt_0 3 rfl) ?_
    refine v_icmp_lt hX hk ⟨by omega, by omega⟩ (tgt := 21) (atL dAX6_slotAt_0 4 rfl) (by decide) (fun h7 => ?_) (fun h7 => ?_)
    · refine v_aload_n hX 0 rfl (atL dAX6_slotAt_0 10 rfl) ?_
      refine gf_X6_11 hX hk0 (atL dAX6_slotAt_0 11 rfl) ?_
      refine v_iload_n hX 1 rfl (atL dAX6_slotAt_0 12 rfl) ?_
      obtain ⟨n, hn⟩ : ∃ n : Nat, k = (n : Int) := ⟨k.toNat, by omega⟩
      refine v_aald hX (t := 5) (x := w.1 1 n) n (hH 11 0 (by simp [mn, tp])) (fun _ => rfl) (fun _ => rfl) hn (by omega) (by decide) rfl (atL dAX6_slotAt_0 13 rfl) ?_
      exact v_aret hX (atL dAX6_slotAt_0 14 rfl) (hret _ _ ⟨n, hn, by omega, rfl, rfl⟩ _ (Nat.le_of_ble_eq_true rfl) (Nat.le_of_ble_eq_true rfl))
    · exact v_throwSW hX hst wd_251 xi_I (List.mem_of_getElem? (i := 0) rfl) xg_I xl_I xn_I (by decide +kernel) (atL dAX6_slotAt_0 5 rfl) (atL dAX6_slotAt_0 6 rfl) (atL dAX6_slotAt_0 7 rfl) (atL dAX6_slotAt_0 8 rfl) (atL dAX6_slotAt_0 9 rfl) (by rw [hR]; exact ⟨Nat.le_of_ble_eq_true rfl, Nat.le_of_ble_eq_true rfl⟩) (by rw [hR]; exact ⟨Nat.le_of_ble_eq_true rfl, Nat.le_of_ble_eq_true rfl⟩) (hx _ (⟨rfl, fun q => by unfold isS at q; omega⟩) _ (Nat.le_of_ble_eq_true rfl) (Nat.le_of_ble_eq_true rfl))

set_option maxHeartbeats 1000000 in
set_option maxRecDepth 100000 in
theorem c_X6_checkHash (l : Launch) (hst : l.stackTraces = false) (w : Wl) (σ : St) (hk0 : w.2 0 0) (h : Int) (hh : rI h) : Cx l yX6_checkHash cX6_checkHash 2 none 6 82 1 6 wN [.ref (w.1 0 0), .int (iI (h))] w σ (fun _ σ' => (h = 0 ∨ h = 1) ∧ σ' = σ) (fun E => E = eA ∧ ¬ (h = 0 ∨ h = 1)) := by
  refine Cx.of (own := RX6) (lv := [(0, .ref (w.1 0 0)), (1, .int (iI (h)))]) (by decide +kernel) rfl (Nat.le_of_ble_eq_true rfl) rfl (fun X hX hxl hR hcl hret hx => ?_)
  subst hxl
  have hH : ∀ c q, (c, q) ∈ mn σ 0 0 → w.2 c q := fun c q h => hcl 0 0 hk0 (c, q) h
  refine v_iload_n hX 1 rfl (atL dAX6_checkHash_0 0 rfl) ?_
  refine v_if_eq hX hh (tgt := 20) (atL dAX6_checkHash_0 1 rfl) (by decide) (fun h1 => ?_) (fun h1 => ?_)
  · exact v_vret hX (atL dAX6_checkHash_0 10 rfl) (hret () _ ⟨by omega, rfl⟩ _ (Nat.le_of_ble_eq_true rfl) (Nat.le_of_ble_eq_true rfl))
  · refine v_iload_n hX 1 rfl (atL dAX6_checkHash_0 2 rfl) ?_
    refine v_iconst hX (atL dAX6_checkHash_0 3 rfl) ?_
    refine v_icmp_eq hX hh ⟨by omega, by omega⟩ (tgt := 20) (atL dAX6_checkHash_0 4 rfl) (by decide) (fun h6 => ?_) (fun h6 => ?_)
    · exact v_vret hX (atL dAX6_checkHash_0 10 rfl) (hret () _ ⟨by omega, rfl⟩ _ (Nat.le_of_ble_eq_true rfl) (Nat.le_of_ble_eq_true rfl))
    · exact v_throwSW hX hst wd_317 xi_A (List.mem_of_getElem? (i := 5) rfl) xg_A xl_A xn_A (by decide +kernel) (atL dAX6_checkHash_0 5 rfl) (atL dAX6_checkHash_0 6 rfl) (atL dAX6_checkHash_0 7 rfl) (atL dAX6_checkHash_0 8 rfl) (atL dAX6_checkHash_0 9 rfl) (by rw [hR]; exact ⟨Nat.le_of_ble_eq_true rfl, Nat.le_of_ble_eq_true rfl⟩) (by rw [hR]; exact ⟨Nat.le_of_ble_eq_true rfl, Nat.le_of_ble_eq_true rfl⟩) (hx _ (⟨rfl, fun q => by omega⟩) _ (Nat.le_of_ble_eq_true rfl) (Nat.le_of_ble_eq_true rfl))

set_option maxHeartbeats 1000000 in
set_option maxRecDepth 100000 in
theorem c_X6_keyAt (l : Launch) (hst : l.stackTraces = false) (w : Wl) (σ : St) (hk0 : w.2 0 0) (A : Ab) (hS : HS σ A) (k : Int) (hk : rI k) : Cx l yX6_keyAt cX6_keyAt 2 (Option.some (Jvm.ClassFile.FieldType.object "SealHouse$Key")) 6 82 1 6 wT [.ref (w.1 0 0), .int (iI (k))] w σ (fun a σ' => ∃ n : Nat, k = (n : Int) ∧ n < A.2.1 ∧ a = w.1 5 n ∧ σ' = σ) (fun E => E = eI ∧ ¬ (0 ≤ k ∧ k < (A.2.1 : Int))) := by
  refine Cx.of (own := RX6) (lv := [(0, .ref (w.1 0 0)), (1, .int (iI (k)))]) (by decide +kernel) rfl (Nat.le_of_ble_eq_true rfl) rfl (fun X hX hxl hR hcl hret hx => ?_)
  subst hxl
  have hH : ∀ c q, (c, q) ∈ mn σ 0 0 → w.2 c q := fun c q h => hcl 0 0 hk0 (c, q) h
  refine v_iload_n hX 1 rfl (atL dAX6_keyAt_0 0 rfl) ?_
  refine v_if_lt hX hk (tgt := 19) (atL dAX6_keyAt_0 1 rfl) (by decide) (fun h1 => ?_) (fun h1 => ?_)
  · exact v_throwSW hX hst wd_251 xi_I (List.mem_of_getElem? (i := 7) rfl) xg_I xl_I xn_I (by decide +kernel) (atL dAX6_keyAt_0 10 rfl) (atL dAX6_keyAt_0 11 rfl) (atL dAX6_keyAt_0 12 rfl) (atL dAX6_keyAt_0 13 rfl) (atL dAX6_keyAt_0 14 rfl) (by rw [hR]; exact ⟨Nat.le_of_ble_eq_true rfl, Nat.le_of_ble_eq_true rfl⟩) (by rw [hR]; exact ⟨Nat.le_of_ble_eq_true rfl, Nat.le_of_ble_eq_true rfl⟩) (hx _ (⟨rfl, fun q => by have := hS.2.2.2.2.1; omega⟩) _ (Nat.le_of_ble_eq_true rfl) (Nat.le_of_ble_eq_true rfl))
  · refine v_iload_n hX 1 rfl (atL dAX6_keyAt_0 2 rfl) ?_
    refine v_bipush hX (by decide +kernel) (atL dAX6_keyAt_0 3 rfl) ?_
    refine v_icmp_ge hX hk ⟨by omega, by omega⟩ (tgt := 19) (atL dAX6_keyAt_0 4 rfl) (by decide) (fun h7 => ?_) (fun h7 => ?_)
    · exact v_throwSW hX hst wd_251 xi_I (List.mem_of_getElem? (i := 7) rfl) xg_I xl_I xn_I (by decide +kernel) (atL dAX6_keyAt_0 10 rfl) (atL dAX6_keyAt_0 11 rfl) (atL dAX6_keyAt_0 12 rfl) (atL dAX6_keyAt_0 13 rfl) (atL dAX6_keyAt_0 14 rfl) (by rw [hR]; exact ⟨Nat.le_of_ble_eq_true rfl, Nat.le_of_ble_eq_true rfl⟩) (by rw [hR]; exact ⟨Nat.le_of_ble_eq_true rfl, Nat.le_of_ble_eq_true rfl⟩) (hx _ (⟨rfl, fun q => by have := hS.2.2.2.2.1; omega⟩) _ (Nat.le_of_ble_eq_true rfl) (Nat.le_of_ble_eq_true rfl))
    · obtain ⟨n, hn⟩ : ∃ n : Nat, k = (n : Int) := ⟨k.toNat, by omega⟩
      have h7 := hS.2.2.2.2.2.1 n (by omega)
      by_cases c : n < A.2.1
      · rw [if_pos c] at h7
        refine v_aload_n hX 0 rfl (atL dAX6_keyAt_0 5 rfl) ?_
        refine gf_X6_24 hX hk0 (atL dAX6_keyAt_0 6 rfl) ?_
        refine v_iload_n hX 1 rfl (atL dAX6_keyAt_0 7 rfl) ?_
        refine v_aald hX (t := 4) (x := w.1 5 n) n (hH 12 0 (by simp [mn, tp])) (fun _ => rfl) (fun _ => rfl) hn (by omega) (by decide) (if_pos h7) (atL dAX6_keyAt_0 8 rfl) ?_
        refine v_ifnn hX (atL dAX6_keyAt_0 9 rfl) (tgt := 30) (by decide) ?_
        refine v_aload_n hX 0 rfl (atL dAX6_keyAt_0 15 rfl) ?_
        refine gf_X6_24 hX hk0 (atL dAX6_keyAt_0 16 rfl) ?_
        refine v_iload_n hX 1 rfl (atL dAX6_keyAt_0 17 rfl) ?_
        refine v_aald hX (t := 4) (x := w.1 5 n) n (hH 12 0 (by simp [mn, tp])) (fun _ => rfl) (fun _ => rfl) hn (by omega) (by decide) (if_pos h7) (atL dAX6_keyAt_0 18 rfl) ?_
        exact v_aret hX (atL dAX6_keyAt_0 19 rfl) (hret _ _ ⟨n, hn, c, rfl, rfl⟩ _ (Nat.le_of_ble_eq_true rfl) (Nat.le_of_ble_eq_true rfl))
      · rw [if_neg c] at h7
        refine v_aload_n hX 0 rfl (atL dAX6_keyAt_0 5 rfl) ?_
        refine gf_X6_24 hX hk0 (atL dAX6_keyAt_0 6 rfl) ?_
        refine v_iload_n hX 1 rfl (atL dAX6_keyAt_0 7 rfl) ?_
        refine v_aaldN hX (t := 4) n (hH 12 0 (by simp [mn, tp])) (fun _ => rfl) (fun _ => rfl) hn (by omega) (by decide) (if_neg (by rw [h7]; decide)) (atL dAX6_keyAt_0 8 rfl) ?_
        refine v_ifnnN hX (atL dAX6_keyAt_0 9 rfl) ?_
        exact v_throwSW hX hst wd_251 xi_I (List.mem_of_getElem? (i := 7) rfl) xg_I xl_I xn_I (by decide +kernel) (atL dAX6_keyAt_0 10 rfl) (atL dAX6_keyAt_0 11 rfl) (atL dAX6_keyAt_0 12 rfl) (atL dAX6_keyAt_0 13 rfl) (atL dAX6_keyAt_0 14 rfl) (by rw [hR]; exact ⟨Nat.le_of_ble_eq_true rfl, Nat.le_of_ble_eq_true rfl⟩) (by rw [hR]; exact ⟨Nat.le_of_ble_eq_true rfl, Nat.le_of_ble_eq_true rfl⟩) (hx _ (⟨rfl, fun q => by omega⟩) _ (Nat.le_of_ble_eq_true rfl) (Nat.le_of_ble_eq_true rfl))
