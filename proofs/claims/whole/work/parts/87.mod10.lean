/-- slot s of the model holds L -/
def SM1 (σ : St) (s : Nat) (L : List Nat) : Prop := σ 13 1 s = (L.length : Int) ∧ L.length ≤ 256 ∧ ∀ j, j < L.length → σ 13 0 (256 * s + j) = ((L.getD j 0 : Nat) : Int)
theorem SM1.fp {σ t : St} {s : Nat} {L : List Nat} (h : SM1 σ s L) (f : Fr [(10, 0), (13, 3)] σ t) : SM1 t s L := by
  unfold SM1
  rw [f 13 1 (by simp), f 13 0 (by simp)]
  exact h

set_option maxHeartbeats 1000000 in
set_option maxRecDepth 100000 in
theorem c_X8_putsSlot (l : Launch) (w : Wl) (σ : St) (hk0 : w.2 13 0) (M : List Nat) (hM : RO σ M) (s : Nat) (hs : s < 24) (L : List Nat) (hS : SM1 σ s L) (hl9 : M.length + L.length ≤ 1000) : Cn l yX8_putsSlot cX8_putsSlot 3 none 1 21 wN [.ref (w.1 13 0), .int (iI ((s : Int)))] w σ (fun _ σ' => RO σ' (M ++ L) ∧ FP σ σ') := by
  refine Cn.of (own := RX8) (lv := [(0, .ref (w.1 13 0)), (1, .int (iI ((s : Int))))]) (by decide +kernel) rfl (Nat.le_of_ble_eq_true rfl) rfl (fun X hX hxl hR hcl hret => ?_)
  subst hxl
  have hQ : ∀ q, (14, q) ∈ mn σ 13 0 → w.2 14 q := fun q h => hcl 13 0 hk0 (14, q) h
  have hQ5 : ∀ q, (14, q) ∈ mn σ 13 0 → w.2 15 q := fun q h => hcl 14 q (hQ q h) (15, q) (by simp [mn, tp])
  have hQ16 : ∀ q, (16, q) ∈ mn σ 13 0 → w.2 16 q := fun q h => hcl 13 0 hk0 (16, q) h
  have hL := hS.2.1
  have loop : ∀ (d k : Nat) (t : St), k + d = L.length → RO t (M ++ L.take k) → FP σ t → V X (0, 0) w 2 [(2, .int (iI ((k : Int)))), (0, .ref (w.1 13 0)), (1, .int (iI ((s : Int))))] t [] := by
    intro d
    induction d with
    | zero =>
      intro k t hk hr hf
      obtain rfl : k = L.length := by omega
      have hs2 := (hS.fp hf.1).1
      refine v_iload_n hX 0 rfl (atL dAX8_putsSlot_0 2 rfl) ?_
      refine v_aload_n hX 1 rfl (atL dAX8_putsSlot_0 3 rfl) ?_
      refine gf_X8_71 hX hk0 (atL dAX8_putsSlot_0 4 rfl) ?_
      refine v_iload_n hX 2 rfl (atL dAX8_putsSlot_0 5 rfl) ?_
      refine v_iald hX (r := iI ((L.length : Int))) s (hQ16 1 (by simp [mn, tp])) (fun _ => rfl) rfl (show s < 24 by omega) (by decide) (congrArg iI hs2) (atL dAX8_putsSlot_0 6 rfl) ?_
      refine v_icmp_ge hX ⟨by omega, by omega⟩ ⟨by omega, by omega⟩ (tgt := 34) (atL dAX8_putsSlot_0 7 rfl) (by decide) (fun h9 => ?_) (fun h9 => absurd h9 (by omega))
      exact v_vret hX (atL dAX8_putsSlot_0 20 rfl) (hret () _ ⟨by rw [List.take_length] at hr; exact hr, hf⟩)
    | succ d ih =>
      intro k t hk hr hf
      have hs2 := (hS.fp hf.1).1
      have hb2 := (hS.fp hf.1).2.2 k (by omega)
      refine v_iload_n hX 0 rfl (atL dAX8_putsSlot_0 2 rfl) ?_
      refine v_aload_n hX 1 rfl (atL dAX8_putsSlot_0 3 rfl) ?_
      refine gf_X8_71 hX hk0 (atL dAX8_putsSlot_0 4 rfl) ?_
      refine v_iload_n hX 2 rfl (atL dAX8_putsSlot_0 5 rfl) ?_
      refine v_iald hX (r := iI ((L.length : Int))) s (hQ16 1 (by simp [mn, tp])) (fun _ => rfl) rfl (show s < 24 by omega) (by decide) (congrArg iI hs2) (atL dAX8_putsSlot_0 6 rfl) ?_
      refine v_icmp_ge hX ⟨by omega, by omega⟩ ⟨by omega, by omega⟩ (tgt := 34) (atL dAX8_putsSlot_0 7 rfl) (by decide) (fun h9 => absurd h9 (by omega)) (fun h9 => ?_)
      refine v_aload_n hX 1 rfl (atL dAX8_putsSlot_0 8 rfl) ?_
      refine v_aload_n hX 1 rfl (atL dAX8_putsSlot_0 9 rfl) ?_
      refine gf_X8_67 hX hk0 (atL dAX8_putsSlot_0 10 rfl) ?_
      refine v_sipush hX (by decide +kernel) (atL dAX8_putsSlot_0 11 rfl) ?_
      refine v_iload_n hX 2 rfl (atL dAX8_putsSlot_0 12 rfl) ?_
      refine v_imul hX (iI_mul _ _) (atL dAX8_putsSlot_0 13 rfl) ?_
      refine v_iload_n hX 0 rfl (atL dAX8_putsSlot_0 14 rfl) ?_
      refine v_iadd hX (iI_add _ _) (atL dAX8_putsSlot_0 15 rfl) ?_
      rw [show ((256 * ((s : Int))) + ((k : Int))) = ((256 * s + k : Nat) : Int) from (by omega)]
      refine v_iald hX (r := iI (((L.getD k 0 : Nat) : Int))) (256 * s + k) (hQ16 0 (by simp [mn, tp])) (fun _ => rfl) rfl (show 256 * s + k < 6144 by omega) (by decide) (congrArg iI hb2) (atL dAX8_putsSlot_0 16 rfl) ?_
      refine v_callV hX (As := [.int (iI (((L.getD k 0 : Nat) : Int)))]) (rest := []) (c_X8_puts (xl X) w t hk0 (M ++ L.take k) hr (by rw [List.length_append, List.length_take]; omega) (L.getD k 0)) lk_X8_251 hk0 (fun _ => rfl) rfl rfl rfl (by rw [hR]; exact ⟨Nat.le_of_ble_eq_true rfl, Nat.le_of_ble_eq_true rfl⟩) ⟨Nat.zero_le _, Nat.zero_le _⟩ rfl (Nat.le_of_ble_eq_true rfl) (atL dAX8_putsSlot_0 17 rfl) (fun _ t2 g2 => ?_)
      obtain ⟨g2a, g2b⟩ := g2
      rw [List.append_assoc, take_get (by omega)] at g2a
      show V X _ w _ _ t2 []
      refine v_iinc hX (lv' := [(2, .int (iI (((k : Int)) + 1))), (0, .ref (w.1 13 0)), (1, .int (iI ((s : Int))))]) 0 rfl (iI_add _ _) (Nat.le_of_ble_eq_true rfl) rfl (atL dAX8_putsSlot_0 18 rfl) ?_
      refine v_goto hX (tgt := 2) (atL dAX8_putsSlot_0 19 rfl) (by decide) ?_
      refine v_sub (lv' := [(2, .int (iI (((k : Int)) + 1))), (0, .ref (w.1 13 0)), (1, .int (iI ((s : Int))))]) [0, 1, 2] rfl ?_
      rw [show (k : Int) + 1 = ((k + 1 : Nat) : Int) by omega]
      exact ih (k + 1) _ (by omega) g2a (hf.tr g2b)
  refine v_iconst hX (atL dAX8_putsSlot_0 0 rfl) ?_
  refine v_istore_n hX (i := 2) rfl (lv' := [(2, .int (iI (0))), (0, .ref (w.1 13 0)), (1, .int (iI ((s : Int))))]) (Nat.le_of_ble_eq_true rfl) rfl (atL dAX8_putsSlot_0 1 rfl) ?_
  exact loop L.length 0 σ (by omega) (by rw [List.take_zero, List.append_nil]; exact hM) FP.rf

set_option maxHeartbeats 1000000 in
set_option maxRecDepth 100000 in
theorem c_X8_writes (l : Launch) (w : Wl) (σ : St) (hk0 : w.2 13 0) (M : List Nat) (hM : RO σ M) (hl9 : M.length ≤ 256) (s : Nat) (hs : s < 24) : Cn l yX8_writes cX8_writes 3 (Option.some Jvm.ClassFile.FieldType.int) 0 0 wI [.ref (w.1 13 0), .int (iI ((s : Int)))] w σ (fun a σ' => a = (M.length : Int) ∧ SM1 σ' s M ∧ (∀ q, (q < 256 * s ∨ 256 * s + M.length ≤ q) → σ' 13 0 q = σ 13 0 q) ∧ (∀ q, q ≠ s → σ' 13 1 q = σ 13 1 q) ∧ Fr [(13, 0), (13, 1)] σ σ') := by
  refine Cn.of (own := RX8) (lv := [(0, .ref (w.1 13 0)), (1, .int (iI ((s : Int))))]) (by decide +kernel) rfl (Nat.le_of_ble_eq_true rfl) rfl (fun X hX hxl hR hcl hret => ?_)
  subst hxl
  have hQ : ∀ q, (14, q) ∈ mn σ 13 0 → w.2 14 q := fun q h => hcl 13 0 hk0 (14, q) h
  have hQ5 : ∀ q, (14, q) ∈ mn σ 13 0 → w.2 15 q := fun q h => hcl 14 q (hQ q h) (15, q) (by simp [mn, tp])
  have hQ16 : ∀ q, (16, q) ∈ mn σ 13 0 → w.2 16 q := fun q h => hcl 13 0 hk0 (16, q) h
  have loop : ∀ (d k : Nat) (t : St), k + d = M.length → (∀ j, j < k → t 13 0 (256 * s + j) = ((M.getD j 0 : Nat) : Int)) → (∀ q, (q < 256 * s ∨ 256 * s + k ≤ q) → t 13 0 q = σ 13 0 q) → Fr [(13, 0)] σ t → V X (0, 0) w 2 [(2, .int (iI ((k : Int)))), (0, .ref (w.1 13 0)), (1, .int (iI ((s : Int))))] t [] := by
    intro d
    induction d with
    | zero =>
      intro k t hk h1 h2 hf
      obtain rfl : k = M.length := by omega
      have hr0 : t 10 0 2 = (M.length : Int) := by rw [hf 10 0 (by simp)]; exact hM.1
      refine v_iload_n hX 0 rfl (atL dAX8_writes_0 2 rfl) ?_
      refine v_aload_n hX 1 rfl (atL dAX8_writes_0 3 rfl) ?_
      refine gf_X8_248 hX (v := (M.length : Int)) (hr0) hk0 (atL dAX8_writes_0 4 rfl) ?_
      refine v_icmp_ge hX ⟨by omega, by omega⟩ ⟨by omega, by omega⟩ (tgt := 34) (atL dAX8_writes_0 5 rfl) (by decide) (fun h7 => ?_) (fun h7 => absurd h7 (by omega))
      refine v_aload_n hX 1 rfl (atL dAX8_writes_0 20 rfl) ?_
      refine gf_X8_71 hX hk0 (atL dAX8_writes_0 21 rfl) ?_
      refine v_iload_n hX 2 rfl (atL dAX8_writes_0 22 rfl) ?_
      refine v_aload_n hX 1 rfl (atL dAX8_writes_0 23 rfl) ?_
      refine gf_X8_248 hX (v := (M.length : Int)) (hr0) hk0 (atL dAX8_writes_0 24 rfl) ?_
      refine v_iast hX (c := 13) s (hQ16 1 (by simp [mn, tp])) (by decide) (fun _ _ => rfl) rfl (show s < 24 by omega) (by decide) (atL dAX8_writes_0 25 rfl) ?_
      refine v_aload_n hX 1 rfl (atL dAX8_writes_0 26 rfl) ?_
      refine gf_X8_248 hX (v := (M.length : Int)) ((su_c (by decide)).trans (hr0)) hk0 (atL dAX8_writes_0 27 rfl) ?_
      exact v_iret hX (atL dAX8_writes_0 28 rfl) (hret _ _ ⟨rfl, ⟨su_s, hl9, fun j hj => by rw [su_i (by decide)]; exact h1 j hj⟩, fun q hq => by rw [su_i (by decide)]; exact h2 q hq, fun q hq => by rw [su_j hq, hf 13 1 (by simp)], (hf.mono (by simp)).tr' (Fr.su (by simp))⟩)
    | succ d ih =>
      intro k t hk h1 h2 hf
      have hr0 : t 10 0 2 = (M.length : Int) := by rw [hf 10 0 (by simp)]; exact hM.1
      have hrk : t 13 3 k = ((M.getD k 0 : Nat) : Int) := by rw [hf 13 3 (by simp)]; exact hM.2 k (by omega)
      refine v_iload_n hX 0 rfl (atL dAX8_writes_0 2 rfl) ?_
      refine v_aload_n hX 1 rfl (atL dAX8_writes_0 3 rfl) ?_
      refine gf_X8_248 hX (v := (M.length : Int)) (hr0) hk0 (atL dAX8_writes_0 4 rfl) ?_
      refine v_icmp_ge hX ⟨by omega, by omega⟩ ⟨by omega, by omega⟩ (tgt := 34) (atL dAX8_writes_0 5 rfl) (by decide) (fun h7 => absurd h7 (by omega)) (fun h7 => ?_)
      refine v_aload_n hX 1 rfl (atL dAX8_writes_0 6 rfl) ?_
      refine gf_X8_67 hX hk0 (atL dAX8_writes_0 7 rfl) ?_
      refine v_sipush hX (by decide +kernel) (atL dAX8_writes_0 8 rfl) ?_
      refine v_iload_n hX 2 rfl (atL dAX8_writes_0 9 rfl) ?_
      refine v_imul hX (iI_mul _ _) (atL dAX8_writes_0 10 rfl) ?_
      refine v_iload_n hX 0 rfl (atL dAX8_writes_0 11 rfl) ?_
      refine v_iadd hX (iI_add _ _) (atL dAX8_writes_0 12 rfl) ?_
      rw [show ((256 * ((s : Int))) + ((k : Int))) = ((256 * s + k : Nat) : Int) from (by omega)]
      refine v_aload_n hX 1 rfl (atL dAX8_writes_0 13 rfl) ?_
      refine gf_X8_77 hX hk0 (atL dAX8_writes_0 14 rfl) ?_
      refine v_iload_n hX 0 rfl (atL dAX8_writes_0 15 rfl) ?_
      refine v_iald hX (r := iI (((M.getD k 0 : Nat) : Int))) k (hQ16 3 (by simp [mn, tp])) (fun _ => rfl) rfl (show k < 1000 by omega) (by decide) (congrArg iI hrk) (atL dAX8_writes_0 16 rfl) ?_
      refine v_iast hX (c := 13) (256 * s + k) (hQ16 0 (by simp [mn, tp])) (by decide) (fun _ _ => rfl) rfl (show 256 * s + k < 6144 by omega) (by decide) (atL dAX8_writes_0 17 rfl) ?_
      refine v_iinc hX (lv' := [(2, .int (iI (((k : Int)) + 1))), (0, .ref (w.1 13 0)), (1, .int (iI ((s : Int))))]) 0 rfl (iI_add _ _) (Nat.le_of_ble_eq_true rfl) rfl (atL dAX8_writes_0 18 rfl) ?_
      refine v_goto hX (tgt := 2) (atL dAX8_writes_0 19 rfl) (by decide) ?_
      refine v_sub (lv' := [(2, .int (iI (((k : Int)) + 1))), (0, .ref (w.1 13 0)), (1, .int (iI ((s : Int))))]) [0, 1, 2] rfl ?_
      rw [show (k : Int) + 1 = ((k + 1 : Nat) : Int) by omega]
      refine ih (k + 1) _ (by omega) (fun j hj => ?_) (fun q hq => by rw [su_j (by omega)]; exact h2 q (by omega)) (hf.tr' (Fr.su (by simp)))
      by_cases e : j = k
      · rw [e, su_s]
      · rw [su_j (by omega)]; exact h1 j (by omega)
  refine v_iconst hX (atL dAX8_writes_0 0 rfl) ?_
  refine v_istore_n hX (i := 2) rfl (lv' := [(2, .int (iI (0))), (0, .ref (w.1 13 0)), (1, .int (iI ((s : Int))))]) (Nat.le_of_ble_eq_true rfl) rfl (atL dAX8_writes_0 1 rfl) ?_
  exact loop M.length 0 σ (by omega) (fun j hj => absurd hj (by omega)) (fun q _ => rfl) Fr.rf
