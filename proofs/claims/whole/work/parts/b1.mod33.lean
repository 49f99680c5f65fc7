theorem are_4 {s s' : St} {r : Int} {P : Prop} (g : (r = 1 ∧ P ∧ s' = su s 10 0 0 0) ∨ (r = 0 ∧ ¬ P ∧ s' = su s 10 0 0 1)) : s' 10 0 4 = s 10 0 4 := by
  rcases g with ⟨-, -, e⟩ | ⟨-, -, e⟩ <;> rw [e, su_j (by decide)]
theorem iss_4 {s s' : St} {r v : Int} {P : Prop} (g : (r = 1 ∧ P ∧ s' = s) ∨ (r = 0 ∧ ¬ P ∧ s' = su s 10 0 0 v)) : s' 10 0 4 = s 10 0 4 := by
  rcases g with ⟨-, -, e⟩ | ⟨-, -, e⟩
  · rw [e]
  · rw [e, su_j (by decide)]
theorem bad_4 {s s' : St} {a b : Int} (g : a = b ∧ ((b = 0 ∧ s' = s) ∨ (b = 1 ∧ s' = su s 10 0 0 2))) : s' 10 0 4 = s 10 0 4 := by
  rcases g.2 with ⟨-, e⟩ | ⟨-, e⟩
  · rw [e]
  · rw [e, su_j (by decide)]
/-- so much of the room is left -/
def ZI (c : Nat) (z : Nat × Nat) (s : St) : Prop := z.1 + kap s * 10360 ≤ c * 10360 ∧ z.2 + kap s * 103600 ≤ c * 103600
theorem ZI.b {c : Nat} {z : Nat × Nat} {s : St} (h : ZI c z s) : z.1 ≤ c * 10360 ∧ z.2 ≤ c * 103600 := ⟨by have := h.1; omega, by have := h.2; omega⟩
theorem ZI.k {c : Nat} {z : Nat × Nat} {s t : St} (h : ZI c z s) (e : t 10 0 4 = s 10 0 4) : ZI c z t := by unfold ZI; rw [kap_e e]; exact h
theorem ZI.d {c : Nat} {z : Nat × Nat} {s t : St} (h : ZI c z s) (hk : CK t) : ZI c (z.1 + kap s * 10360, z.2 + kap s * 103600) t := by
  unfold ZI
  rw [kap_0 hk.1]
  exact ⟨by have := h.1; show z.1 + kap s * 10360 + 0 * 10360 ≤ _; omega, by have := h.2; show z.2 + kap s * 103600 + 0 * 103600 ≤ _; omega⟩
theorem ZI.z {σ : St} : ZI (kap σ) (0, 0) σ := ⟨Nat.le_of_eq (Nat.zero_add _), Nat.le_of_eq (Nat.zero_add _)⟩
theorem DG.rd [Gh] {s : St} (h : DG s) : RD s [] := ⟨h.1, fun j hj => absurd hj (by simp)⟩
theorem CO.fd [Gh] {s t : St} (h : CO s) (f : FD s t) : CO t := by
  unfold CO
  rw [f.2 4 (by decide), f.1 13 7 (by decide), f.1 13 8 (by decide)]
  exact h
theorem CO.fr [Gh] {s t : St} {l : List (Nat × Nat)} (h : CO s) (f : Fr l s t) (h0 : (10, 0) ∉ l) (h7 : (13, 7) ∉ l) (h8 : (13, 8) ∉ l) : CO t := by
  unfold CO
  rw [f 10 0 h0, f 13 7 h7, f 13 8 h8]
  exact h
theorem CK.dg [Gh] {s : St} (h : CK s) (h3 : s 10 0 3 = 0) : DG s := ⟨h3, Or.inr h⟩
theorem FDg.fg {b σ s : St} (h : FG b σ) (f : FDg σ s) : FG b s := by
  refine h.tr ⟨fun c i k => f.1 c i (fun q => ?_), f.2 1 (by decide) (by decide), f.2 5 (by decide) (by decide)⟩
  have h2 : DLs.all (fun q => !Gk q.1 q.2) = true := rfl
  have := List.all_eq_true.mp h2 _ q
  simp [k] at this
theorem FDg.an {σ s : St} (h : AN σ) (f : FDg σ s) : AN s := h.fp f.1 rfl
def MLs : List (Nat × Nat) := (13, 10) :: DLs
def FMk (σ s : St) : Prop := Fr MLs σ s ∧ ∀ j, j ≠ 3 → j ≠ 4 → s 10 0 j = σ 10 0 j
theorem FMk.rf {σ : St} : FMk σ σ := ⟨Fr.rf, fun _ _ _ => rfl⟩
theorem FMk.fd {σ s t : St} (h : FMk σ s) (f : FD s t) : FMk σ t := ⟨h.1.tr' (f.1.mono (by decide)), fun j h3 h4 => (f.2 j h3).trans (h.2 j h3 h4)⟩
theorem FMk.dg {σ s t : St} (h : FMk σ s) (f : FDg s t) : FMk σ t := ⟨h.1.tr' (f.1.mono (by decide)), fun j h3 h4 => (f.2 j h3 h4).trans (h.2 j h3 h4)⟩
theorem FMk.fr {σ s t : St} {l : List (Nat × Nat)} (h : FMk σ s) (f : Fr l s t) (hl : l.all (fun q => decide (q ∈ MLs)) = true) (h0 : (10, 0) ∉ l) : FMk σ t := ⟨h.1.tr' (f.mono (fun q hq => by have := List.all_eq_true.mp hl q hq; simpa using this)), fun j h3 h4 => by rw [f 10 0 h0]; exact h.2 j h3 h4⟩
theorem FMk.fg {b σ s : St} (h : FG b σ) (f : FMk σ s) : FG b s := by
  refine h.tr ⟨fun c i k => f.1 c i (fun q => ?_), f.2 1 (by decide) (by decide), f.2 5 (by decide) (by decide)⟩
  have h2 : MLs.all (fun q => !Gk q.1 q.2) = true := rfl
  have := List.all_eq_true.mp h2 _ q
  simp [k] at this
theorem msk_at {h : Int} {L : List Nat} {n b k : Nat} (hk : k < hl h) (hn : b * hl h + k < n) : (msk h L n).getD (b * hl h + k) 0 = (sha h (L ++ wb b)).getD k 0 := by
  have hp : 0 < hl h := by omega
  rw [msk_get hn, Nat.mul_comm b, Nat.mul_add_div hp, Nat.mul_add_mod, Nat.div_eq_of_lt hk, Nat.mod_eq_of_lt hk, Nat.add_zero]
theorem wb_2 {b : Nat} (hb : b < 65536) : wb b = [0, 0, b / 256, b % 256] := by
  unfold wb
  rw [show b / 16777216 % 256 = 0 by omega, show b / 65536 % 256 = 0 by omega, show b / 256 % 256 = b / 256 by omega]

set_option maxHeartbeats 1000000 in
set_option maxRecDepth 100000 in
theorem c_X8_saysSlot (l : Launch) (w : Wl) (σ : St) (hk0 : w.2 13 0) (M : List Nat) (hM : RD σ M) (s : Nat) (hs : s < 24) (L : List Nat) (hS : SM1 σ s L) (hl7 : M.length + L.length ≤ 700) : Cn l yX8_saysSlot cX8_saysSlot 3 none 1 21 wN [.ref (w.1 13 0), .int (iI ((s : Int)))] w σ (fun _ σ' => RD σ' (M ++ L) ∧ FD σ σ') := by
  refine Cn.of (own := RX8) (lv := [(0, .ref (w.1 13 0)), (1, .int (iI ((s : Int))))]) (by decide +kernel) rfl (Nat.le_of_ble_eq_true rfl) rfl (fun X hX hxl hR hcl hret => ?_)
  subst hxl
  have hQ : ∀ q, (14, q) ∈ mn σ 13 0 → w.2 14 q := fun q h => hcl 13 0 hk0 (14, q) h
  have hQ5 : ∀ q, (14, q) ∈ mn σ 13 0 → w.2 15 q := fun q h => hcl 14 q (hQ q h) (15, q) (by simp [mn, tp])
  have hQ16 : ∀ q, (16, q) ∈ mn σ 13 0 → w.2 16 q := fun q h => hcl 13 0 hk0 (16, q) h
  have hL := hS.2.1
  have loop : ∀ (d k : Nat) (t : St), k + d = L.length → RD t (M ++ L.take k) → FD σ t → V X (0, 0) w 2 [(2, .int (iI ((k : Int)))), (0, .ref (w.1 13 0)), (1, .int (iI ((s : Int))))] t [] := by
    intro d
    induction d with
    | zero =>
      intro k t hk hr hf
      obtain rfl : k = L.length := by omega
      have hs2 : t 13 1 s = (L.length : Int) := by rw [hf.1 13 1 (by decide)]; exact hS.1
      refine v_iload_n hX 0 rfl (atL dAX8_saysSlot_0 2 rfl) ?_
      refine v_aload_n hX 1 rfl (atL dAX8_saysSlot_0 3 rfl) ?_
      refine gf_X8_71 hX hk0 (atL dAX8_saysSlot_0 4 rfl) ?_
      refine v_iload_n hX 2 rfl (atL dAX8_saysSlot_0 5 rfl) ?_
      refine v_iald hX (r := iI ((L.length : Int))) s (hQ16 1 (by simp [mn, tp])) (fun _ => rfl) rfl (show s < 24 by omega) (by decide) (congrArg iI hs2) (atL dAX8_saysSlot_0 6 rfl) ?_
      refine v_icmp_ge hX ⟨by omega, by omega⟩ ⟨by omega, by omega⟩ (tgt := 34) (atL dAX8_saysSlot_0 7 rfl) (by decide) (fun h9 => ?_) (fun h9 => absurd h9 (by omega))
      exact v_vret hX (atL dAX8_saysSlot_0 20 rfl) (hret () _ ⟨by rw [List.take_length] at hr; exact hr, hf⟩)
    | succ d ih =>
      intro k t hk hr hf
      have hs2 : t 13 1 s = (L.length : Int) := by rw [hf.1 13 1 (by decide)]; exact hS.1
      have hb2 : t 13 0 (256 * s + k) = ((L.getD k 0 : Nat) : Int) := by rw [hf.1 13 0 (by decide)]; exact hS.2.2 k (by omega)
      refine v_iload_n hX 0 rfl (atL dAX8_saysSlot_0 2 rfl) ?_
      refine v_aload_n hX 1 rfl (atL dAX8_saysSlot_0 3 rfl) ?_
      refine gf_X8_71 hX hk0 (atL dAX8_saysSlot_0 4 rfl) ?_
      refine v_iload_n hX 2 rfl (atL dAX8_saysSlot_0 5 rfl) ?_
      refine v_iald hX (r := iI ((L.length : Int))) s (hQ16 1 (by simp [mn, tp])) (fun _ => rfl) rfl (show s < 24 by omega) (by decide) (congrArg iI hs2) (atL dAX8_saysSlot_0 6 rfl) ?_
      refine v_icmp_ge hX ⟨by omega, by omega⟩ ⟨by omega, by omega⟩ (tgt := 34) (atL dAX8_saysSlot_0 7 rfl) (by decide) (fun h9 => absurd h9 (by omega)) (fun h9 => ?_)
      refine v_aload_n hX 1 rfl (atL dAX8_saysSlot_0 8 rfl) ?_
      refine v_aload_n hX 1 rfl (atL dAX8_saysSlot_0 9 rfl) ?_
      refine gf_X8_67 hX hk0 (atL dAX8_saysSlot_0 10 rfl) ?_
      refine v_sipush hX (by decide +kernel) (atL dAX8_saysSlot_0 11 rfl) ?_
      refine v_iload_n hX 2 rfl (atL dAX8_saysSlot_0 12 rfl) ?_
      refine v_imul hX (iI_mul _ _) (atL dAX8_saysSlot_0 13 rfl) ?_
      refine v_iload_n hX 0 rfl (atL dAX8_saysSlot_0 14 rfl) ?_
      refine v_iadd hX (iI_add _ _) (atL dAX8_saysSlot_0 15 rfl) ?_
      rw [show ((256 * ((s : Int))) + ((k : Int))) = ((256 * s + k : Nat) : Int) from (by omega)]
      refine v_iald hX (r := iI (((L.getD k 0 : Nat) : Int))) (256 * s + k) (hQ16 0 (by simp [mn, tp])) (fun _ => rfl) rfl (show 256 * s + k < 6144 by omega) (by decide) (congrArg iI hb2) (atL dAX8_saysSlot_0 16 rfl) ?_
      refine v_callV hX (As := [.int (iI (((L.getD k 0 : Nat) : Int)))]) (rest := []) (c_X8_says (xl X) w t hk0 (M ++ L.take k) hr (by rw [List.length_append, List.length_take]; omega) (L.getD k 0)) lk_X8_326 hk0 (fun _ => rfl) rfl rfl rfl (by rw [hR]; exact ⟨Nat.le_of_ble_eq_true rfl, Nat.le_of_ble_eq_true rfl⟩) ⟨Nat.zero_le _, Nat.zero_le _⟩ rfl (Nat.le_of_ble_eq_true rfl) (atL dAX8_saysSlot_0 17 rfl) (fun _ t2 g2 => ?_)
      obtain ⟨g2a, g2b⟩ := g2
      rw [List.append_assoc, take_get2 (by omega)] at g2a
      show V X _ w _ _ t2 []
      refine v_iinc hX (lv' := [(2, .int (iI (((k : Int)) + 1))), (0, .ref (w.1 13 0)), (1, .int (iI ((s : Int))))]) 0 rfl (iI_add _ _) (Nat.le_of_ble_eq_true rfl) rfl (atL dAX8_saysSlot_0 18 rfl) ?_
      refine v_goto hX (tgt := 2) (atL dAX8_saysSlot_0 19 rfl) (by decide) ?_
      refine v_sub (lv' := [(2, .int (iI (((k : Int)) + 1))), (0, .ref (w.1 13 0)), (1, .int (iI ((s : Int))))]) [0, 1, 2] rfl ?_
      rw [show (k : Int) + 1 = ((k + 1 : Nat) : Int) by omega]
      exact ih (k + 1) _ (by omega) g2a (hf.tr g2b)
  refine v_iconst hX (atL dAX8_saysSlot_0 0 rfl) ?_
  refine v_istore_n hX (i := 2) rfl (lv' := [(2, .int (iI (0))), (0, .ref (w.1 13 0)), (1, .int (iI ((s : Int))))]) (Nat.le_of_ble_eq_true rfl) rfl (atL dAX8_saysSlot_0 1 rfl) ?_
  exact loop L.length 0 σ (by omega) (by rw [List.take_zero, List.append_nil]; exact hM) FD.rf

set_option maxHeartbeats 1000000 in
set_option maxRecDepth 100000 in
theorem c_X8_keepsDigest (l : Launch) (w : Wl) (σ : St) (hk0 : w.2 13 0) (L : List Nat) (n : Nat) (hn : L.length = n) (hn2 : n ≤ 32) (hL : AW (σ 13 5) 0 L) : Cn l yX8_keepsDigest cX8_keepsDigest 3 none 0 0 wN [.ref (w.1 13 0), .int (iI ((n : Int)))] w σ (fun _ σ' => AW (σ' 13 14) 0 L ∧ Fr [(13, 14)] σ σ') := by
  refine Cn.of (own := RX8) (lv := [(0, .ref (w.1 13 0)), (1, .int (iI ((n : Int))))]) (by decide +kernel) rfl (Nat.le_of_ble_eq_true rfl) rfl (fun X hX hxl hR hcl hret => ?_)
  subst hxl
  have hQ : ∀ q, (14, q) ∈ mn σ 13 0 → w.2 14 q := fun q h => hcl 13 0 hk0 (14, q) h
  have hQ5 : ∀ q, (14, q) ∈ mn σ 13 0 → w.2 15 q := fun q h => hcl 14 q (hQ q h) (15, q) (by simp [mn, tp])
  have hQ16 : ∀ q, (16, q) ∈ mn σ 13 0 → w.2 16 q := fun q h => hcl 13 0 hk0 (16, q) h
  have loop : ∀ (d k : Nat) (t : St), k + d = n → t 13 14 = cp (σ 13 14) 0 k (fun q => ((L.getD q 0 : Nat) : Int)) → Fr [(13, 14)] σ t → V X (0, 0) w 2 [(2, .int (iI ((k : Int)))), (0, .ref (w.1 13 0)), (1, .int (iI ((n : Int))))] t [] := by
    intro d
    induction d with
    | zero =>
      intro k t hk hc hf
      obtain rfl : k = n := by omega
      refine v_iload_n hX 0 rfl (atL dAX8_keepsDigest_0 2 rfl) ?_
      refine v_iload_n hX 2 rfl (atL dAX8_keepsDigest_0 3 rfl) ?_
      refine v_icmp_ge hX ⟨by omega, by omega⟩ ⟨by omega, by omega⟩ (tgt := 25) (atL dAX8_keepsDigest_0 4 rfl) (by decide) (fun h4 => ?_) (fun h4 => absurd h4 (by omega))
      exact v_vret hX (atL dAX8_keepsDigest_0 15 rfl) (hret () _ ⟨AW.of (fun q hq => by rw [hc]; unfold cp; rw [if_pos (by omega)]; rfl), hf⟩)
    | succ d ih =>
      intro k t hk hc hf
      have hx : t 13 5 k = ((L.getD k 0 : Nat) : Int) := by rw [hf 13 5 (by decide)]; exact hL.get (by omega)
      refine v_iload_n hX 0 rfl (atL dAX8_keepsDigest_0 2 rfl) ?_
      refine v_iload_n hX 2 rfl (atL dAX8_keepsDigest_0 3 rfl) ?_
      refine v_icmp_ge hX ⟨by omega, by omega⟩ ⟨by omega, by omega⟩ (tgt := 25) (atL dAX8_keepsDigest_0 4 rfl) (by decide) (fun h4 => absurd h4 (by omega)) (fun h4 => ?_)
      refine v_aload_n hX 1 rfl (atL dAX8_keepsDigest_0 5 rfl) ?_
      refine gf_X8_150 hX hk0 (atL dAX8_keepsDigest_0 6 rfl) ?_
      refine v_iload_n hX 0 rfl (atL dAX8_keepsDigest_0 7 rfl) ?_
      refine v_aload_n hX 1 rfl (atL dAX8_keepsDigest_0 8 rfl) ?_
      refine gf_X8_98 hX hk0 (atL dAX8_keepsDigest_0 9 rfl) ?_
      refine v_iload_n hX 0 rfl (atL dAX8_keepsDigest_0 10 rfl) ?_
      refine v_iald hX (r := iI (((L.getD k 0 : Nat) : Int))) k (hQ16 5 (by simp [mn, tp])) (fun _ => rfl) rfl (show k < 32 by omega) (by decide) (congrArg iI hx) (atL dAX8_keepsDigest_0 11 rfl) ?_
      refine v_iast hX (c := 13) ((0 + k)) (hQ16 14 (by simp [mn, tp])) (by decide) (fun _ _ => rfl) (by omega) (show 0 + k < 32 by omega) (by decide) (atL dAX8_keepsDigest_0 12 rfl) ?_
      refine v_iinc hX (lv' := [(2, .int (iI (((k : Int)) + 1))), (0, .ref (w.1 13 0)), (1, .int (iI ((n : Int))))]) 0 rfl (iI_add _ _) (Nat.le_of_ble_eq_true rfl) rfl (atL dAX8_keepsDigest_0 13 rfl) ?_
      refine v_goto hX (tgt := 2) (atL dAX8_keepsDigest_0 14 rfl) (by decide) ?_
      refine v_sub (lv' := [(2, .int (iI (((k : Int)) + 1))), (0, .ref (w.1 13 0)), (1, .int (iI ((n : Int))))]) [0, 1, 2] rfl ?_
      rw [show (k : Int) + 1 = ((k + 1 : Nat) : Int) by omega]
      exact ih (k + 1) _ (by omega) (cp_s hc rfl) (hf.tr' (Fr.su (by simp)))
  refine v_iconst hX (atL dAX8_keepsDigest_0 0 rfl) ?_
  refine v_istore_n hX (i := 2) rfl (lv' := [(2, .int (iI (0))), (0, .ref (w.1 13 0)), (1, .int (iI ((n : Int))))]) (Nat.le_of_ble_eq_true rfl) rfl (atL dAX8_keepsDigest_0 1 rfl) ?_
  refine v_sub (lv' := [(2, .int (iI (0))), (0, .ref (w.1 13 0)), (1, .int (iI ((n : Int))))]) [0, 1, 2] rfl ?_
  exact loop n 0 σ (by omega) cp_0.symm Fr.rf

set_option maxHeartbeats 1000000 in
set_option maxRecDepth 100000 in
theorem c_X8_masks [Gh] (l : Launch) (w : Wl) (σ : St) (hk0 : w.2 13 0) (h19 : ∀ q, w.2 19 q → q < 4096) (hD : DG σ) (h : Int) (hh : isH h) (a : Nat) (hka : w.2 16 a) (ha : a = 0 ∨ a = 13) (L : List Nat) (o n : Nat) (hn : L.length = n) (hA : AW (σ 13 a) o L) (hoa : o + n ≤ mlen a) (hn5 : n ≤ 500) (many : Nat) (hm3 : many ≤ 300) : Cm l yX8_masks cX8_masks 9 none 4 102 (kap σ * 10360) (kap σ * 103600) wN [.ref (w.1 13 0), .int (iI (h)), .ref (w.1 16 a), .int (iI ((o : Int))), .int (iI ((n : Int))), .int (iI ((many : Int)))] w σ (fun _ σ' => AW (σ' 13 10) 0 (msk h L many) ∧ DG σ' ∧ (many = 0 ∨ CK σ') ∧ FMk σ σ') := by
  refine Cm.of (own := RX8) (lv := [(0, .ref (w.1 13 0)), (1, .int (iI (h))), (2, .ref (w.1 16 a)), (3, .int (iI ((o : Int)))), (4, .int (iI ((n : Int)))), (5, .int (iI ((many : Int))))]) (by decide +kernel) rfl (Nat.le_of_ble_eq_true rfl) rfl (fun X hX hxl hR hcl hret => ?_)
  subst hxl
  have hQ : ∀ q, (14, q) ∈ mn σ 13 0 → w.2 14 q := fun q h => hcl 13 0 hk0 (14, q) h
  have hQ5 : ∀ q, (14, q) ∈ mn σ 13 0 → w.2 15 q := fun q h => hcl 14 q (hQ q h) (15, q) (by simp [mn, tp])
  have hQ16 : ∀ q, (16, q) ∈ mn σ 13 0 → w.2 16 q := fun q h => hcl 13 0 hk0 (16, q) h
  have hml := mlen_lt a
  have hhr : rI h := by rcases hh with e | e <;> rw [e] <;> exact ⟨by omega, by omega⟩
  have hlg := hl_ge h
  have hl3 := hl_32 h
  have L1 : ∀ (d b c : Nat) (z : Nat × Nat) (t : St), many ≤ c + d → c ≤ 400 → c = b * hl h → (∀ j, j < many → j < c → t 13 10 j = (((msk h L many).getD j 0 : Nat) : Int)) → DG t → ZI (kap σ) z t → (c = 0 ∨ CK t) → FMk σ t → V X z w 9 [(7, .int (iI ((b : Int)))), (6, .int (iI ((hl h : Int)))), (0, .ref (w.1 13 0)), (1, .int (iI (h))), (2, .ref (w.1 16 a)), (3, .int (iI ((o : Int)))), (4, .int (iI ((n : Int)))), (5, .int (iI ((many : Int))))] t [] := by
    intro d
    induction d with
    | zero =>
      intro b c z t hd hc4 hc hm hD hz hck hF
      refine v_iload hX 0 rfl (atL dAX8_masks_0 5 rfl) ?_
      refine v_iload hX 1 rfl (atL dAX8_masks_0 6 rfl) ?_
      refine v_imul hX (iI_mul _ _) (atL dAX8_masks_0 7 rfl) ?_
      rw [show (((b : Int)) * ((hl h : Int))) = (c : Int) from (by rw [hc, Int.natCast_mul])]
      refine v_iload hX 7 rfl (atL dAX8_masks_0 8 rfl) ?_
      refine v_icmp_ge hX ⟨by omega, by omega⟩ ⟨by omega, by omega⟩ (tgt := 134) (atL dAX8_masks_0 9 rfl) (by decide) (fun h16 => ?_) (fun h16 => absurd h16 (by omega))
      exact v_vret hX (atL dAX8_masks_1 11 rfl) ((hret () _ ⟨AW.of (fun j hj => by rw [msk_len] at hj; exact hm j hj (by omega)), hD, by rcases hck with e | e; exact Or.inl (by omega); exact Or.inr e, hF⟩ _ hz.b))
    | succ d ih =>
      intro b c z t hd hc4 hc hm hD hz hck hF
      have hb28 := Nat.mul_le_mul_left b hlg
      rw [← hc] at hb28
      have hsm : (b + 1) * hl h = c + hl h := by rw [Nat.succ_mul, hc]
      refine v_iload hX 0 rfl (atL dAX8_masks_0 5 rfl) ?_
      refine v_iload hX 1 rfl (atL dAX8_masks_0 6 rfl) ?_
      refine v_imul hX (iI_mul _ _) (atL dAX8_masks_0 7 rfl) ?_
      rw [show (((b : Int)) * ((hl h : Int))) = (c : Int) from (by rw [hc, Int.natCast_mul])]
      refine v_iload hX 7 rfl (atL dAX8_masks_0 8 rfl) ?_
      refine v_icmp_ge hX ⟨by omega, by omega⟩ ⟨by omega, by omega⟩ (tgt := 134) (atL dAX8_masks_0 9 rfl) (by decide) (fun h16 => ?_) (fun h16 => ?_)
      · exact v_vret hX (atL dAX8_masks_1 11 rfl) ((hret () _ ⟨AW.of (fun j hj => by rw [msk_len] at hj; exact hm j hj (by omega)), hD, by rcases hck with e | e; exact Or.inl (by omega); exact Or.inr e, hF⟩ _ hz.b))
      · refine v_iconst hX (atL dAX8_masks_0 10 rfl) ?_
        refine v_istore hX (lv' := [(8, .int (iI (0))), (7, .int (iI ((b : Int)))), (6, .int (iI ((hl h : Int)))), (0, .ref (w.1 13 0)), (1, .int (iI (h))), (2, .ref (w.1 16 a)), (3, .int (iI ((o : Int)))), (4, .int (iI ((n : Int)))), (5, .int (iI ((many : Int))))]) (Nat.le_of_ble_eq_true rfl) rfl (atL dAX8_masks_0 11 rfl) ?_
        have hco := hD.2
        have LA : ∀ (d2 k : Nat) (t2 : St), k + d2 = n → RD t2 (L.take k) → FD t t2 → V X z w 22 [(8, .int (iI ((k : Int)))), (7, .int (iI ((b : Int)))), (6, .int (iI ((hl h : Int)))), (0, .ref (w.1 13 0)), (1, .int (iI (h))), (2, .ref (w.1 16 a)), (3, .int (iI ((o : Int)))), (4, .int (iI ((n : Int)))), (5, .int (iI ((many : Int))))] t2 [] := by
          intro d2
          induction d2 with
          | zero =>
            intro k t2 hk hr hf
            have hkn : k = n := by omega
            subst k
            have hz2 := hz.k (t := t2) (hf.2 4 (by decide))
            rw [List.take_of_length_le (by omega)] at hr
            refine v_iload hX 0 rfl (atL dAX8_masks_0 12 rfl) ?_
            refine v_iload hX 7 rfl (atL dAX8_masks_0 13 rfl) ?_
            refine v_icmp_ge hX ⟨by omega, by omega⟩ ⟨by omega, by omega⟩ (tgt := 45) (atL dAX8_masks_0 14 rfl) (by decide) (fun h26 => ?_) (fun h26 => absurd h26 (by omega))
            refine v_aload_n hX 3 rfl (atL dAX8_masks_0 24 rfl) ?_
            refine v_iconst hX (atL dAX8_masks_0 25 rfl) ?_
            refine v_callV hX (As := [.int (iI (0))]) (rest := []) (c_X8_says (xl X) w t2 hk0 L hr (by omega) 0) lk_X8_326 hk0 (fun _ => rfl) rfl rfl rfl (by rw [hR]; exact ⟨Nat.le_of_ble_eq_true rfl, Nat.le_of_ble_eq_true rfl⟩) (by rw [hR]; exact hz2.b) rfl (Nat.le_of_ble_eq_true rfl) (atL dAX8_masks_0 26 rfl) (fun _ u1 eu1 => ?_)
            obtain ⟨hru1, hgu1⟩ := eu1
            show V X _ w _ _ u1 []
            refine v_aload_n hX 3 rfl (atL dAX8_masks_0 27 rfl) ?_
            refine v_iconst hX (atL dAX8_masks_0 28 rfl) ?_
            have hz2a := hz2.k (t := u1) (hgu1.2 4 (by decide))
            refine v_callV hX (As := [.int (iI (0))]) (rest := []) (c_X8_says (xl X) w u1 hk0 (L ++ [0]) hru1 (by simp only [List.length_append, List.length_cons, List.length_nil]; omega) 0) lk_X8_326 hk0 (fun _ => rfl) rfl rfl rfl (by rw [hR]; exact ⟨Nat.le_of_ble_eq_true rfl, Nat.le_of_ble_eq_true rfl⟩) (by rw [hR]; exact hz2.b) rfl (Nat.le_of_ble_eq_true rfl) (atL dAX8_masks_0 29 rfl) (fun _ u2 eu2 => ?_)
            obtain ⟨hru2, hgu2⟩ := eu2
            show V X _ w _ _ u2 []
            refine v_aload_n hX 3 rfl (atL dAX8_masks_0 30 rfl) ?_
            refine v_iload hX 1 rfl (atL dAX8_masks_0 31 rfl) ?_
            refine v_bipush hX (by decide +kernel) (atL dAX8_masks_0 32 rfl) ?_
            refine v_ishr hX (r := iI (((b : Int)) / 256)) (iI_shr ⟨by omega, by omega⟩ 8 (by decide)) (atL dAX8_masks_0 33 rfl) ?_
            rw [show (((b : Int)) / 256) = ((b / 256 : Nat) : Int) from (by omega)]
            have hz2b := hz2a.k (t := u2) (hgu2.2 4 (by decide))
            refine v_callV hX (As := [.int (iI (((b / 256 : Nat) : Int)))]) (rest := []) (c_X8_says (xl X) w u2 hk0 (L ++ [0] ++ [0]) hru2 (by simp only [List.length_append, List.length_cons, List.length_nil]; omega) (b / 256)) lk_X8_326 hk0 (fun _ => rfl) rfl rfl rfl (by rw [hR]; exact ⟨Nat.le_of_ble_eq_true rfl, Nat.le_of_ble_eq_true rfl⟩) (by rw [hR]; exact hz2.b) rfl (Nat.le_of_ble_eq_true rfl) (atL dAX8_masks_0 34 rfl) (fun _ u3 eu3 => ?_)
            obtain ⟨hru3, hgu3⟩ := eu3
            show V X _ w _ _ u3 []
            refine v_aload_n hX 3 rfl (atL dAX8_masks_0 35 rfl) ?_
            refine v_iload hX 1 rfl (atL dAX8_masks_0 36 rfl) ?_
            refine v_sipush hX (by decide +kernel) (atL dAX8_masks_0 37 rfl) ?_
            refine v_iand hX (r := iI (((b : Int)) % 256)) (iI_mask _ 8 (by decide)) (atL dAX8_masks_0 38 rfl) ?_
            rw [show (((b : Int)) % 256) = ((b % 256 : Nat) : Int) from (by omega)]
            refine v_callV hX (As := [.int (iI (((b % 256 : Nat) : Int)))]) (rest := []) (c_X8_says (xl X) w u3 hk0 (L ++ [0] ++ [0] ++ [b / 256]) hru3 (by simp only [List.length_append, List.length_cons, List.length_nil]; omega) (b % 256)) lk_X8_326 hk0 (fun _ => rfl) rfl rfl rfl (by rw [hR]; exact ⟨Nat.le_of_ble_eq_true rfl, Nat.le_of_ble_eq_true rfl⟩) (by rw [hR]; exact hz2.b) rfl (Nat.le_of_ble_eq_true rfl) (atL dAX8_masks_0 39 rfl) (fun _ u4 eu4 => ?_)
            obtain ⟨hru4, hgu4⟩ := eu4
            have hF4 : FD t u4 := (((hf.tr hgu1).tr hgu2).tr hgu3).tr hgu4
            have hz4 := hz.k (t := u4) (hF4.2 4 (by decide))
            have hco4 := hco.fd hF4
            have hm4 : RD u4 (L ++ wb b) := by rw [wb_2 (by omega)]; simpa using hru4
            show V X _ w _ _ u4 []
            refine v_aload_n hX 3 rfl (atL dAX8_masks_0 40 rfl) ?_
            refine v_iload_n hX 4 rfl (atL dAX8_masks_0 41 rfl) ?_
            refine v_callVM hX (As := [.int (iI (h))]) (rest := []) (c_X8_digests (xl X) w u4 hk0 h19 hco4 h hh (L ++ wb b) hm4 (by rw [List.length_append, wb_2 (by omega)]; simp only [List.length_cons, List.length_nil]; omega)) lk_X8_348 hk0 (fun _ => rfl) rfl rfl rfl (by rw [hR]; exact ⟨Nat.le_of_ble_eq_true rfl, Nat.le_of_ble_eq_true rfl⟩) (by rw [hR]; exact hz4) rfl (Nat.le_of_ble_eq_true rfl) (atL dAX8_masks_0 42 rfl) (fun _ t5 e5 => ?_)
            obtain ⟨h5, h53, hck5, hg5⟩ := e5
            have hz5 := hz4.d hck5
            generalize (z.1 + kap u4 * 10360, z.2 + kap u4 * 103600) = z5 at hz5 ⊢
            have hF5 := (hF.fd hF4).dg hg5
            have hm5 : ∀ j, j < many → j < c → t5 13 10 j = (((msk h L many).getD j 0 : Nat) : Int) := fun j h1 h2 => by rw [hg5.1 13 10 (by decide), hF4.1 13 10 (by decide)]; exact hm j h1 h2
            show V X _ w _ _ t5 []
            refine v_iconst hX (atL dAX8_masks_0 43 rfl) ?_
            refine v_istore hX (lv' := [(8, .int (iI (0))), (7, .int (iI ((b : Int)))), (6, .int (iI ((hl h : Int)))), (0, .ref (w.1 13 0)), (1, .int (iI (h))), (2, .ref (w.1 16 a)), (3, .int (iI ((o : Int)))), (4, .int (iI ((n : Int)))), (5, .int (iI ((many : Int))))]) (Nat.le_of_ble_eq_true rfl) rfl (atL dAX8_masks_0 44 rfl) ?_
            have LB : ∀ (d3 k : Nat) (t6 : St), k + d3 = hl h → (∀ j, j < many → j < c + k → t6 13 10 j = (((msk h L many).getD j 0 : Nat) : Int)) → Fr [(13, 10)] t5 t6 → V X z5 w 82 [(8, .int (iI ((k : Int)))), (7, .int (iI ((b : Int)))), (6, .int (iI ((hl h : Int)))), (0, .ref (w.1 13 0)), (1, .int (iI (h))), (2, .ref (w.1 16 a)), (3, .int (iI ((o : Int)))), (4, .int (iI ((n : Int)))), (5, .int (iI ((many : Int))))] t6 [] := by
              intro d3
              induction d3 with
              | zero =>
                intro k t6 hk hm6 hf6
                obtain rfl : k = hl h := by omega
                refine v_iload hX 0 rfl (atL dAX8_masks_0 45 rfl) ?_
                refine v_iload hX 2 rfl (atL dAX8_masks_0 46 rfl) ?_
                refine v_icmp_ge hX ⟨by omega, by omega⟩ ⟨by omega, by omega⟩ (tgt := 128) (atL dAX8_masks_0 47 rfl) (by decide) (fun h86 => ?_) (fun h86 => absurd h86 (by omega))
                refine v_iinc hX (lv' := [(7, .int (iI (((b : Int)) + 1))), (8, .int (iI ((hl h : Int)))), (6, .int (iI ((hl h : Int)))), (0, .ref (w.1 13 0)), (1, .int (iI (h))), (2, .ref (w.1 16 a)), (3, .int (iI ((o : Int)))), (4, .int (iI ((n : Int)))), (5, .int (iI ((many : Int))))]) 1 rfl (iI_add _ _) (Nat.le_of_ble_eq_true rfl) rfl (atL dAX8_masks_1 9 rfl) ?_
                refine v_goto hX (tgt := 9) (atL dAX8_masks_1 10 rfl) (by decide) ?_
                refine v_sub (lv' := [(7, .int (iI (((b : Int)) + 1))), (6, .int (iI ((hl h : Int)))), (0, .ref (w.1 13 0)), (1, .int (iI (h))), (2, .ref (w.1 16 a)), (3, .int (iI ((o : Int)))), (4, .int (iI ((n : Int)))), (5, .int (iI ((many : Int))))]) [0, 2, 3, 4, 5, 6, 7, 8] rfl ?_
                rw [show (b : Int) + 1 = ((b + 1 : Nat) : Int) by omega]
                exact ih (b + 1) (c + hl h) z5 t6 (by omega) (by omega) hsm.symm (fun j h1 h2 => hm6 j h1 (by omega)) (DG.fr (hck5.dg h53) hf6 (by decide) (by decide) (by decide)) (hz5.k (by rw [hf6 10 0 (by decide)])) (Or.inr (hck5.fr hf6 (by decide) (by decide) (by decide))) (hF5.fr hf6 (by decide) (by decide))
              | succ d3 ihb =>
                intro k t6 hk hm6 hf6
                have hx : t6 13 5 k = (((sha h (L ++ wb b)).getD k 0 : Nat) : Int) := by rw [hf6 13 5 (by decide)]; exact h5.get (by rw [sha_len]; omega)
                refine v_iload hX 0 rfl (atL dAX8_masks_0 45 rfl) ?_
                refine v_iload hX 2 rfl (atL dAX8_masks_0 46 rfl) ?_
                refine v_icmp_ge hX ⟨by omega, by omega⟩ ⟨by omega, by omega⟩ (tgt := 128) (atL dAX8_masks_0 47 rfl) (by decide) (fun h86 => absurd h86 (by omega)) (fun h86 => ?_)
                refine v_iload hX 1 rfl (atL dAX8_masks_0 48 rfl) ?_
                refine v_iload hX 2 rfl (atL dAX8_masks_0 49 rfl) ?_
                refine v_imul hX (iI_mul _ _) (atL dAX8_masks_0 50 rfl) ?_
                rw [show (((b : Int)) * ((hl h : Int))) = (c : Int) from (by rw [hc, Int.natCast_mul])]
                refine v_iload hX 0 rfl (atL dAX8_masks_0 51 rfl) ?_
                refine v_iadd hX (iI_add _ _) (atL dAX8_masks_0 52 rfl) ?_
                refine v_iload hX 8 rfl (atL dAX8_masks_0 53 rfl) ?_
                refine v_icmp_ge hX ⟨by omega, by omega⟩ ⟨by omega, by omega⟩ (tgt := 128) (atL dAX8_masks_0 54 rfl) (by decide) (fun h99 => ?_) (fun h99 => ?_)
                · refine v_iinc hX (lv' := [(7, .int (iI (((b : Int)) + 1))), (8, .int (iI ((k : Int)))), (6, .int (iI ((hl h : Int)))), (0, .ref (w.1 13 0)), (1, .int (iI (h))), (2, .ref (w.1 16 a)), (3, .int (iI ((o : Int)))), (4, .int (iI ((n : Int)))), (5, .int (iI ((many : Int))))]) 1 rfl (iI_add _ _) (Nat.le_of_ble_eq_true rfl) rfl (atL dAX8_masks_1 9 rfl) ?_
                  refine v_goto hX (tgt := 9) (atL dAX8_masks_1 10 rfl) (by decide) ?_
                  refine v_sub (lv' := [(7, .int (iI (((b : Int)) + 1))), (6, .int (iI ((hl h : Int)))), (0, .ref (w.1 13 0)), (1, .int (iI (h))), (2, .ref (w.1 16 a)), (3, .int (iI ((o : Int)))), (4, .int (iI ((n : Int)))), (5, .int (iI ((many : Int))))]) [0, 2, 3, 4, 5, 6, 7, 8] rfl ?_
                  rw [show (b : Int) + 1 = ((b + 1 : Nat) : Int) by omega]
                  exact ih (b + 1) (c + hl h) z5 t6 (by omega) (by omega) hsm.symm (fun j h1 h2 => hm6 j h1 (by omega)) (DG.fr (hck5.dg h53) hf6 (by decide) (by decide) (by decide)) (hz5.k (by rw [hf6 10 0 (by decide)])) (Or.inr (hck5.fr hf6 (by decide) (by decide) (by decide))) (hF5.fr hf6 (by decide) (by decide))
                · refine v_aload_n hX 3 rfl (atL dAX8_masks_0 55 rfl) ?_
                  refine gf_X8_113 hX hk0 (atL dAX8_masks_0 56 rfl) ?_
                  refine v_iload hX 1 rfl (atL dAX8_masks_0 57 rfl) ?_
                  refine v_iload hX 2 rfl (atL dAX8_masks_0 58 rfl) ?_
                  refine v_imul hX (iI_mul _ _) (atL dAX8_masks_0 59 rfl) ?_
                  rw [show (((b : Int)) * ((hl h : Int))) = (c : Int) from (by rw [hc, Int.natCast_mul])]
                  refine v_iload hX 0 rfl (atL dAX8_masks_1 0 rfl) ?_
                  refine v_iadd hX (iI_add _ _) (atL dAX8_masks_1 1 rfl) ?_
                  refine v_aload_n hX 3 rfl (atL dAX8_masks_1 2 rfl) ?_
                  refine gf_X8_98 hX hk0 (atL dAX8_masks_1 3 rfl) ?_
                  refine v_iload hX 0 rfl (atL dAX8_masks_1 4 rfl) ?_
                  refine v_iald hX (r := iI ((((sha h (L ++ wb b)).getD k 0 : Nat) : Int))) k (hQ16 5 (by simp [mn, tp])) (fun _ => rfl) rfl (show k < 32 by omega) (by decide) (congrArg iI hx) (atL dAX8_masks_1 5 rfl) ?_
                  refine v_iast hX (c := 13) ((c + k)) (hQ16 10 (by simp [mn, tp])) (by decide) (fun _ _ => rfl) (by omega) (show c + k < 512 by omega) (by decide) (atL dAX8_masks_1 6 rfl) ?_
                  refine v_iinc hX (lv' := [(8, .int (iI (((k : Int)) + 1))), (7, .int (iI ((b : Int)))), (6, .int (iI ((hl h : Int)))), (0, .ref (w.1 13 0)), (1, .int (iI (h))), (2, .ref (w.1 16 a)), (3, .int (iI ((o : Int)))), (4, .int (iI ((n : Int)))), (5, .int (iI ((many : Int))))]) 0 rfl (iI_add _ _) (Nat.le_of_ble_eq_true rfl) rfl (atL dAX8_masks_1 7 rfl) ?_
                  refine v_goto hX (tgt := 82) (atL dAX8_masks_1 8 rfl) (by decide) ?_
                  refine v_sub (lv' := [(8, .int (iI (((k : Int)) + 1))), (7, .int (iI ((b : Int)))), (6, .int (iI ((hl h : Int)))), (0, .ref (w.1 13 0)), (1, .int (iI (h))), (2, .ref (w.1 16 a)), (3, .int (iI ((o : Int)))), (4, .int (iI ((n : Int)))), (5, .int (iI ((many : Int))))]) [0, 1, 2, 3, 4, 5, 6, 7, 8] rfl ?_
                  rw [show (k : Int) + 1 = ((k + 1 : Nat) : Int) by omega]
                  refine ihb (k + 1) _ (by omega) (fun j h1 h2 => ?_) (hf6.tr' (Fr.su (by simp)))
                  by_cases e : j = c + k
                  · rw [e, su_s, hc, msk_at (by omega) (by rw [← hc]; omega)]
                  · rw [su_j e]; exact hm6 j h1 (by omega)
            refine v_sub (lv' := [(8, .int (iI (0))), (7, .int (iI ((b : Int)))), (6, .int (iI ((hl h : Int)))), (0, .ref (w.1 13 0)), (1, .int (iI (h))), (2, .ref (w.1 16 a)), (3, .int (iI ((o : Int)))), (4, .int (iI ((n : Int)))), (5, .int (iI ((many : Int))))]) [0, 1, 2, 3, 4, 5, 6, 7, 8] rfl ?_
            exact LB (hl h) 0 t5 (by omega) (fun j h1 h2 => hm5 j h1 (by omega)) Fr.rf
          | succ d2 ih2 =>
            intro k t2 hk hr hf
            have hz2 := hz.k (t := t2) (hf.2 4 (by decide))
            have hx : t2 13 a (o + k) = ((L.getD k 0 : Nat) : Int) := by rw [hf.1 13 a (by rcases ha with e | e <;> rw [e] <;> decide), hF.1 13 a (by rcases ha with e | e <;> rw [e] <;> decide)]; exact hA k (by omega)
            refine v_iload hX 0 rfl (atL dAX8_masks_0 12 rfl) ?_
            refine v_iload hX 7 rfl (atL dAX8_masks_0 13 rfl) ?_
            refine v_icmp_ge hX ⟨by omega, by omega⟩ ⟨by omega, by omega⟩ (tgt := 45) (atL dAX8_masks_0 14 rfl) (by decide) (fun h26 => absurd h26 (by omega)) (fun h26 => ?_)
            refine v_aload_n hX 3 rfl (atL dAX8_masks_0 15 rfl) ?_
            refine v_aload_n hX 5 rfl (atL dAX8_masks_0 16 rfl) ?_
            refine v_iload_n hX 6 rfl (atL dAX8_masks_0 17 rfl) ?_
            refine v_iload hX 0 rfl (atL dAX8_masks_0 18 rfl) ?_
            refine v_iadd hX (iI_add _ _) (atL dAX8_masks_0 19 rfl) ?_
            refine v_iald hX (r := iI (((L.getD k 0 : Nat) : Int))) ((o + k)) hka (fun _ => rfl) (by omega) (show o + k < mlen a by omega) (mlen_lt a) (congrArg iI hx) (atL dAX8_masks_0 20 rfl) ?_
            refine v_callV hX (As := [.int (iI (((L.getD k 0 : Nat) : Int)))]) (rest := []) (c_X8_says (xl X) w t2 hk0 (L.take k) hr (by rw [List.length_take]; omega) (L.getD k 0)) lk_X8_326 hk0 (fun _ => rfl) rfl rfl rfl (by rw [hR]; exact ⟨Nat.le_of_ble_eq_true rfl, Nat.le_of_ble_eq_true rfl⟩) (by rw [hR]; exact hz2.b) rfl (Nat.le_of_ble_eq_true rfl) (atL dAX8_masks_0 21 rfl) (fun _ u1 eu1 => ?_)
            obtain ⟨hru1, hgu1⟩ := eu1
            rw [take_get2 (by omega)] at hru1
            show V X _ w _ _ u1 []
            refine v_iinc hX (lv' := [(8, .int (iI (((k : Int)) + 1))), (7, .int (iI ((b : Int)))), (6, .int (iI ((hl h : Int)))), (0, .ref (w.1 13 0)), (1, .int (iI (h))), (2, .ref (w.1 16 a)), (3, .int (iI ((o : Int)))), (4, .int (iI ((n : Int)))), (5, .int (iI ((many : Int))))]) 0 rfl (iI_add _ _) (Nat.le_of_ble_eq_true rfl) rfl (atL dAX8_masks_0 22 rfl) ?_
            refine v_goto hX (tgt := 22) (atL dAX8_masks_0 23 rfl) (by decide) ?_
            refine v_sub (lv' := [(8, .int (iI (((k : Int)) + 1))), (7, .int (iI ((b : Int)))), (6, .int (iI ((hl h : Int)))), (0, .ref (w.1 13 0)), (1, .int (iI (h))), (2, .ref (w.1 16 a)), (3, .int (iI ((o : Int)))), (4, .int (iI ((n : Int)))), (5, .int (iI ((many : Int))))]) [0, 1, 2, 3, 4, 5, 6, 7, 8] rfl ?_
            rw [show (k : Int) + 1 = ((k + 1 : Nat) : Int) by omega]
            exact ih2 (k + 1) _ (by omega) hru1 (hf.tr hgu1)
        refine v_sub (lv' := [(8, .int (iI (0))), (7, .int (iI ((b : Int)))), (6, .int (iI ((hl h : Int)))), (0, .ref (w.1 13 0)), (1, .int (iI (h))), (2, .ref (w.1 16 a)), (3, .int (iI ((o : Int)))), (4, .int (iI ((n : Int)))), (5, .int (iI ((many : Int))))]) [0, 1, 2, 3, 4, 5, 6, 7, 8] rfl ?_
        exact LA n 0 t (by omega) (by rw [List.take_zero]; exact hD.rd) FD.rf
  refine v_iload_n hX 1 rfl (atL dAX8_masks_0 0 rfl) ?_
  refine v_callS hX (As := [.int (iI (h))]) (rest := []) (c_X8_long0 (xl X) w σ h hhr) lk_X8_351 rfl (by rw [hR]; exact ⟨Nat.le_of_ble_eq_true rfl, Nat.le_of_ble_eq_true rfl⟩) (by rw [hR]; exact (ZI.z : ZI (kap σ) (0, 0) σ).b) rfl (Nat.le_of_ble_eq_true rfl) (atL dAX8_masks_0 1 rfl) (fun r1 z1 g1 => ?_)
  obtain ⟨ga1, gb1⟩ := g1
  rw [gb1]
  subst ga1
  show V X _ w _ _ σ [.int (iI ((hl h : Int)))]
  refine v_istore hX (lv' := [(6, .int (iI ((hl h : Int)))), (0, .ref (w.1 13 0)), (1, .int (iI (h))), (2, .ref (w.1 16 a)), (3, .int (iI ((o : Int)))), (4, .int (iI ((n : Int)))), (5, .int (iI ((many : Int))))]) (Nat.le_of_ble_eq_true rfl) rfl (atL dAX8_masks_0 2 rfl) ?_
  refine v_iconst hX (atL dAX8_masks_0 3 rfl) ?_
  refine v_istore hX (lv' := [(7, .int (iI (0))), (6, .int (iI ((hl h : Int)))), (0, .ref (w.1 13 0)), (1, .int (iI (h))), (2, .ref (w.1 16 a)), (3, .int (iI ((o : Int)))), (4, .int (iI ((n : Int)))), (5, .int (iI ((many : Int))))]) (Nat.le_of_ble_eq_true rfl) rfl (atL dAX8_masks_0 4 rfl) ?_
  refine v_sub (lv' := [(7, .int (iI (0))), (6, .int (iI ((hl h : Int)))), (0, .ref (w.1 13 0)), (1, .int (iI (h))), (2, .ref (w.1 16 a)), (3, .int (iI ((o : Int)))), (4, .int (iI ((n : Int)))), (5, .int (iI ((many : Int))))]) [0, 1, 2, 3, 4, 5, 6, 7] rfl ?_
  exact L1 many 0 0 (0, 0) σ (by omega) (by omega) (by omega) (fun j _ h2 => absurd h2 (by omega)) hD ZI.z (Or.inl rfl) FMk.rf
