theorem are_use [Gh] {σ s s' : St} {r : Int} {P : Prop} (g : (r = 1 ∧ P ∧ s' = su s 10 0 0 0) ∨ (r = 0 ∧ ¬ P ∧ s' = su s 10 0 0 1)) (hG : FG σ s) (hA : AN s) (hD : DG s) : ((r = 1 ∧ P) ∨ (r = 0 ∧ ¬ P)) ∧ s' 10 0 0 = 1 - r ∧ FG σ s' ∧ AN s' ∧ DG s' := by
  rcases g with ⟨rfl, h, rfl⟩ | ⟨rfl, h, rfl⟩
  · exact ⟨Or.inl ⟨rfl, h⟩, su_s, hG.s10 (by decide) (by decide), hA.s1 (by decide), hD.s10 (by decide) (by decide)⟩
  · exact ⟨Or.inr ⟨rfl, h⟩, su_s, hG.s10 (by decide) (by decide), hA.s1 (by decide), hD.s10 (by decide) (by decide)⟩
theorem iss_use [Gh] {σ s s' : St} {r : Int} {P : Prop} (g : (r = 1 ∧ P ∧ s' = s) ∨ (r = 0 ∧ ¬ P ∧ s' = su s 10 0 0 1)) (h0 : s 10 0 0 = 0) (hG : FG σ s) (hA : AN s) (hD : DG s) : ((r = 1 ∧ P) ∨ (r = 0 ∧ ¬ P)) ∧ s' 10 0 0 = 1 - r ∧ FG σ s' ∧ AN s' ∧ DG s' := by
  rcases g with ⟨rfl, h, rfl⟩ | ⟨rfl, h, rfl⟩
  · exact ⟨Or.inl ⟨rfl, h⟩, h0, hG, hA, hD⟩
  · exact ⟨Or.inr ⟨rfl, h⟩, su_s, hG.s10 (by decide) (by decide), hA.s1 (by decide), hD.s10 (by decide) (by decide)⟩
theorem ish_use [Gh] {σ s s' : St} {r : Int} {P : Prop} (g : (r = 1 ∧ P ∧ s' = s) ∨ (r = 0 ∧ ¬ P ∧ s' = su s 10 0 0 2)) (h0 : s 10 0 0 = 0) (hG : FG σ s) (hA : AN s) (hD : DG s) : ((r = 1 ∧ P) ∨ (r = 0 ∧ ¬ P)) ∧ s' 10 0 0 = 2 - 2 * r ∧ FG σ s' ∧ AN s' ∧ DG s' := by
  rcases g with ⟨rfl, h, rfl⟩ | ⟨rfl, h, rfl⟩
  · exact ⟨Or.inl ⟨rfl, h⟩, h0, hG, hA, hD⟩
  · exact ⟨Or.inr ⟨rfl, h⟩, su_s, hG.s10 (by decide) (by decide), hA.s1 (by decide), hD.s10 (by decide) (by decide)⟩
theorem bad_use [Gh] {σ s s' : St} {a b : Int} (g : a = b ∧ ((b = 0 ∧ s' = s) ∨ (b = 1 ∧ s' = su s 10 0 0 2))) (h0 : s 10 0 0 = 0) (hG : FG σ s) (hA : AN s) (hD : DG s) : a = b ∧ s' 10 0 0 = 2 * b ∧ FG σ s' ∧ AN s' ∧ DG s' := by
  obtain ⟨rfl, ⟨rfl, rfl⟩ | ⟨rfl, rfl⟩⟩ := g
  · exact ⟨rfl, h0, hG, hA, hD⟩
  · exact ⟨rfl, su_s, hG.s10 (by decide) (by decide), hA.s1 (by decide), hD.s10 (by decide) (by decide)⟩
theorem anew_use {s s' : St} (e : s' = su s 10 0 2 0) : RO s' [] ∧ FP s s' := by
  subst e
  exact ⟨⟨su_s, fun j hj => absurd hj (by simp)⟩, ⟨Fr.su (by simp), fun j hj => su_j hj⟩⟩
theorem nn_u {σ : St} {i v : Nat} (h : NN σ i v) : ∃ u : Nat, σ 11 i 0 = (u : Int) ∧ (u = 0 ↔ v = 0) ∧ u ≤ 270 := by
  obtain ⟨u, hu, hu8, hd, ht, hv⟩ := h
  exact ⟨u, hu, NN_0 ht hd hv, hu8⟩
theorem RO.fr {s t : St} {M : List Nat} {l : List (Nat × Nat)} (h : RO s M) (f : Fr l s t) (h0 : (10, 0) ∉ l) (h3 : (13, 3) ∉ l) : RO t M := by
  unfold RO
  rw [f 10 0 h0, f 13 3 h3]
  exact h
theorem nby_lb {v : Nat} (h : nby v ≤ 128) : lb v 64 := by
  refine Nat.lt_of_lt_of_le (fitN_lt h) ?_
  rw [n_p28]
  exact Nat.pow_le_pow_right (by omega) (by omega)
theorem nby_pos {v : Nat} (h : v ≠ 0) : 1 ≤ nby v := by have := blen_pos h; unfold nby; omega
theorem rv_beP (v n : Nat) : ∀ q, q ≤ n → rv (beP v n q) = v / 256 ^ (n - q) % 256 ^ q := by
  intro q
  induction q with
  | zero => intro _; show 0 = _ % 1; omega
  | succ q ih =>
    intro hq
    rw [← beP_push]
    have e : ∀ (L : List Nat) (x : Nat), rv (L ++ [x]) = rv L * 256 + x := by
      intro L x
      unfold rv
      rw [List.foldl_append]
      rfl
    rw [e, ih (by omega), show n - 1 - q = n - (q + 1) by omega, show n - q = n - (q + 1) + 1 by omega, Nat.pow_succ, ← Nat.div_div_eq_div_mul, Nat.pow_succ 256 q]
    generalize v / 256 ^ (n - (q + 1)) = X
    generalize 256 ^ q = Q
    rw [Nat.mul_comm Q 256, Nat.mod_mul]
    omega
theorem rv_be {v n : Nat} (h : nby v ≤ n) : rv (be v n) = v := by
  unfold be
  rw [rv_beP v n n (Nat.le_refl n), Nat.sub_self, Nat.pow_zero, Nat.div_one]
  refine Nat.mod_eq_of_lt (Nat.lt_of_lt_of_le (blen_lt v) ?_)
  rw [show (256 : Nat) = 2 ^ 8 from rfl, ← Nat.pow_mul]
  exact Nat.pow_le_pow_right (by omega) (by unfold nby at h; omega)
theorem iI_md (v : Int) : iI v = iI (v % 4294967296) := iI_ext (by rw [iI_bv, iI_bv, Int.emod_emod])
theorem ush_by (v : Int) (k : Nat) (hk : k < 32) {P : Int} (hP : ((2 ^ k : Nat) : Int) = P) : ((iI v).toUInt32 >>> ((iI (k : Int)).toUInt32 &&& Int32.toUInt32 31)).toInt32 = iI (v % 4294967296 / P) := by
  rw [iI_md v, iI_ushr (by omega) (by omega) k hk, hP]
/-- the tape -/
def TP (σ : St) (M : List Nat) : Prop := σ 10 0 1 = (M.length : Int) ∧ AW (σ 13 2) 0 M
theorem TP.push {σ : St} {M : List Nat} {x : Nat} (h : TP σ M) : TP (su (su σ 13 2 M.length (x : Int)) 10 0 1 ((M.length : Int) + 1)) (M ++ [x]) := by
  refine ⟨by rw [su_s, List.length_append]; rfl, fun j hj => ?_⟩
  rw [su_c (by decide), Nat.zero_add]
  rw [List.length_append] at hj
  by_cases e : j = M.length
  · rw [e, su_s]
    simp [List.getD]
  · have h2 := h.2 j (by simp at hj; omega)
    rw [Nat.zero_add] at h2
    rw [su_j e, h2]
    have hl : j < M.length := by simp at hj; omega
    simp [List.getD, List.getElem?_append_left hl]
def FT (σ s : St) : Prop := Fr [(10, 0), (13, 2)] σ s ∧ ∀ j, j ≠ 1 → s 10 0 j = σ 10 0 j
theorem FT.rf {σ : St} : FT σ σ := ⟨Fr.rf, fun _ _ => rfl⟩
theorem FT.push {σ s : St} {n : Nat} {x y : Int} (h : FT σ s) : FT σ (su (su s 13 2 n x) 10 0 1 y) := ⟨(h.1.tr' (Fr.su (by simp))).tr' (Fr.su (by simp)), fun j hj => by rw [su_j hj, su_c (by decide)]; exact h.2 j hj⟩
theorem HP.tap {σ s : St} {A : Ab} {M : List Nat} (h : HP σ A) (hl : M.length ≤ 260) (hB : BY M) (hT : TP s M) (hF : FT σ s) : HP s (A.put 24 M) := by
  obtain ⟨h1, h2, h3, h4, h5⟩ := h
  refine ⟨fun i hi => ?_, ?_, by rw [hF.2 5 (by decide)]; exact h3, h4, fun k hk => ?_⟩
  · show SM1 s i (if i = 24 then M else A.1 i) ∧ BY (if i = 24 then M else A.1 i)
    rw [if_neg (by omega)]
    refine ⟨?_, (h1 i hi).2⟩
    unfold SM1
    rw [hF.1 13 1 (by decide), hF.1 13 0 (by decide)]
    exact (h1 i hi).1
  · show s 10 0 1 = (((if 24 = 24 then M else A.1 24).length : Nat) : Int) ∧ (if 24 = 24 then M else A.1 24).length ≤ 260 ∧ BY (if 24 = 24 then M else A.1 24) ∧ AW (s 13 2) 0 (if 24 = 24 then M else A.1 24)
    rw [if_pos rfl]
    exact ⟨hT.1, hl, hB, hT.2⟩
  · show KM s k (A.2.2.1 k) (A.2.2.2 k)
    have := h5 k hk
    unfold KM
    rw [hF.1 13 11 (by decide), hF.1 13 12 (by decide), hF.1 14 0 (by decide)]
    exact this
theorem HM.tap [Gh] {s0 s : St} {A : Ab} {M : List Nat} (h : HP s0 A) (hA : AN s0) (hD : DG s0) (hl : M.length ≤ 260) (hB : BY M) (hT : TP s M) (hF : FT s0 s) : HM s (A.put 24 M) := by
  refine ⟨h.tap hl hB hT hF, hA.fp hF.1 rfl, ?_⟩
  unfold DG CO
  rw [hF.1 13 7 (by decide), hF.1 13 8 (by decide), hF.2 3 (by decide), hF.2 4 (by decide)]
  exact hD

set_option maxHeartbeats 1000000 in
set_option maxRecDepth 100000 in
theorem c_X8_kept (l : Launch) (w : Wl) (σ : St) (hk0 : w.2 13 0) (k : Nat) (hk : k < 16) (P : Nat) (K : Nat → Nat) (hK : KM σ k P K) (j : Nat) (hj : j < P) (i : Nat) (hi : w.2 14 i) (hdi : NDg σ i) : Cn l yX8_kept cX8_kept 4 none 2 46 wN [.ref (w.1 13 0), .int (iI ((k : Int))), .int (iI ((j : Int))), .ref (w.1 14 i)] w σ (fun _ σ' => NN σ' i (K j) ∧ Fr [(11, i), (12, i)] σ σ') := by
  refine Cn.of (own := RX8) (lv := [(0, .ref (w.1 13 0)), (1, .int (iI ((k : Int)))), (2, .int (iI ((j : Int)))), (3, .ref (w.1 14 i))]) (by decide +kernel) rfl (Nat.le_of_ble_eq_true rfl) rfl (fun X hX hxl hR hcl hret => ?_)
  subst hxl
  have hQ : ∀ q, (14, q) ∈ mn σ 13 0 → w.2 14 q := fun q h => hcl 13 0 hk0 (14, q) h
  have hQ5 : ∀ q, (14, q) ∈ mn σ 13 0 → w.2 15 q := fun q h => hcl 14 q (hQ q h) (15, q) (by simp [mn, tp])
  have hQ16 : ∀ q, (16, q) ∈ mn σ 13 0 → w.2 16 q := fun q h => hcl 13 0 hk0 (16, q) h
  have hP := hK.1
  have hq := hK.2.2.1 j hj
  have hqn := hq.2.1
  refine v_aload_n hX 0 rfl (atL dAX8_kept_0 0 rfl) ?_
  refine gf_X8_116 hX hk0 (atL dAX8_kept_0 1 rfl) ?_
  refine v_sipush hX (by decide +kernel) (atL dAX8_kept_0 2 rfl) ?_
  refine v_bipush hX (by decide +kernel) (atL dAX8_kept_0 3 rfl) ?_
  refine v_iload_n hX 1 rfl (atL dAX8_kept_0 4 rfl) ?_
  refine v_imul hX (iI_mul _ _) (atL dAX8_kept_0 5 rfl) ?_
  refine v_iload_n hX 2 rfl (atL dAX8_kept_0 6 rfl) ?_
  refine v_iadd hX (iI_add _ _) (atL dAX8_kept_0 7 rfl) ?_
  refine v_imul hX (iI_mul _ _) (atL dAX8_kept_0 8 rfl) ?_
  rw [show (128 * ((8 * ((k : Int))) + ((j : Int)))) = ((128 * (8 * k + j) : Nat) : Int) from (by omega)]
  refine v_aload_n hX 0 rfl (atL dAX8_kept_0 9 rfl) ?_
  refine gf_X8_119 hX hk0 (atL dAX8_kept_0 10 rfl) ?_
  refine v_bipush hX (by decide +kernel) (atL dAX8_kept_0 11 rfl) ?_
  refine v_iload_n hX 1 rfl (atL dAX8_kept_0 12 rfl) ?_
  refine v_imul hX (iI_mul _ _) (atL dAX8_kept_0 13 rfl) ?_
  refine v_iload_n hX 2 rfl (atL dAX8_kept_0 14 rfl) ?_
  refine v_iadd hX (iI_add _ _) (atL dAX8_kept_0 15 rfl) ?_
  refine v_iald hX (r := iI (((nby (K j) : Nat) : Int))) ((8 * k + j)) (hQ16 12 (by simp [mn, tp])) (fun _ => rfl) (by omega) (show 8 * k + j < 128 by omega) (by decide) (congrArg iI hq.1) (atL dAX8_kept_0 16 rfl) ?_
  refine v_aload_n hX 3 rfl (atL dAX8_kept_0 17 rfl) ?_
  refine v_callS hX (As := [.ref (w.1 16 11), .int (iI (((128 * (8 * k + j) : Nat) : Int))), .int (iI (((nby (K j) : Nat) : Int))), .ref (w.1 14 i)]) (rest := []) (c_X8_reads (xl X) w σ 11 (hQ16 11 (by simp [mn, tp])) (be (K j) (nby (K j))) be_by (128 * (8 * k + j)) (nby (K j)) be_len hq.2.2 (by show _ ≤ 16384; omega) (by omega) i hi hdi) lk_X8_263 rfl (by rw [hR]; exact ⟨Nat.le_of_ble_eq_true rfl, Nat.le_of_ble_eq_true rfl⟩) ⟨Nat.zero_le _, Nat.zero_le _⟩ rfl (Nat.le_of_ble_eq_true rfl) (atL dAX8_kept_0 18 rfl) (fun _ s1 h1 => ?_)
  rw [rv_be (Nat.le_refl _)] at h1
  show V X _ w _ _ s1 []
  exact v_vret hX (atL dAX8_kept_0 19 rfl) (hret () _ h1)

set_option maxHeartbeats 1000000 in
set_option maxRecDepth 100000 in
theorem c_X8_size [Gh] (l : Launch) (w : Wl) (σ : St) (hk0 : w.2 13 0) (A : Ab) (hM : HM σ A) (p0 : Int) (hp0 : rI p0) : Cn l yX8_size cX8_size 2 (Option.some Jvm.ClassFile.FieldType.int) 2 44 wI [.ref (w.1 13 0), .int (iI (p0))] w σ (fun a σ' => ∃ A', f_size A p0 = (σ' 10 0 0, a, A') ∧ HM σ' A' ∧ FC σ σ') := by
  refine Cn.of (own := RX8) (lv := [(0, .ref (w.1 13 0)), (1, .int (iI (p0)))]) (by decide +kernel) rfl (Nat.le_of_ble_eq_true rfl) rfl (fun X hX hxl hR hcl hret => ?_)
  subst hxl
  have hQ : ∀ q, (14, q) ∈ mn σ 13 0 → w.2 14 q := fun q h => hcl 13 0 hk0 (14, q) h
  have hQ5 : ∀ q, (14, q) ∈ mn σ 13 0 → w.2 15 q := fun q h => hcl 14 q (hQ q h) (15, q) (by simp [mn, tp])
  have hQ16 : ∀ q, (16, q) ∈ mn σ 13 0 → w.2 16 q := fun q h => hcl 13 0 hk0 (16, q) h
  have hp0a := hp0.1
  have hp0b := hp0.2
  refine v_aload_n hX 0 rfl (atL dAX8_size_0 0 rfl) ?_
  refine v_iload_n hX 1 rfl (atL dAX8_size_0 1 rfl) ?_
  refine v_iload_n hX 1 rfl (atL dAX8_size_0 2 rfl) ?_
  refine v_iload_n hX 1 rfl (atL dAX8_size_0 3 rfl) ?_
  refine v_callV hX (As := [.int (iI (p0)), .int (iI (p0)), .int (iI (p0))]) (rest := []) (c_X8_are (xl X) w σ hk0 p0 hp0 p0 hp0 p0 hp0) lk_X8_240 hk0 (fun _ => rfl) rfl rfl rfl (by rw [hR]; exact ⟨Nat.le_of_ble_eq_true rfl, Nat.le_of_ble_eq_true rfl⟩) ⟨Nat.zero_le _, Nat.zero_le _⟩ rfl (Nat.le_of_ble_eq_true rfl) (atL dAX8_size_0 4 rfl) (fun r1 s1 g1 => ?_)
  obtain ⟨gs1, ht1, hG1, hA1, hD1⟩ := are_use g1 FG.rf hM.2.1 hM.2.2
  have gd1 : r1 = 0 ∨ r1 = 1 := by rcases gs1 with q | q <;> omega
  show V X _ w _ _ s1 [.int (iI (r1))]
  refine v_if_eq hX ⟨by omega, by omega⟩ (tgt := 19) (atL dAX8_size_0 5 rfl) (by decide) (fun h7 => ?_) (fun h7 => ?_)
  · refine v_iconst hX (atL dAX8_size_0 11 rfl) ?_
    exact v_iret hX (atL dAX8_size_0 12 rfl) (hret _ _ ⟨A, by rw [show s1 10 0 0 = 1 by omega]; unfold f_size; rw [if_pos (by omega)], hM.same hG1 hA1 hD1, hG1.fc⟩)
  · obtain ⟨sp0, rfl⟩ : ∃ q : Nat, p0 = (q : Int) := ⟨p0.toNat, by omega⟩
    obtain ⟨lsp0, hlsp0⟩ : ∃ q, (A.1 sp0).length = q := ⟨_, rfl⟩
    have hqsp0 : lsp0 ≤ 256 := by rw [← hlsp0]; exact hM.1.len (by omega)
    have hbvsp0 : lb (rv (A.1 sp0)) 128 := rv_lb (hM.1.by (by omega)) (hM.1.len (by omega))
    refine v_aload_n hX 0 rfl (atL dAX8_size_0 6 rfl) ?_
    refine gf_X8_71 hX hk0 (atL dAX8_size_0 7 rfl) ?_
    refine v_iload_n hX 1 rfl (atL dAX8_size_0 8 rfl) ?_
    refine v_iald hX (r := iI (((lsp0 : Nat) : Int))) sp0 (hQ16 1 (by simp [mn, tp])) (fun _ => rfl) rfl (show sp0 < 24 by omega) (by decide) (congrArg iI (((hM.1.fg hG1).1 sp0 (by omega)).1.1.trans (by rw [hlsp0]))) (atL dAX8_size_0 9 rfl) ?_
    refine v_goto hX (tgt := 20) (atL dAX8_size_0 10 rfl) (by decide) ?_
    exact v_iret hX (atL dAX8_size_0 12 rfl) (hret _ _ ⟨A, by rw [show s1 10 0 0 = 0 by omega]; unfold f_size; simp only [Int.toNat_natCast]; rw [if_neg (by omega), hlsp0], hM.same hG1 hA1 hD1, hG1.fc⟩)

set_option maxHeartbeats 1000000 in
set_option maxRecDepth 100000 in
theorem c_X8_octet [Gh] (l : Launch) (w : Wl) (σ : St) (hk0 : w.2 13 0) (A : Ab) (hM : HM σ A) (p0 : Int) (hp0 : rI p0) (p1 : Int) (hp1 : rI p1) : Cn l yX8_octet cX8_octet 3 (Option.some Jvm.ClassFile.FieldType.int) 2 44 wI [.ref (w.1 13 0), .int (iI (p0)), .int (iI (p1))] w σ (fun a σ' => ∃ A', f_octet A p0 p1 = (σ' 10 0 0, a, A') ∧ HM σ' A' ∧ FC σ σ') := by
  refine Cn.of (own := RX8) (lv := [(0, .ref (w.1 13 0)), (1, .int (iI (p0))), (2, .int (iI (p1)))]) (by decide +kernel) rfl (Nat.le_of_ble_eq_true rfl) rfl (fun X hX hxl hR hcl hret => ?_)
  subst hxl
  have hQ : ∀ q, (14, q) ∈ mn σ 13 0 → w.2 14 q := fun q h => hcl 13 0 hk0 (14, q) h
  have hQ5 : ∀ q, (14, q) ∈ mn σ 13 0 → w.2 15 q := fun q h => hcl 14 q (hQ q h) (15, q) (by simp [mn, tp])
  have hQ16 : ∀ q, (16, q) ∈ mn σ 13 0 → w.2 16 q := fun q h => hcl 13 0 hk0 (16, q) h
  have hp0a := hp0.1
  have hp0b := hp0.2
  have hp1a := hp1.1
  have hp1b := hp1.2
  refine v_aload_n hX 0 rfl (atL dAX8_octet_0 0 rfl) ?_
  refine v_iload_n hX 1 rfl (atL dAX8_octet_0 1 rfl) ?_
  refine v_iload_n hX 1 rfl (atL dAX8_octet_0 2 rfl) ?_
  refine v_iload_n hX 1 rfl (atL dAX8_octet_0 3 rfl) ?_
  refine v_callV hX (As := [.int (iI (p0)), .int (iI (p0)), .int (iI (p0))]) (rest := []) (c_X8_are (xl X) w σ hk0 p0 hp0 p0 hp0 p0 hp0) lk_X8_240 hk0 (fun _ => rfl) rfl rfl rfl (by rw [hR]; exact ⟨Nat.le_of_ble_eq_true rfl, Nat.le_of_ble_eq_true rfl⟩) ⟨Nat.zero_le _, Nat.zero_le _⟩ rfl (Nat.le_of_ble_eq_true rfl) (atL dAX8_octet_0 4 rfl) (fun r1 s1 g1 => ?_)
  obtain ⟨gs1, ht1, hG1, hA1, hD1⟩ := are_use g1 FG.rf hM.2.1 hM.2.2
  have gd1 : r1 = 0 ∨ r1 = 1 := by rcases gs1 with q | q <;> omega
  show V X _ w _ _ s1 [.int (iI (r1))]
  refine v_if_ne hX ⟨by omega, by omega⟩ (tgt := 12) (atL dAX8_octet_0 5 rfl) (by decide) (fun h7 => ?_) (fun h7 => ?_)
  · obtain ⟨sp0, rfl⟩ : ∃ q : Nat, p0 = (q : Int) := ⟨p0.toNat, by omega⟩
    obtain ⟨lsp0, hlsp0⟩ : ∃ q, (A.1 sp0).length = q := ⟨_, rfl⟩
    have hqsp0 : lsp0 ≤ 256 := by rw [← hlsp0]; exact hM.1.len (by omega)
    have hbvsp0 : lb (rv (A.1 sp0)) 128 := rv_lb (hM.1.by (by omega)) (hM.1.len (by omega))
    refine v_iload_n hX 2 rfl (atL dAX8_octet_0 8 rfl) ?_
    refine v_if_lt hX ⟨by omega, by omega⟩ (tgt := 41) (atL dAX8_octet_0 9 rfl) (by decide) (fun h13 => ?_) (fun h13 => ?_)
    · refine v_iconst hX (atL dAX8_octet_0 25 rfl) ?_
      exact v_iret hX (atL dAX8_octet_0 26 rfl) (hret _ _ ⟨A, by rw [show s1 10 0 0 = 0 by omega]; unfold f_octet; simp only [Int.toNat_natCast]; rw [if_neg (by omega), if_neg (by rw [hlsp0]; omega)], hM.same hG1 hA1 hD1, hG1.fc⟩)
    · refine v_iload_n hX 2 rfl (atL dAX8_octet_0 10 rfl) ?_
      refine v_aload_n hX 0 rfl (atL dAX8_octet_0 11 rfl) ?_
      refine gf_X8_71 hX hk0 (atL dAX8_octet_0 12 rfl) ?_
      refine v_iload_n hX 1 rfl (atL dAX8_octet_0 13 rfl) ?_
      refine v_iald hX (r := iI (((lsp0 : Nat) : Int))) sp0 (hQ16 1 (by simp [mn, tp])) (fun _ => rfl) rfl (show sp0 < 24 by omega) (by decide) (congrArg iI (((hM.1.fg hG1).1 sp0 (by omega)).1.1.trans (by rw [hlsp0]))) (atL dAX8_octet_0 14 rfl) ?_
      refine v_icmp_ge hX ⟨by omega, by omega⟩ ⟨by omega, by omega⟩ (tgt := 41) (atL dAX8_octet_0 15 rfl) (by decide) (fun h23 => ?_) (fun h23 => ?_)
      · refine v_iconst hX (atL dAX8_octet_0 25 rfl) ?_
        exact v_iret hX (atL dAX8_octet_0 26 rfl) (hret _ _ ⟨A, by rw [show s1 10 0 0 = 0 by omega]; unfold f_octet; simp only [Int.toNat_natCast]; rw [if_neg (by omega), if_neg (by rw [hlsp0]; omega)], hM.same hG1 hA1 hD1, hG1.fc⟩)
      · obtain ⟨i1, rfl⟩ : ∃ q : Nat, p1 = (q : Int) := ⟨p1.toNat, by omega⟩
        refine v_aload_n hX 0 rfl (atL dAX8_octet_0 16 rfl) ?_
        refine gf_X8_67 hX hk0 (atL dAX8_octet_0 17 rfl) ?_
        refine v_sipush hX (by decide +kernel) (atL dAX8_octet_0 18 rfl) ?_
        refine v_iload_n hX 1 rfl (atL dAX8_octet_0 19 rfl) ?_
        refine v_imul hX (iI_mul _ _) (atL dAX8_octet_0 20 rfl) ?_
        refine v_iload_n hX 2 rfl (atL dAX8_octet_0 21 rfl) ?_
        refine v_iadd hX (iI_add _ _) (atL dAX8_octet_0 22 rfl) ?_
        refine v_iald hX (r := iI ((((A.1 sp0).getD i1 0 : Nat) : Int))) ((256 * sp0 + i1)) (hQ16 0 (by simp [mn, tp])) (fun _ => rfl) (by omega) (show 256 * sp0 + i1 < 6144 by omega) (by decide) (congrArg iI (((hM.1.fg hG1).1 sp0 (by omega)).1.2.2 i1 (by rw [hlsp0]; omega))) (atL dAX8_octet_0 23 rfl) ?_
        refine v_goto hX (tgt := 42) (atL dAX8_octet_0 24 rfl) (by decide) ?_
        exact v_iret hX (atL dAX8_octet_0 26 rfl) (hret _ _ ⟨A, by rw [show s1 10 0 0 = 0 by omega]; unfold f_octet; simp only [Int.toNat_natCast]; rw [if_neg (by omega), if_pos (by rw [hlsp0]; omega)], hM.same hG1 hA1 hD1, hG1.fc⟩)
  · refine v_iconst hX (atL dAX8_octet_0 6 rfl) ?_
    exact v_iret hX (atL dAX8_octet_0 7 rfl) (hret _ _ ⟨A, by rw [show s1 10 0 0 = 1 by omega]; unfold f_octet; rw [if_pos (by omega)], hM.same hG1 hA1 hD1, hG1.fc⟩)
