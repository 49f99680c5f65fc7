section ZA
variable {X : CX} {z : Nat × Nat} {w : Wl} {pc nx : Nat} {lv lv' : List (Nat × Value)} {σ : St} {st rest : List Value} {cc : ByteArray} {nL : Nat} {own : String} {ret : Option FieldType}
theorem v_zald (hX : okX X cc nL own ret) {k i n : Nat} {f : Nat → Int32} {a : Int} {r : Int32} (j : Nat) (hl : w.2 k i) (hc : ∀ g, cont g w.1 σ k i = .inl (g 3, n, .inl f)) (ha : a = (j : Int)) (hj : j < n) (hn : n < 2147483648) (hr : f j = r) (hdg : At cc pc .baload 1 nx) (kk : V X z w nx lv σ (.int r :: st)) : V X z w pc lv σ (.int (iI a) :: .ref (w.1 k i) :: st) := by
  obtain ⟨d, rfl⟩ := hdg
  intro H locs ls hW hls
  have h := hW.2.1 k i hl
  rw [hc] at h
  refine va_zald hX.1 hX.2.1 hW.1.1 (one_P h) 0 3 rfl rfl (ix_in ha hj hn) d ?_
  rw [ix_cl ha hj hn, hr]
  exact kk H locs ls hW hls
theorem v_zast (hX : okX X cc nL own ret) {c i n : Nat} {a v : Int} (j : Nat) (hl : w.2 (oc c) i) (hoc : oc c < 30) (hc : ∀ (σ : St) g, cont g w.1 σ (oc c) i = .inl (g 3, n, .inl (fun j => iI (σ c i j)))) (hnw : narrow .boolean (.int (iI v)) = .int (iI v)) (ha : a = (j : Int)) (hj : j < n) (hn : n < 2147483648) (hdg : At cc pc .bastore 1 nx) (kk : V X z w nx lv (su σ c i j v) st) : V X z w pc lv σ (.int (iI v) :: .int (iI a) :: .ref (w.1 (oc c) i) :: st) := by
  obtain ⟨d, rfl⟩ := hdg
  intro H locs ls hW hls
  have h := hW.2.1 (oc c) i hl
  rw [hc] at h
  refine W.zast hX.1 hX.2.1 h ((hW.1.1.2 3 _ rfl).1 n (fun j => .int (iI (σ c i j)))) (fun q => by cases q) (by show ¬ (iI a < 0 ∨ (arrV _ _ _).slots.size ≤ _); rw [arrV_size]; exact ix_in ha hj hn) rfl rfl d fun H1 e zz oq => ?_
  refine kk H1 _ ls (hW.su hoc hl ?_ zz oq) hls
  rw [hc]
  show H1[_]? = some (vp_cell _ _)
  rw [e, hnw]
  rw [vp_cell_i, vp_cell_i, arrV_store, ix_cl ha hj hn]
  congr 2
  funext q
  by_cases hq : q = j
  · subst hq
    simp [updV, su_s]
  · simp [updV, hq, su_j hq]
end ZA
/-- part j of key k is v -/
def KP (σ : St) (k j v : Nat) : Prop := σ 13 12 (8 * k + j) = ((nby v : Nat) : Int) ∧ nby v ≤ 128 ∧ AW (σ 13 11) (128 * (8 * k + j)) (be v (nby v))
theorem KP.fr {s t : St} {k j v : Nat} {l : List (Nat × Nat)} (h : KP s k j v) (f : Fr l s t) (h1 : (13, 11) ∉ l) (h2 : (13, 12) ∉ l) : KP t k j v := by
  unfold KP
  rw [f 13 11 h1, f 13 12 h2]
  exact h
theorem keeps_end {σ s t : St} {A : Ab} {j v : Nat} (hP : HP σ A) (hk : A.2.1 < 16) (hj : j < 8) (hv : nby v ≤ 128) (hf : FP σ s) (h1 : ∀ q, q < nby v → t 13 11 (128 * (8 * A.2.1 + j) + q) = (((be v (nby v)).getD q 0 : Nat) : Int)) (h2 : ∀ q, (q < 128 * (8 * A.2.1 + j) ∨ 128 * (8 * A.2.1 + j) + nby v ≤ q) → t 13 11 q = s 13 11 q) (h3 : Fr [(13, 11)] (su s 13 12 (8 * A.2.1 + j) ((nby v : Nat) : Int)) t) : HP t A ∧ KP t A.2.1 j v ∧ (∀ j' v', j' ≠ j → KP σ A.2.1 j' v' → KP t A.2.1 j' v') ∧ (∀ q, q ≠ 2 → t 10 0 q = σ 10 0 q) ∧ Fr [(10, 0), (13, 3), (13, 11), (13, 12)] σ t := by
  obtain ⟨kn, hkn⟩ : ∃ q, A.2.1 = q := ⟨_, rfl⟩
  rw [hkn] at h1 h2 h3 hk ⊢
  have e12 : ∀ q, q ≠ 8 * kn + j → t 13 12 q = σ 13 12 q := fun q hq => by rw [h3 13 12 (by simp), su_j hq, hf.1 13 12 (by simp)]
  have e11 : ∀ q, (q < 128 * (8 * kn + j) ∨ 128 * (8 * kn + j) + nby v ≤ q) → t 13 11 q = σ 13 11 q := fun q hq => by rw [h2 q hq, hf.1 13 11 (by simp)]
  have e10 : ∀ q, q ≠ 2 → t 10 0 q = σ 10 0 q := fun q hq => by rw [h3 10 0 (by simp), su_c (by decide), hf.2 q hq]
  have eF : Fr [(10, 0), (13, 3), (13, 11), (13, 12)] σ t := by
    intro c i hc
    simp only [List.mem_cons, List.not_mem_nil, or_false, Prod.mk.injEq, not_or, not_and] at hc
    rw [h3 c i (by simp; exact hc.2.2.1)]
    have : su s 13 12 (8 * kn + j) ((nby v : Nat) : Int) c i = s c i := by
      by_cases e : c = 13
      · subst e
        exact su_ri (hc.2.2.2 rfl)
      · rw [su_rc e]
    rw [this]
    exact hf.1 c i (by simp; exact ⟨hc.1, hc.2.1⟩)
  refine ⟨?_, ⟨by rw [h3 13 12 (by simp), su_s], hv, fun q hq => h1 q (by rw [be_len] at hq; exact hq)⟩, ?_, e10, eF⟩
  · obtain ⟨a1, a2, a3, a4, a5⟩ := hP
    refine ⟨fun i hi => ?_, ?_, by rw [e10 5 (by decide)]; exact a3, a4, fun k hk2 => ?_⟩
    · unfold SM1
      rw [eF 13 1 (by simp), eF 13 0 (by simp)]
      exact a1 i hi
    · rw [e10 1 (by decide), eF 13 2 (by simp)]
      exact a2
    · obtain ⟨b1, b2, b3, b4⟩ := a5 k hk2
      refine ⟨b1, by rw [eF 14 0 (by simp)]; exact b2, fun j' hj' => ?_, b4⟩
      obtain ⟨c1, c2, c3⟩ := b3 j' hj'
      refine ⟨by rw [e12 _ (by omega)]; exact c1, c2, fun q hq => ?_⟩
      have hq2 := hq
      rw [be_len] at hq2
      rw [e11 _ (by omega)]
      exact c3 q hq
  · intro j' v' hne hK
    obtain ⟨c1, c2, c3⟩ := hK
    refine ⟨by rw [e12 _ (by omega)]; exact c1, c2, fun q hq => ?_⟩
    have hq2 := hq
    rw [be_len] at hq2
    rw [e11 _ (by omega)]
    exact c3 q hq
/-- one key more -/
def Ab.add (A : Ab) (P : Nat) (K : Nat → Nat) : Ab := (A.1, A.2.1 + 1, fun i => if i = A.2.1 then P else A.2.2.1 i, fun i => if i = A.2.1 then K else A.2.2.2 i)
theorem HP.add {σ s : St} {A : Ab} {P : Nat} {K : Nat → Nat} (h : HP σ A) (hk : A.2.1 < 16) (hP : P = 2 ∨ P = 8) (hK : ∀ j, j < P → KP σ A.2.1 j (K j)) (h0 : K 0 ≠ 0) (e : s = su (su σ 14 0 A.2.1 (if P = 8 then 1 else 0)) 10 0 5 ((A.2.1 : Int) + 1)) : HP s (A.add P K) := by
  subst e
  obtain ⟨a1, a2, a3, a4, a5⟩ := h
  refine ⟨fun i hi => ?_, ?_, by rw [su_s]; rfl, hk, fun k hk2 => ?_⟩
  · unfold SM1
    rw [su_rc (by decide), su_rc (by decide)]
    exact a1 i hi
  · rw [su_j (by decide), su_c (by decide), su_rc (by decide), su_rc (by decide)]
    exact a2
  · show KM _ k (if k = A.2.1 then P else A.2.2.1 k) (if k = A.2.1 then K else A.2.2.2 k)
    by_cases c : k = A.2.1
    · rw [if_pos c, if_pos c]
      refine ⟨hP, by rw [su_c (by decide), c, su_s], fun j hj => ?_, h0⟩
      rw [su_rc (by decide), su_rc (by decide), c]
      exact hK j hj
    · rw [if_neg c, if_neg c]
      obtain ⟨b1, b2, b3, b4⟩ := a5 k (by have : k < A.2.1 + 1 := hk2; omega)
      refine ⟨b1, by rw [su_c (by decide), su_j c]; exact b2, fun j hj => ?_, b4⟩
      rw [su_rc (by decide), su_rc (by decide)]
      exact b3 j hj
def keyK (p q e : Nat) (j : Nat) : Nat := match j with
  | 0 => p * q
  | 1 => e
  | 2 => inv e (Nat.lcm (p - 1) (q - 1))
  | 3 => p
  | 4 => q
  | 5 => inv e (Nat.lcm (p - 1) (q - 1)) % (p - 1)
  | 6 => inv e (Nat.lcm (p - 1) (q - 1)) % (q - 1)
  | _ => inv q p
def openK (n e : Nat) (j : Nat) : Nat := match j with
  | 0 => n
  | _ => e
def f_key (A : Ab) (p q e : Int) (r : Res) : Prop := (¬ (isS p ∧ isS q ∧ isS e) ∧ r = (1, 0, A)) ∨ ((isS p ∧ isS q ∧ isS e) ∧ ((∃ a, RP (rv (A.1 p.toNat)) (rv (A.1 q.toNat)) a ∧ a ≠ 0 ∧ r = (0, a, A)) ∨ (RP (rv (A.1 p.toNat)) (rv (A.1 q.toNat)) 0 ∧ ((∃ b, RE (rv (A.1 e.toNat)) (rv (A.1 p.toNat) * rv (A.1 q.toNat)) (rv (A.1 p.toNat)) (rv (A.1 q.toNat)) b ∧ b ≠ 0 ∧ r = (0, b, A)) ∨ (RE (rv (A.1 e.toNat)) (rv (A.1 p.toNat) * rv (A.1 q.toNat)) (rv (A.1 p.toNat)) (rv (A.1 q.toNat)) 0 ∧ ((A.2.1 = 16 ∧ r = (0, -6, A)) ∨ (A.2.1 < 16 ∧ r = (0, (A.2.1 : Int), A.add 8 (keyK (rv (A.1 p.toNat)) (rv (A.1 q.toNat)) (rv (A.1 e.toNat)))))))))))
def f_open (A : Ab) (n e : Int) (r : Res) : Prop := (¬ (isS n ∧ isS e) ∧ r = (1, 0, A)) ∨ ((isS n ∧ isS e) ∧ ((¬ fitN (rv (A.1 n.toNat)) ∧ r = (0, -1, A)) ∨ (fitN (rv (A.1 n.toNat)) ∧ ¬ (rv (A.1 n.toNat) % 2 = 1 ∧ XE (rv (A.1 e.toNat)) (rv (A.1 n.toNat))) ∧ r = (0, -4, A)) ∨ (fitN (rv (A.1 n.toNat)) ∧ (rv (A.1 n.toNat) % 2 = 1 ∧ XE (rv (A.1 e.toNat)) (rv (A.1 n.toNat))) ∧ ((A.2.1 = 16 ∧ r = (0, -6, A)) ∨ (A.2.1 < 16 ∧ r = (0, (A.2.1 : Int), A.add 2 (openK (rv (A.1 n.toNat)) (rv (A.1 e.toNat)))))))))
theorem nby_mono {a b : Nat} (h : a ≤ b) : nby a ≤ nby b := by have := blen_mono h; unfold nby; omega

set_option maxHeartbeats 1000000 in
set_option maxRecDepth 100000 in
theorem c_X8_isRefused (l : Launch) (w : Wl) (σ : St) (hk0 : w.2 13 0) (e n : Nat) (h1 : NN σ 24 e) (h2 : NN σ 23 n) : Cn l yX8_isRefused cX8_isRefused 1 (Option.some Jvm.ClassFile.FieldType.boolean) 1 22 wI [.ref (w.1 13 0)] w σ (fun a σ' => tf a (¬ XE e n) ∧ σ' = σ) := by
  refine Cn.of (own := RX8) (lv := [(0, .ref (w.1 13 0))]) (by decide +kernel) rfl (Nat.le_of_ble_eq_true rfl) rfl (fun X hX hxl hR hcl hret => ?_)
  subst hxl
  have hQ : ∀ q, (14, q) ∈ mn σ 13 0 → w.2 14 q := fun q h => hcl 13 0 hk0 (14, q) h
  have hQ5 : ∀ q, (14, q) ∈ mn σ 13 0 → w.2 15 q := fun q h => hcl 14 q (hQ q h) (15, q) (by simp [mn, tp])
  have hQ16 : ∀ q, (16, q) ∈ mn σ 13 0 → w.2 16 q := fun q h => hcl 13 0 hk0 (16, q) h
  refine v_aload_n hX 0 rfl (atL dAX8_isRefused_0 0 rfl) ?_
  refine gf_X8_129 hX hk0 (atL dAX8_isRefused_0 1 rfl) ?_
  refine v_callN hX (As := []) (rest := []) (c_X7_isOdd (xl X) w σ 24 e (hQ 24 (by simp [mn, tp])) h1) lk_X8_224 (hQ 24 (by simp [mn, tp])) (fun _ => rfl) rfl rfl rfl (by rw [hR]; exact ⟨Nat.le_of_ble_eq_true rfl, Nat.le_of_ble_eq_true rfl⟩) ⟨Nat.zero_le _, Nat.zero_le _⟩ rfl (Nat.le_of_ble_eq_true rfl) (atL dAX8_isRefused_0 2 rfl) (fun r1 z1 g1 => ?_)
  obtain ⟨gc1, gb1⟩ := g1
  rw [gb1]
  have gd1 : r1 = 0 ∨ r1 = 1 := by rcases gc1 with q | q <;> omega
  show V X _ w _ _ σ [.int (iI (r1))]
  refine v_if_eq hX ⟨by omega, by omega⟩ (tgt := 35) (atL dAX8_isRefused_0 3 rfl) (by decide) (fun h7 => ?_) (fun h7 => ?_)
  · refine v_iconst hX (atL dAX8_isRefused_0 15 rfl) ?_
    refine v_goto hX (tgt := 40) (atL dAX8_isRefused_0 16 rfl) (by decide) ?_
    exact v_zret hX (by decide +kernel) (atL dAX8_isRefused_0 18 rfl) (hret _ _ ⟨tf_p (fun q => gc1.f h7 q.1), rfl⟩)
  · refine v_aload_n hX 0 rfl (atL dAX8_isRefused_0 4 rfl) ?_
    refine gf_X8_129 hX hk0 (atL dAX8_isRefused_0 5 rfl) ?_
    refine v_iconst hX (atL dAX8_isRefused_0 6 rfl) ?_
    refine v_callN hX (As := [.int (iI (1))]) (rest := []) (c_X7_is (xl X) w σ 24 e (hQ 24 (by simp [mn, tp])) h1 1 (by omega)) lk_X8_200 (hQ 24 (by simp [mn, tp])) (fun _ => rfl) rfl rfl rfl (by rw [hR]; exact ⟨Nat.le_of_ble_eq_true rfl, Nat.le_of_ble_eq_true rfl⟩) ⟨Nat.zero_le _, Nat.zero_le _⟩ rfl (Nat.le_of_ble_eq_true rfl) (atL dAX8_isRefused_0 7 rfl) (fun r2 z2 g2 => ?_)
    obtain ⟨gc2, gb2⟩ := g2
    rw [gb2]
    have gd2 : r2 = 0 ∨ r2 = 1 := by rcases gc2 with q | q <;> omega
    show V X _ w _ _ σ [.int (iI (r2))]
    refine v_if_ne hX ⟨by omega, by omega⟩ (tgt := 35) (atL dAX8_isRefused_0 8 rfl) (by decide) (fun h18 => ?_) (fun h18 => ?_)
    · refine v_iconst hX (atL dAX8_isRefused_0 15 rfl) ?_
      refine v_goto hX (tgt := 40) (atL dAX8_isRefused_0 16 rfl) (by decide) ?_
      exact v_zret hX (by decide +kernel) (atL dAX8_isRefused_0 18 rfl) (hret _ _ ⟨tf_p (fun q => q.2.1 (gc2.t h18)), rfl⟩)
    · refine v_aload_n hX 0 rfl (atL dAX8_isRefused_0 9 rfl) ?_
      refine gf_X8_129 hX hk0 (atL dAX8_isRefused_0 10 rfl) ?_
      refine v_aload_n hX 0 rfl (atL dAX8_isRefused_0 11 rfl) ?_
      refine gf_X8_126 hX hk0 (atL dAX8_isRefused_0 12 rfl) ?_
      refine v_callN hX (As := [.ref (w.1 14 23)]) (rest := []) (c_X7_compare (xl X) w σ 24 e (hQ 24 (by simp [mn, tp])) h1 23 n (hQ 23 (by simp [mn, tp])) h2) lk_X8_160 (hQ 24 (by simp [mn, tp])) (fun _ => rfl) rfl rfl rfl (by rw [hR]; exact ⟨Nat.le_of_ble_eq_true rfl, Nat.le_of_ble_eq_true rfl⟩) ⟨Nat.zero_le _, Nat.zero_le _⟩ rfl (Nat.le_of_ble_eq_true rfl) (atL dAX8_isRefused_0 13 rfl) (fun r3 z3 g3 => ?_)
      obtain ⟨ga3, gb3⟩ := g3
      rw [gb3]
      have gc3 : (r3 = -1 ∧ e < n) ∨ (r3 = 0 ∧ e = n) ∨ (r3 = 1 ∧ n < e) := ord3 ga3
      show V X _ w _ _ σ [.int (iI (r3))]
      refine v_if_lt hX ⟨by omega, by omega⟩ (tgt := 39) (atL dAX8_isRefused_0 14 rfl) (by decide) (fun h32 => ?_) (fun h32 => ?_)
      · refine v_iconst hX (atL dAX8_isRefused_0 17 rfl) ?_
        exact v_zret hX (by decide +kernel) (atL dAX8_isRefused_0 18 rfl) (hret _ _ ⟨tf_n (fun q => q ⟨gc1.t h7, gc2.f h18, by omega⟩), rfl⟩)
      · refine v_iconst hX (atL dAX8_isRefused_0 15 rfl) ?_
        refine v_goto hX (tgt := 40) (atL dAX8_isRefused_0 16 rfl) (by decide) ?_
        exact v_zret hX (by decide +kernel) (atL dAX8_isRefused_0 18 rfl) (hret _ _ ⟨tf_p (fun q => absurd q.2.2 (by omega)), rfl⟩)

set_option maxHeartbeats 1000000 in
set_option maxRecDepth 100000 in
theorem c_X8_isUnfit (l : Launch) (w : Wl) (σ : St) (hk0 : w.2 13 0) (n : Nat) (h2 : NN σ 23 n) : Cn l yX8_isUnfit cX8_isUnfit 1 (Option.some Jvm.ClassFile.FieldType.boolean) 2 42 wI [.ref (w.1 13 0)] w σ (fun a σ' => tf a (¬ fitN n) ∧ σ' = σ) := by
  refine Cn.of (own := RX8) (lv := [(0, .ref (w.1 13 0))]) (by decide +kernel) rfl (Nat.le_of_ble_eq_true rfl) rfl (fun X hX hxl hR hcl hret => ?_)
  subst hxl
  have hQ : ∀ q, (14, q) ∈ mn σ 13 0 → w.2 14 q := fun q h => hcl 13 0 hk0 (14, q) h
  have hQ5 : ∀ q, (14, q) ∈ mn σ 13 0 → w.2 15 q := fun q h => hcl 14 q (hQ q h) (15, q) (by simp [mn, tp])
  have hQ16 : ∀ q, (16, q) ∈ mn σ 13 0 → w.2 16 q := fun q h => hcl 13 0 hk0 (16, q) h
  refine v_aload_n hX 0 rfl (atL dAX8_isUnfit_0 0 rfl) ?_
  refine gf_X8_126 hX hk0 (atL dAX8_isUnfit_0 1 rfl) ?_
  refine v_callN hX (As := []) (rest := []) (c_X7_bytes (xl X) w σ 23 n (hQ 23 (by simp [mn, tp])) h2) lk_X8_217 (hQ 23 (by simp [mn, tp])) (fun _ => rfl) rfl rfl rfl (by rw [hR]; exact ⟨Nat.le_of_ble_eq_true rfl, Nat.le_of_ble_eq_true rfl⟩) ⟨Nat.zero_le _, Nat.zero_le _⟩ rfl (Nat.le_of_ble_eq_true rfl) (atL dAX8_isUnfit_0 2 rfl) (fun r1 z1 g1 => ?_)
  obtain ⟨ga1, gb1⟩ := g1
  rw [gb1]
  subst ga1
  have hbl1 : blen n ≤ 4320 := blen_le (NN.le h2)
  have hby1 : nby n = (blen n + 7) / 8 := rfl
  show V X _ w _ _ σ [.int (iI (((nby n : Nat) : Int)))]
  refine v_bipush hX (by decide +kernel) (atL dAX8_isUnfit_0 3 rfl) ?_
  refine v_icmp_lt hX ⟨by omega, by omega⟩ ⟨by omega, by omega⟩ (tgt := 25) (atL dAX8_isUnfit_0 4 rfl) (by decide) (fun h9 => ?_) (fun h9 => ?_)
  · refine v_iconst hX (atL dAX8_isUnfit_0 10 rfl) ?_
    refine v_goto hX (tgt := 30) (atL dAX8_isUnfit_0 11 rfl) (by decide) ?_
    exact v_zret hX (by decide +kernel) (atL dAX8_isUnfit_0 13 rfl) (hret _ _ ⟨tf_p (fun q => by have := q.1; have := q.2; omega), rfl⟩)
  · refine v_aload_n hX 0 rfl (atL dAX8_isUnfit_0 5 rfl) ?_
    refine gf_X8_126 hX hk0 (atL dAX8_isUnfit_0 6 rfl) ?_
    refine v_callN hX (As := []) (rest := []) (c_X7_bytes (xl X) w σ 23 n (hQ 23 (by simp [mn, tp])) h2) lk_X8_217 (hQ 23 (by simp [mn, tp])) (fun _ => rfl) rfl rfl rfl (by rw [hR]; exact ⟨Nat.le_of_ble_eq_true rfl, Nat.le_of_ble_eq_true rfl⟩) ⟨Nat.zero_le _, Nat.zero_le _⟩ rfl (Nat.le_of_ble_eq_true rfl) (atL dAX8_isUnfit_0 7 rfl) (fun r2 z2 g2 => ?_)
    obtain ⟨ga2, gb2⟩ := g2
    rw [gb2]
    subst ga2
    have hbl2 : blen n ≤ 4320 := blen_le (NN.le h2)
    have hby2 : nby n = (blen n + 7) / 8 := rfl
    show V X _ w _ _ σ [.int (iI (((nby n : Nat) : Int)))]
    refine v_sipush hX (by decide +kernel) (atL dAX8_isUnfit_0 8 rfl) ?_
    refine v_icmp_le hX ⟨by omega, by omega⟩ ⟨by omega, by omega⟩ (tgt := 29) (atL dAX8_isUnfit_0 9 rfl) (by decide) (fun h22 => ?_) (fun h22 => ?_)
    · refine v_iconst hX (atL dAX8_isUnfit_0 12 rfl) ?_
      exact v_zret hX (by decide +kernel) (atL dAX8_isUnfit_0 13 rfl) (hret _ _ ⟨tf_n (fun q => q ⟨by omega, by omega⟩), rfl⟩)
    · refine v_iconst hX (atL dAX8_isUnfit_0 10 rfl) ?_
      refine v_goto hX (tgt := 30) (atL dAX8_isUnfit_0 11 rfl) (by decide) ?_
      exact v_zret hX (by decide +kernel) (atL dAX8_isUnfit_0 13 rfl) (hret _ _ ⟨tf_p (fun q => by have := q.1; have := q.2; omega), rfl⟩)

set_option maxHeartbeats 1000000 in
set_option maxRecDepth 100000 in
theorem c_X8_keeps (l : Launch) (w : Wl) (σ : St) (hk0 : w.2 13 0) (A : Ab) (hP : HP σ A) (hk : A.2.1 < 16) (j : Nat) (hj : j < 8) (i v : Nat) (hi : w.2 14 i) (hN : NN σ i v) (hvn : nby v ≤ 128) : Cn l yX8_keeps cX8_keeps 5 none 2 44 wN [.ref (w.1 13 0), .int (iI ((j : Int))), .ref (w.1 14 i)] w σ (fun _ σ' => HP σ' A ∧ KP σ' A.2.1 j v ∧ (∀ j' v', j' ≠ j → KP σ A.2.1 j' v' → KP σ' A.2.1 j' v') ∧ (∀ q, q ≠ 2 → σ' 10 0 q = σ 10 0 q) ∧ Fr [(10, 0), (13, 3), (13, 11), (13, 12)] σ σ') := by
  refine Cn.of (own := RX8) (lv := [(0, .ref (w.1 13 0)), (1, .int (iI ((j : Int)))), (2, .ref (w.1 14 i))]) (by decide +kernel) rfl (Nat.le_of_ble_eq_true rfl) rfl (fun X hX hxl hR hcl hret => ?_)
  subst hxl
  have hQ : ∀ q, (14, q) ∈ mn σ 13 0 → w.2 14 q := fun q h => hcl 13 0 hk0 (14, q) h
  have hQ5 : ∀ q, (14, q) ∈ mn σ 13 0 → w.2 15 q := fun q h => hcl 14 q (hQ q h) (15, q) (by simp [mn, tp])
  have hQ16 : ∀ q, (16, q) ∈ mn σ 13 0 → w.2 16 q := fun q h => hcl 13 0 hk0 (16, q) h
  refine v_bipush hX (by decide +kernel) (atL dAX8_keeps_0 0 rfl) ?_
  refine v_aload_n hX 0 rfl (atL dAX8_keeps_0 1 rfl) ?_
  refine gf_X8_358 hX (v := (A.2.1 : Int)) (hP.2.2.1) hk0 (atL dAX8_keeps_0 2 rfl) ?_
  refine v_imul hX (iI_mul _ _) (atL dAX8_keeps_0 3 rfl) ?_
  refine v_iload_n hX 1 rfl (atL dAX8_keeps_0 4 rfl) ?_
  refine v_iadd hX (iI_add _ _) (atL dAX8_keeps_0 5 rfl) ?_
  rw [show ((8 * ((A.2.1 : Int))) + ((j : Int))) = ((8 * A.2.1 + j : Nat) : Int) from (by omega)]
  refine v_istore_n hX (i := 3) rfl (lv' := [(3, .int (iI (((8 * A.2.1 + j : Nat) : Int)))), (0, .ref (w.1 13 0)), (1, .int (iI ((j : Int)))), (2, .ref (w.1 14 i))]) (Nat.le_of_ble_eq_true rfl) rfl (atL dAX8_keeps_0 6 rfl) ?_
  refine v_aload_n hX 1 rfl (atL dAX8_keeps_0 7 rfl) ?_
  refine v_callV hX (As := []) (rest := []) (c_X8_anew (xl X) w σ hk0) lk_X8_254 hk0 (fun _ => rfl) rfl rfl rfl (by rw [hR]; exact ⟨Nat.le_of_ble_eq_true rfl, Nat.le_of_ble_eq_true rfl⟩) ⟨Nat.zero_le _, Nat.zero_le _⟩ rfl (Nat.le_of_ble_eq_true rfl) (atL dAX8_keeps_0 8 rfl) (fun _ s1 e1 => ?_)
  obtain ⟨hr1, hf1⟩ := anew_use e1
  have hN1 : NN s1 i v := nm.fr hN hf1.1 (by simp) (by simp)
  show V X _ w _ _ s1 []
  refine v_aload_n hX 1 rfl (atL dAX8_keeps_0 9 rfl) ?_
  refine v_aload_n hX 3 rfl (atL dAX8_keeps_0 10 rfl) ?_
  refine v_aload_n hX 3 rfl (atL dAX8_keeps_0 11 rfl) ?_
  refine v_callN hX (As := []) (rest := [.ref (w.1 14 i), .ref (w.1 13 0)]) (c_X7_bytes (xl X) w s1 i v hi hN1) lk_X8_217 hi (fun _ => rfl) rfl rfl rfl (by rw [hR]; exact ⟨Nat.le_of_ble_eq_true rfl, Nat.le_of_ble_eq_true rfl⟩) ⟨Nat.zero_le _, Nat.zero_le _⟩ rfl (Nat.le_of_ble_eq_true rfl) (atL dAX8_keeps_0 12 rfl) (fun r2 z2 g2 => ?_)
  obtain ⟨g2a, g2b⟩ := g2
  rw [g2b]
  subst g2a
  show V X _ w _ _ s1 [.int (iI (((nby v : Nat) : Int))), .ref (w.1 14 i), .ref (w.1 13 0)]
  refine v_callV hX (As := [.ref (w.1 14 i), .int (iI (((nby v : Nat) : Int)))]) (rest := []) (c_X8_putsNumber (xl X) w s1 hk0 [] hr1 i v hi hN1 (nby v) (by simp; omega)) lk_X8_267 hk0 (fun _ => rfl) rfl rfl rfl (by rw [hR]; exact ⟨Nat.le_of_ble_eq_true rfl, Nat.le_of_ble_eq_true rfl⟩) ⟨Nat.zero_le _, Nat.zero_le _⟩ rfl (Nat.le_of_ble_eq_true rfl) (atL dAX8_keeps_0 13 rfl) (fun _ s2 g3 => ?_)
  obtain ⟨g3a, g3b⟩ := g3
  rw [List.nil_append] at g3a
  have hf2 := hf1.tr g3b
  have hr2 := g3a.1
  rw [be_len] at hr2
  show V X _ w _ _ s2 []
  refine v_aload_n hX 1 rfl (atL dAX8_keeps_0 14 rfl) ?_
  refine gf_X8_119 hX hk0 (atL dAX8_keeps_0 15 rfl) ?_
  refine v_iload_n hX 0 rfl (atL dAX8_keeps_0 16 rfl) ?_
  refine v_aload_n hX 1 rfl (atL dAX8_keeps_0 17 rfl) ?_
  refine gf_X8_248 hX (v := ((nby v : Nat) : Int)) (hr2) hk0 (atL dAX8_keeps_0 18 rfl) ?_
  refine v_iast hX (c := 13) ((8 * A.2.1 + j)) (hQ16 12 (by simp [mn, tp])) (by decide) (fun _ _ => rfl) rfl (show 8 * A.2.1 + j < 128 by omega) (by decide) (atL dAX8_keeps_0 19 rfl) ?_
  refine v_iconst hX (atL dAX8_keeps_0 20 rfl) ?_
  refine v_istore hX (lv' := [(4, .int (iI (0))), (3, .int (iI (((8 * A.2.1 + j : Nat) : Int)))), (0, .ref (w.1 13 0)), (1, .int (iI ((j : Int)))), (2, .ref (w.1 14 i))]) (Nat.le_of_ble_eq_true rfl) rfl (atL dAX8_keeps_0 21 rfl) ?_
  have loop : ∀ (d m : Nat) (t : St), m + d = nby v → (∀ q, q < m → t 13 11 (128 * (8 * A.2.1 + j) + q) = (((be v (nby v)).getD q 0 : Nat) : Int)) → (∀ q, (q < 128 * (8 * A.2.1 + j) ∨ 128 * (8 * A.2.1 + j) + m ≤ q) → t 13 11 q = s2 13 11 q) → Fr [(13, 11)] (su s2 13 12 ((8 * A.2.1 + j)) (((nby v : Nat) : Int))) t → V X (0, 0) w 36 [(4, .int (iI ((m : Int)))), (3, .int (iI (((8 * A.2.1 + j : Nat) : Int)))), (0, .ref (w.1 13 0)), (1, .int (iI ((j : Int)))), (2, .ref (w.1 14 i))] t [] := by
    intro d
    induction d with
    | zero =>
      intro m t hm h1 h2 h3
      obtain rfl : m = nby v := by omega
      have ht2 : t 10 0 2 = ((nby v : Nat) : Int) := by rw [h3 10 0 (by simp), su_c (by decide)]; exact hr2
      refine v_iload hX 0 rfl (atL dAX8_keeps_0 22 rfl) ?_
      refine v_aload_n hX 2 rfl (atL dAX8_keeps_0 23 rfl) ?_
      refine gf_X8_248 hX (v := ((nby v : Nat) : Int)) (ht2) hk0 (atL dAX8_keeps_0 24 rfl) ?_
      refine v_icmp_ge hX ⟨by omega, by omega⟩ ⟨by omega, by omega⟩ (tgt := 71) (atL dAX8_keeps_0 25 rfl) (by decide) (fun h42 => ?_) (fun h42 => absurd h42 (by omega))
      exact v_vret hX (atL dAX8_keeps_0 40 rfl) (hret () _ (keeps_end hP hk hj hvn hf2 h1 h2 h3))
    | succ d ih =>
      intro m t hm h1 h2 h3
      have ht2 : t 10 0 2 = ((nby v : Nat) : Int) := by rw [h3 10 0 (by simp), su_c (by decide)]; exact hr2
      have ht3 : t 13 3 m = (((be v (nby v)).getD m 0 : Nat) : Int) := by rw [h3 13 3 (by simp), su_i (by decide)]; exact g3a.2 m (by rw [be_len]; omega)
      refine v_iload hX 0 rfl (atL dAX8_keeps_0 22 rfl) ?_
      refine v_aload_n hX 2 rfl (atL dAX8_keeps_0 23 rfl) ?_
      refine gf_X8_248 hX (v := ((nby v : Nat) : Int)) (ht2) hk0 (atL dAX8_keeps_0 24 rfl) ?_
      refine v_icmp_ge hX ⟨by omega, by omega⟩ ⟨by omega, by omega⟩ (tgt := 71) (atL dAX8_keeps_0 25 rfl) (by decide) (fun h42 => absurd h42 (by omega)) (fun h42 => ?_)
      refine v_aload_n hX 2 rfl (atL dAX8_keeps_0 26 rfl) ?_
      refine gf_X8_116 hX hk0 (atL dAX8_keeps_0 27 rfl) ?_
      refine v_sipush hX (by decide +kernel) (atL dAX8_keeps_0 28 rfl) ?_
      refine v_iload_n hX 1 rfl (atL dAX8_keeps_0 29 rfl) ?_
      refine v_imul hX (iI_mul _ _) (atL dAX8_keeps_0 30 rfl) ?_
      refine v_iload hX 0 rfl (atL dAX8_keeps_0 31 rfl) ?_
      refine v_iadd hX (iI_add _ _) (atL dAX8_keeps_0 32 rfl) ?_
      refine v_aload_n hX 2 rfl (atL dAX8_keeps_0 33 rfl) ?_
      refine gf_X8_77 hX hk0 (atL dAX8_keeps_0 34 rfl) ?_
      refine v_iload hX 0 rfl (atL dAX8_keeps_0 35 rfl) ?_
      refine v_iald hX (r := iI ((((be v (nby v)).getD m 0 : Nat) : Int))) m (hQ16 3 (by simp [mn, tp])) (fun _ => rfl) rfl (show m < 1000 by omega) (by decide) (congrArg iI ht3) (atL dAX8_keeps_0 36 rfl) ?_
      refine v_iast hX (c := 13) ((128 * (8 * A.2.1 + j) + m)) (hQ16 11 (by simp [mn, tp])) (by decide) (fun _ _ => rfl) (by omega) (show _ < 16384 by omega) (by decide) (atL dAX8_keeps_0 37 rfl) ?_
      refine v_iinc hX (lv' := [(4, .int (iI (((m : Int)) + 1))), (3, .int (iI (((8 * A.2.1 + j : Nat) : Int)))), (0, .ref (w.1 13 0)), (1, .int (iI ((j : Int)))), (2, .ref (w.1 14 i))]) 0 rfl (iI_add _ _) (Nat.le_of_ble_eq_true rfl) rfl (atL dAX8_keeps_0 38 rfl) ?_
      refine v_goto hX (tgt := 36) (atL dAX8_keeps_0 39 rfl) (by decide) ?_
      refine v_sub (lv' := [(4, .int (iI (((m : Int)) + 1))), (3, .int (iI (((8 * A.2.1 + j : Nat) : Int)))), (0, .ref (w.1 13 0)), (1, .int (iI ((j : Int)))), (2, .ref (w.1 14 i))]) [0, 1, 2, 3, 4] rfl ?_
      rw [show (m : Int) + 1 = ((m + 1 : Nat) : Int) by omega]
      refine ih (m + 1) _ (by omega) (fun q hq => ?_) (fun q hq => by rw [su_j (by omega)]; exact h2 q (by omega)) (h3.tr' (Fr.su (by simp)))
      by_cases e : q = m
      · rw [e, su_s]
      · rw [su_j (by omega)]; exact h1 q (by omega)
  refine v_sub (lv' := [(4, .int (iI (0))), (3, .int (iI (((8 * A.2.1 + j : Nat) : Int)))), (0, .ref (w.1 13 0)), (1, .int (iI ((j : Int)))), (2, .ref (w.1 14 i))]) [0, 1, 2, 3, 4] rfl ?_
  exact loop (nby v) 0 _ (by omega) (fun q hq => absurd hq (by omega)) (fun q _ => su_i (by decide)) Fr.rf
