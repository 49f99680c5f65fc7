/-- a truth value as an int -/
def tf (a : Int) (P : Prop) : Prop := (a = 1 ∧ P) ∨ (a = 0 ∧ ¬ P)
theorem tf_p {P : Prop} (h : P) : tf 1 P := Or.inl ⟨rfl, h⟩
theorem tf_n {P : Prop} (h : ¬ P) : tf 0 P := Or.inr ⟨rfl, h⟩
theorem tf.r {a : Int} {P : Prop} (h : tf a P) : rI a := by rcases h with ⟨e, _⟩ | ⟨e, _⟩ <;> subst e <;> exact ⟨by omega, by omega⟩
theorem tf.t {a : Int} {P : Prop} (h : tf a P) (ha : a ≠ 0) : P := h.elim (fun q => q.2) (fun q => absurd q.1 ha)
theorem tf.f {a : Int} {P : Prop} (h : tf a P) (ha : a = 0) : ¬ P := h.elim (fun q => by have := q.1; omega) (fun q => q.2)
theorem tf.iff {a : Int} {P Q : Prop} (h : tf a P) (hq : P ↔ Q) : tf a Q := h.elim (fun q => Or.inl ⟨q.1, hq.mp q.2⟩) (fun q => Or.inr ⟨q.1, fun z => q.2 (hq.mpr z)⟩)
theorem tf.zr {a : Int} {P : Prop} (h : tf a P) : narrow .boolean (.int (iI a)) = .int (iI a) := by rcases h with ⟨e, g⟩ | ⟨e, g⟩ <;> subst e <;> decide +kernel
theorem ord0 {v y : Nat} {a : Int} (h : a = (if v < y then -1 else if v = y then 0 else 1)) (ha : a = 0) : v = y := by
  by_cases c : v < y
  · rw [if_pos c] at h; omega
  · rw [if_neg c] at h
    by_cases d : v = y
    · exact d
    · rw [if_neg d] at h; omega
theorem ordr {v y : Nat} {a : Int} (h : a = (if v < y then -1 else if v = y then 0 else 1)) : rI a := by
  by_cases c : v < y
  · rw [if_pos c] at h; exact ⟨by omega, by omega⟩
  · rw [if_neg c] at h
    by_cases d : v = y
    · rw [if_pos d] at h; exact ⟨by omega, by omega⟩
    · rw [if_neg d] at h; exact ⟨by omega, by omega⟩
theorem if01 {v y : Nat} {a : Int} (h : a = (if v = y then 1 else 0)) (ha : a ≠ 0) : v = y := by
  by_cases c : v = y
  · exact c
  · rw [if_neg c] at h; omega
theorem if00 {v y : Nat} {a : Int} (h : a = (if v = y then 1 else 0)) (ha : a = 0) : v ≠ y := fun c => by rw [if_pos c] at h; omega
theorem lt512 {n : Nat} (h : n < 2 ^ 512) : n < 2 ^ 2048 := Nat.lt_of_lt_of_le h (Nat.pow_le_pow_right (by omega) (by omega))
theorem sq78 {z n : Nat} (h1 : z < n) (h : n < 2 ^ 512) : z * z < 268435456 ^ 78 := by
  have h2 := Nat.lt_trans h1 h
  have h3 := Nat.mul_lt_mul'' h2 h2
  rw [← Nat.pow_add] at h3
  rw [p28]
  exact Nat.lt_of_lt_of_le h3 (Nat.pow_le_pow_right (by omega) (by omega))
theorem pr_low {σ : St} {i u n : Nat} (hd : WDg σ i) (ht : 0 < u → σ 3 i (u - 1) ≠ 0) (hv : vB 268435456 (fW σ i) u = n) : (u ≤ 1 → (if 0 ≤ (0 : Int) ∧ (0 : Int) < (u : Int) then σ 3 i (0 : Int).toNat else 0) = (n : Int)) ∧ (u ≤ 1 → n < 268435456) ∧ (1 < u → 37 < n) := by
  refine ⟨fun h => ?_, fun h => ?_, fun h => ?_⟩
  · by_cases e : u = 0
    · subst e
      rw [if_neg (by omega)]
      subst hv; rfl
    · obtain rfl : u = 1 := by omega
      rw [if_pos (by omega)]
      have h0 := hd 0
      subst hv
      show σ 3 i 0 = ((vB 268435456 (fW σ i) 1 : Nat) : Int)
      simp only [vB, fW]
      omega
  · have := vB_lt (b := 268435456) (f := fW σ i) (n := u) (fun j _ => by have := hd j; unfold fW; omega)
    rw [hv] at this
    have h2 : 268435456 ^ u ≤ 268435456 ^ 1 := Nat.pow_le_pow_right (by omega) h
    omega
  · have := WN.ge hd ht hv (by omega)
    have h2 : 268435456 ^ 1 ≤ 268435456 ^ (u - 1) := Nat.pow_le_pow_right (by omega) (by omega)
    omega
set_option maxHeartbeats 1000000 in
set_option maxRecDepth 100000 in
theorem c_X0_isBase (l : Launch) (w : Wl) (σ : St) (x : Nat) (hx : x < 268435456) : Cn l yX0_isBase cX0_isBase 3 (Option.some Jvm.ClassFile.FieldType.boolean) 0 0 wI [.long (jI ((x : Int)))] w σ (fun a σ' => tf a (∃ k, k < 12 ∧ x = bs k) ∧ σ' = σ) := by
  refine Cn.of (own := RX0) (lv := [(0, .long (jI ((x : Int))))]) (by decide +kernel) rfl (Nat.le_of_ble_eq_true rfl) rfl (fun X hX hxl hR hcl hret => ?_)
  subst hxl
  have loop : ∀ (d k : Nat), k + d = 12 → (∀ j, j < k → x ≠ bs j) → V X (0, 0) w 2 [(2, .int (iI ((k : Int)))), (0, .long (jI ((x : Int))))] σ [] := by
    intro d
    induction d with
    | zero =>
      intro k hk hn
      obtain rfl : k = 12 := by omega
      refine v_iload_n hX 0 rfl (atL dAX0_isBase_0 2 rfl) ?_
      refine v_gets hX 0 (by decide) wd_585 rfl (atL dAX0_isBase_0 3 rfl) (fun t3 hT3 => ?_)
      refine v_slen hX hT3 (atL dAX0_isBase_0 4 rfl) ?_
      rw [show (((sT 0).length : Int)) = 12 from rfl]
      refine v_icmp_ge hX ⟨by omega, by omega⟩ ⟨by omega, by omega⟩ (tgt := 29) (atL dAX0_isBase_0 5 rfl) (by decide) (fun h7 => ?_) (fun h7 => absurd h7 (by omega))
      refine v_iconst hX (atL dAX0_isBase_0 17 rfl) ?_
      exact v_zret hX (by decide +kernel) (atL dAX0_isBase_0 18 rfl) (hret _ _ ⟨tf_n (fun ⟨j, hj, e⟩ => hn j hj e), rfl⟩)
    | succ d ih =>
      intro k hk hn
      have hb := bs_r (k := k) (by omega)
      refine v_iload_n hX 0 rfl (atL dAX0_isBase_0 2 rfl) ?_
      refine v_gets hX 0 (by decide) wd_585 rfl (atL dAX0_isBase_0 3 rfl) (fun t3 hT3 => ?_)
      refine v_slen hX hT3 (atL dAX0_isBase_0 4 rfl) ?_
      rw [show (((sT 0).length : Int)) = 12 from rfl]
      refine v_icmp_ge hX ⟨by omega, by omega⟩ ⟨by omega, by omega⟩ (tgt := 29) (atL dAX0_isBase_0 5 rfl) (by decide) (fun h7 => absurd h7 (by omega)) (fun h7 => ?_)
      refine v_gets hX 0 (by decide) wd_585 rfl (atL dAX0_isBase_0 6 rfl) (fun t10 hT10 => ?_)
      refine v_iload_n hX 0 rfl (atL dAX0_isBase_0 7 rfl) ?_
      refine v_sald hX k hT10 rfl (show k < 12 by omega) (by decide) rfl (atL dAX0_isBase_0 8 rfl) ?_
      rw [show ((sT 0).getD k 0) = (bs k : Int) from bs_e (by omega)]
      refine v_i2l hX (iI_i2l ⟨by omega, by omega⟩) (atL dAX0_isBase_0 9 rfl) ?_
      refine v_lload_n hX 1 rfl (atL dAX0_isBase_0 10 rfl) ?_
      refine v_lcmp_ne hX ⟨by omega, by omega⟩ ⟨by omega, by omega⟩ (atL dAX0_isBase_0 11 rfl) (tgt := 23) (atL dAX0_isBase_0 12 rfl) (by decide) (fun h17 => ?_) (fun h17 => ?_)
      · refine v_iinc hX (lv' := [(2, .int (iI (((k : Int)) + 1))), (0, .long (jI ((x : Int))))]) 0 rfl (iI_add _ _) (Nat.le_of_ble_eq_true rfl) rfl (atL dAX0_isBase_0 15 rfl) ?_
        refine v_goto hX (tgt := 2) (atL dAX0_isBase_0 16 rfl) (by decide) ?_
        rw [show (k : Int) + 1 = ((k + 1 : Nat) : Int) by omega]
        exact ih (k + 1) (by omega) (fun j hj => by by_cases e : j = k; subst e; omega; exact hn j (by omega))
      · refine v_iconst hX (atL dAX0_isBase_0 13 rfl) ?_
        exact v_zret hX (by decide +kernel) (atL dAX0_isBase_0 14 rfl) (hret _ _ ⟨tf_p ⟨k, by omega, by omega⟩, rfl⟩)
  refine v_iconst hX (atL dAX0_isBase_0 0 rfl) ?_
  refine v_istore_n hX (i := 2) rfl (lv' := [(2, .int (iI (0))), (0, .long (jI ((x : Int))))]) (Nat.le_of_ble_eq_true rfl) rfl (atL dAX0_isBase_0 1 rfl) ?_
  exact loop 12 0 (by omega) (fun j hj => absurd hj (by omega))

set_option maxHeartbeats 1000000 in
set_option maxRecDepth 100000 in
theorem c_X0_hasBaseAsDivisor (l : Launch) (w : Wl) (σ : St) (i v : Nat) (hi : w.2 3 i) (hN : WN σ i v) : Cn l yX0_hasBaseAsDivisor cX0_hasBaseAsDivisor 2 (Option.some Jvm.ClassFile.FieldType.boolean) 2 45 wI [.ref (w.1 3 i)] w σ (fun a σ' => tf a (∃ k, k < 12 ∧ v % bs k = 0) ∧ σ' = σ) := by
  refine Cn.of (own := RX0) (lv := [(0, .ref (w.1 3 i))]) (by decide +kernel) rfl (Nat.le_of_ble_eq_true rfl) rfl (fun X hX hxl hR hcl hret => ?_)
  subst hxl
  have loop : ∀ (d k : Nat), k + d = 12 → (∀ j, j < k → v % bs j ≠ 0) → V X (0, 0) w 2 [(1, .int (iI ((k : Int)))), (0, .ref (w.1 3 i))] σ [] := by
    intro d
    induction d with
    | zero =>
      intro k hk hn
      obtain rfl : k = 12 := by omega
      refine v_iload_n hX 0 rfl (atL dAX0_hasBaseAsDivisor_0 2 rfl) ?_
      refine v_gets hX 0 (by decide) wd_585 rfl (atL dAX0_hasBaseAsDivisor_0 3 rfl) (fun t3 hT3 => ?_)
      refine v_slen hX hT3 (atL dAX0_hasBaseAsDivisor_0 4 rfl) ?_
      rw [show (((sT 0).length : Int)) = 12 from rfl]
      refine v_icmp_ge hX ⟨by omega, by omega⟩ ⟨by omega, by omega⟩ (tgt := 32) (atL dAX0_hasBaseAsDivisor_0 5 rfl) (by decide) (fun h7 => ?_) (fun h7 => absurd h7 (by omega))
      refine v_iconst hX (atL dAX0_hasBaseAsDivisor_0 18 rfl) ?_
      exact v_zret hX (by decide +kernel) (atL dAX0_hasBaseAsDivisor_0 19 rfl) (hret _ _ ⟨tf_n (fun ⟨j, hj, e⟩ => hn j hj e), rfl⟩)
    | succ d ih =>
      intro k hk hn
      have hb := bs_r (k := k) (by omega)
      refine v_iload_n hX 0 rfl (atL dAX0_hasBaseAsDivisor_0 2 rfl) ?_
      refine v_gets hX 0 (by decide) wd_585 rfl (atL dAX0_hasBaseAsDivisor_0 3 rfl) (fun t3 hT3 => ?_)
      refine v_slen hX hT3 (atL dAX0_hasBaseAsDivisor_0 4 rfl) ?_
      rw [show (((sT 0).length : Int)) = 12 from rfl]
      refine v_icmp_ge hX ⟨by omega, by omega⟩ ⟨by omega, by omega⟩ (tgt := 32) (atL dAX0_hasBaseAsDivisor_0 5 rfl) (by decide) (fun h7 => absurd h7 (by omega)) (fun h7 => ?_)
      refine v_aload_n hX 1 rfl (atL dAX0_hasBaseAsDivisor_0 6 rfl) ?_
      refine v_gets hX 0 (by decide) wd_585 rfl (atL dAX0_hasBaseAsDivisor_0 7 rfl) (fun t11 hT11 => ?_)
      refine v_iload_n hX 0 rfl (atL dAX0_hasBaseAsDivisor_0 8 rfl) ?_
      refine v_sald hX k hT11 rfl (show k < 12 by omega) (by decide) rfl (atL dAX0_hasBaseAsDivisor_0 9 rfl) ?_
      rw [show ((sT 0).getD k 0) = (bs k : Int) from bs_e (by omega)]
      refine v_callV hX (As := [.int (iI ((bs k : Int)))]) (rest := []) (c_X5_restBySmall (xl X) w σ i v hi hN (bs k) (by omega) (by omega)) lk_X0_186 hi (fun _ => rfl) rfl rfl rfl (by rw [hR]; exact ⟨Nat.le_of_ble_eq_true rfl, Nat.le_of_ble_eq_true rfl⟩) ⟨Nat.zero_le _, Nat.zero_le _⟩ rfl (Nat.le_of_ble_eq_true rfl) (atL dAX0_hasBaseAsDivisor_0 10 rfl) (fun r1 s1 h1 => ?_)
      obtain ⟨h1a, h1b⟩ := h1
      rw [h1b]
      subst h1a
      have hml := Nat.mod_lt v (show 0 < bs k by omega)
      generalize hz : v % bs k = z at *
      show V X _ w _ _ σ [.long (jI ((z : Int)))]
      refine v_lconst hX (atL dAX0_hasBaseAsDivisor_0 11 rfl) ?_
      show V X _ w _ _ _ (.long (jI (0)) :: _)
      refine v_lcmp_ne hX ⟨by omega, by omega⟩ ⟨by omega, by omega⟩ (atL dAX0_hasBaseAsDivisor_0 12 rfl) (tgt := 26) (atL dAX0_hasBaseAsDivisor_0 13 rfl) (by decide) (fun h20 => ?_) (fun h20 => ?_)
      · refine v_iinc hX (lv' := [(1, .int (iI (((k : Int)) + 1))), (0, .ref (w.1 3 i))]) 0 rfl (iI_add _ _) (Nat.le_of_ble_eq_true rfl) rfl (atL dAX0_hasBaseAsDivisor_0 16 rfl) ?_
        refine v_goto hX (tgt := 2) (atL dAX0_hasBaseAsDivisor_0 17 rfl) (by decide) ?_
        rw [show (k : Int) + 1 = ((k + 1 : Nat) : Int) by omega]
        exact ih (k + 1) (by omega) (fun j hj => by by_cases e : j = k; subst e; omega; exact hn j (by omega))
      · refine v_iconst hX (atL dAX0_hasBaseAsDivisor_0 14 rfl) ?_
        exact v_zret hX (by decide +kernel) (atL dAX0_hasBaseAsDivisor_0 15 rfl) (hret _ _ ⟨tf_p ⟨k, by omega, by omega⟩, rfl⟩)
  refine v_iconst hX (atL dAX0_hasBaseAsDivisor_0 0 rfl) ?_
  refine v_istore_n hX (i := 1) rfl (lv' := [(1, .int (iI (0))), (0, .ref (w.1 3 i))]) (Nat.le_of_ble_eq_true rfl) rfl (atL dAX0_hasBaseAsDivisor_0 1 rfl) ?_
  exact loop 12 0 (by omega) (fun j hj => absurd hj (by omega))

set_option maxHeartbeats 1000000 in
set_option maxRecDepth 100000 in
theorem c_X0_isWitnessed (l : Launch) (w : Wl) (σ : St) (hk0 : w.2 7 0) (i n : Nat) (hi : w.2 3 i) (hN : WN σ i n) (iN : i < 7 ∨ 22 < i) (hn37 : 37 < n) (hn5 : n < 2 ^ 512) (b d t : Nat) (hb37 : b ≤ 37) (hB : WN σ 21 b) (hD : WN σ 20 d) (hL : WN σ 19 (n - 1)) (ht : t < 2240) (hAD : AD σ) : Cn l yX0_isWitnessed cX0_isWitnessed 4 (Option.some Jvm.ClassFile.FieldType.boolean) 3 92 wI [.ref (w.1 7 0), .ref (w.1 3 i), .int (iI ((t : Int)))] w σ (fun a σ' => tf a (wit n d t b) ∧ AD σ' ∧ Fr [(8, 0), (2, 7), (3, 7), (2, 8), (3, 8), (2, 9), (3, 9), (2, 10), (3, 10), (2, 11), (3, 11), (2, 12), (3, 12), (2, 22), (3, 22)] σ σ') := by
  refine Cn.of (own := RX0) (lv := [(0, .ref (w.1 7 0)), (1, .ref (w.1 3 i)), (2, .int (iI ((t : Int))))]) (by decide +kernel) rfl (Nat.le_of_ble_eq_true rfl) rfl (fun X hX hxl hR hcl hret => ?_)
  subst hxl
  have hD3 : ∀ q, (3, q) ∈ mn σ 7 0 → w.2 3 q := fun q h => hcl 7 0 hk0 (3, q) h
  have loop : ∀ (dd k : Nat) (s : St), k + dd = t → (b ^ d % n ≠ 1) → (∀ j, j < k → b ^ (d * 2 ^ j) % n ≠ n - 1) → AD s → WN s 22 (b ^ (d * 2 ^ k) % n) → Fr [(8, 0), (2, 7), (3, 7), (2, 8), (3, 8), (2, 9), (3, 9), (2, 10), (3, 10), (2, 11), (3, 11), (2, 12), (3, 12), (2, 22), (3, 22)] σ s → V X (0, 0) w 32 [(3, .int (iI ((k : Int)))), (0, .ref (w.1 7 0)), (1, .ref (w.1 3 i)), (2, .int (iI ((t : Int))))] s [] := by
    intro dd
    induction dd with
    | zero =>
      intro k s hk h1n hn had w22 hfr
      obtain rfl : k = t := by omega
      refine v_iload_n hX 0 rfl (atL dAX0_isWitnessed_0 18 rfl) ?_
      refine v_iload_n hX 3 rfl (atL dAX0_isWitnessed_0 19 rfl) ?_
      refine v_icmp_ge hX ⟨by omega, by omega⟩ ⟨by omega, by omega⟩ (tgt := 83) (atL dAX0_isWitnessed_0 20 rfl) (by decide) (fun h34 => ?_) (fun h34 => absurd h34 (by omega))
      refine v_iconst hX (atL dAX0_isWitnessed_0 43 rfl) ?_
      exact v_zret hX (by decide +kernel) (atL dAX0_isWitnessed_0 44 rfl) (hret _ _ ⟨tf_n (by rintro (h | ⟨j, hj, e⟩); exact h1n h; exact hn j hj e), had, hfr⟩)
    | succ dd ih =>
      intro k s hk h1n hn had w22 hfr
      have hlt := Nat.mod_lt (b ^ (d * 2 ^ k)) (show 0 < n by omega)
      refine v_iload_n hX 0 rfl (atL dAX0_isWitnessed_0 18 rfl) ?_
      refine v_iload_n hX 3 rfl (atL dAX0_isWitnessed_0 19 rfl) ?_
      refine v_icmp_ge hX ⟨by omega, by omega⟩ ⟨by omega, by omega⟩ (tgt := 83) (atL dAX0_isWitnessed_0 20 rfl) (by decide) (fun h34 => absurd h34 (by omega)) (fun h34 => ?_)
      refine v_aload_n hX 1 rfl (atL dAX0_isWitnessed_0 21 rfl) ?_
      refine gf_X0_64 hX hk0 (atL dAX0_isWitnessed_0 22 rfl) ?_
      refine v_aload_n hX 1 rfl (atL dAX0_isWitnessed_0 23 rfl) ?_
      refine gf_X0_55 hX hk0 (atL dAX0_isWitnessed_0 24 rfl) ?_
      refine v_callV hX (As := [.ref (w.1 3 19)]) (rest := []) (c_X5_order (xl X) w s 22 (b ^ (d * 2 ^ k) % n) (hD3 22 (by simp [mn, tp])) w22 19 (n - 1) (hD3 19 (by simp [mn, tp])) (hL.fr hfr (by simp) (by simp))) lk_X0_193 (hD3 22 (by simp [mn, tp])) (fun _ => rfl) rfl rfl rfl (by rw [hR]; exact ⟨Nat.le_of_ble_eq_true rfl, Nat.le_of_ble_eq_true rfl⟩) ⟨Nat.zero_le _, Nat.zero_le _⟩ rfl (Nat.le_of_ble_eq_true rfl) (atL dAX0_isWitnessed_0 25 rfl) (fun r1 s1 h1 => ?_)
      obtain ⟨h1a, h1b⟩ := h1
      rw [h1b]
      show V X _ w _ _ s [.int (iI (r1))]
      refine v_if_ne hX (ordr h1a) (tgt := 53) (atL dAX0_isWitnessed_0 26 rfl) (by decide) (fun h48 => ?_) (fun h48 => ?_)
      · have hne : b ^ (d * 2 ^ k) % n ≠ n - 1 := by intro e; rw [if_neg (by omega), if_pos e] at h1a; omega
        refine v_aload_n hX 1 rfl (atL dAX0_isWitnessed_0 29 rfl) ?_
        refine gf_X0_28 hX hk0 (atL dAX0_isWitnessed_0 30 rfl) ?_
        refine v_aload_n hX 1 rfl (atL dAX0_isWitnessed_0 31 rfl) ?_
        refine gf_X0_64 hX hk0 (atL dAX0_isWitnessed_0 32 rfl) ?_
        refine v_callV hX (As := [.ref (w.1 3 22)]) (rest := []) (c_X5_setSquare (xl X) w s 10 (hD3 10 (by simp [mn, tp])) (had _) 22 (b ^ (d * 2 ^ k) % n) (hD3 22 (by simp [mn, tp])) w22 (by decide) (Nat.lt_of_lt_of_le (Nat.lt_trans hlt hn5) (by rw [p28]; exact Nat.pow_le_pow_right (by omega) (by omega)))) lk_X0_153 (hD3 10 (by simp [mn, tp])) (fun _ => rfl) rfl rfl rfl (by rw [hR]; exact ⟨Nat.le_of_ble_eq_true rfl, Nat.le_of_ble_eq_true rfl⟩) ⟨Nat.zero_le _, Nat.zero_le _⟩ rfl (Nat.le_of_ble_eq_true rfl) (atL dAX0_isWitnessed_0 33 rfl) (fun _ s2 h2 => ?_)
        obtain ⟨h2a, h2f⟩ := h2
        have ad2 := had.one h2f h2a
        show V X _ w _ _ s2 []
        refine v_aload_n hX 1 rfl (atL dAX0_isWitnessed_0 34 rfl) ?_
        refine v_aload_n hX 1 rfl (atL dAX0_isWitnessed_0 35 rfl) ?_
        refine gf_X0_28 hX hk0 (atL dAX0_isWitnessed_0 36 rfl) ?_
        refine v_aload_n hX 2 rfl (atL dAX0_isWitnessed_0 37 rfl) ?_
        refine v_aload_n hX 1 rfl (atL dAX0_isWitnessed_0 38 rfl) ?_
        refine gf_X0_64 hX hk0 (atL dAX0_isWitnessed_0 39 rfl) ?_
        refine v_callV hX (As := [.ref (w.1 3 10), .ref (w.1 3 i), .ref (w.1 3 22)]) (rest := []) (c_X0_divide (xl X) w s2 hk0 10 (b ^ (d * 2 ^ k) % n * (b ^ (d * 2 ^ k) % n)) (hD3 10 (by simp [mn, tp])) h2a (sq78 hlt hn5) (by decide) i n hi ((hN.fr hfr (by simp; omega) (by simp; omega)).fr h2f (by simp; omega) (by simp; omega)) (by omega) (p2048 (lt512 hn5)) 22 (hD3 22 (by simp [mn, tp])) (ad2 _) (by decide) (by decide) (by decide) (ad2 _) (ad2 _) (ad2 _)) lk_X0_128 hk0 (fun _ => rfl) rfl rfl rfl (by rw [hR]; exact ⟨Nat.le_of_ble_eq_true rfl, Nat.le_of_ble_eq_true rfl⟩) ⟨Nat.zero_le _, Nat.zero_le _⟩ rfl (Nat.le_of_ble_eq_true rfl) (atL dAX0_isWitnessed_0 40 rfl) (fun _ s3 h3 => ?_)
        have ad3 := ad2.div h3
        obtain ⟨h3a, -, -, -, h3f⟩ := h3
        rw [sq_pow] at h3a
        show V X _ w _ _ s3 []
        refine v_iinc hX (lv' := [(3, .int (iI (((k : Int)) + 1))), (0, .ref (w.1 7 0)), (1, .ref (w.1 3 i)), (2, .int (iI ((t : Int))))]) 0 rfl (iI_add _ _) (Nat.le_of_ble_eq_true rfl) rfl (atL dAX0_isWitnessed_0 41 rfl) ?_
        refine v_goto hX (tgt := 32) (atL dAX0_isWitnessed_0 42 rfl) (by decide) ?_
        refine v_sub (lv' := [(3, .int (iI (((k : Int)) + 1))), (0, .ref (w.1 7 0)), (1, .ref (w.1 3 i)), (2, .int (iI ((t : Int))))]) [0, 1, 2, 3] rfl ?_
        rw [show (k : Int) + 1 = ((k + 1 : Nat) : Int) by omega]
        exact ih (k + 1) s3 (by omega) h1n (fun j hj => by by_cases e : j = k; subst e; exact hne; exact hn j (by omega)) ad3 h3a ((hfr.tr' (h2f.mono (by simp))).tr' (h3f.mono (by simp)))
      · refine v_iconst hX (atL dAX0_isWitnessed_0 27 rfl) ?_
        exact v_zret hX (by decide +kernel) (atL dAX0_isWitnessed_0 28 rfl) (hret _ _ ⟨tf_p (Or.inr ⟨k, by omega, ord0 h1a (by omega)⟩), had, hfr⟩)
  refine v_aload_n hX 0 rfl (atL dAX0_isWitnessed_0 0 rfl) ?_
  refine v_aload_n hX 0 rfl (atL dAX0_isWitnessed_0 1 rfl) ?_
  refine gf_X0_61 hX hk0 (atL dAX0_isWitnessed_0 2 rfl) ?_
  refine v_aload_n hX 0 rfl (atL dAX0_isWitnessed_0 3 rfl) ?_
  refine gf_X0_58 hX hk0 (atL dAX0_isWitnessed_0 4 rfl) ?_
  refine v_aload_n hX 1 rfl (atL dAX0_isWitnessed_0 5 rfl) ?_
  refine v_aload_n hX 0 rfl (atL dAX0_isWitnessed_0 6 rfl) ?_
  refine gf_X0_64 hX hk0 (atL dAX0_isWitnessed_0 7 rfl) ?_
  refine v_callV hX (As := [.ref (w.1 3 21), .ref (w.1 3 20), .ref (w.1 3 i), .ref (w.1 3 22)]) (rest := []) (c_X0_power (xl X) w σ hk0 21 b (hD3 21 (by simp [mn, tp])) hB (Nat.lt_of_le_of_lt hb37 (by rw [show (2048 : Nat) = 6 + 2042 from rfl, Nat.pow_add]; have := Nat.two_pow_pos 2042; omega)) (by decide) (by decide) 20 d (hD3 20 (by simp [mn, tp])) hD (by decide) (by decide) (by decide) (by decide) (by decide) i n hi hN (by omega) (Nat.lt_of_lt_of_le hn5 (Nat.pow_le_pow_right (by omega) (by omega))) 22 (hD3 22 (by simp [mn, tp])) (hAD _) (by decide) (by decide) (by decide) (by decide) (by decide) (hAD _) (hAD _) (hAD _) (hAD _) (hAD _)) lk_X0_189 hk0 (fun _ => rfl) rfl rfl rfl (by rw [hR]; exact ⟨Nat.le_of_ble_eq_true rfl, Nat.le_of_ble_eq_true rfl⟩) ⟨Nat.zero_le _, Nat.zero_le _⟩ rfl (Nat.le_of_ble_eq_true rfl) (atL dAX0_isWitnessed_0 8 rfl) (fun _ s1 h1 => ?_)
  obtain ⟨h1a, g7, g8, g10, g11, g12, h1f⟩ := h1
  have ad1 := hAD.pow h1a g7 g8 g10 g11 g12 h1f (by simp)
  show V X _ w _ _ s1 []
  refine v_aload_n hX 0 rfl (atL dAX0_isWitnessed_0 9 rfl) ?_
  refine gf_X0_64 hX hk0 (atL dAX0_isWitnessed_0 10 rfl) ?_
  refine v_iconst hX (atL dAX0_isWitnessed_0 11 rfl) ?_
  refine v_callV hX (As := [.int (iI (1))]) (rest := []) (c_X5_isSmall (xl X) w s1 22 (b ^ d % n) (hD3 22 (by simp [mn, tp])) h1a 1 (by omega) (by omega)) lk_X0_146 (hD3 22 (by simp [mn, tp])) (fun _ => rfl) rfl rfl rfl (by rw [hR]; exact ⟨Nat.le_of_ble_eq_true rfl, Nat.le_of_ble_eq_true rfl⟩) ⟨Nat.zero_le _, Nat.zero_le _⟩ rfl (Nat.le_of_ble_eq_true rfl) (atL dAX0_isWitnessed_0 12 rfl) (fun r2 s2 h2 => ?_)
  obtain ⟨h2a, h2b⟩ := h2
  rw [h2b]
  show V X _ w _ _ s1 [.int (iI (r2))]
  refine v_if_eq hX ⟨by split at h2a <;> omega, by split at h2a <;> omega⟩ (tgt := 30) (atL dAX0_isWitnessed_0 13 rfl) (by decide) (fun h25 => ?_) (fun h25 => ?_)
  · refine v_iconst hX (atL dAX0_isWitnessed_0 16 rfl) ?_
    refine v_istore_n hX (i := 3) rfl (lv' := [(3, .int (iI (0))), (0, .ref (w.1 7 0)), (1, .ref (w.1 3 i)), (2, .int (iI ((t : Int))))]) (Nat.le_of_ble_eq_true rfl) rfl (atL dAX0_isWitnessed_0 17 rfl) ?_
    exact loop t 0 s1 (by omega) (if00 h2a (by omega)) (fun j hj => absurd hj (by omega)) ad1 (by rw [Nat.pow_zero, Nat.mul_one]; exact h1a) (h1f.mono (by simp))
  · refine v_iconst hX (atL dAX0_isWitnessed_0 14 rfl) ?_
    exact v_zret hX (by decide +kernel) (atL dAX0_isWitnessed_0 15 rfl) (hret _ _ ⟨tf_p (Or.inl (if01 h2a (by omega))), ad1, h1f.mono (by simp)⟩)

set_option maxHeartbeats 1000000 in
set_option maxRecDepth 100000 in
theorem c_X0_isProbable (l : Launch) (w : Wl) (σ : St) (hk0 : w.2 7 0) (i n : Nat) (hi : w.2 3 i) (hN : WN σ i n) (iN : i < 7 ∨ 22 < i) (hAD : AD σ) : Cn l yX0_isProbable cX0_isProbable 4 (Option.some Jvm.ClassFile.FieldType.boolean) 4 115 wI [.ref (w.1 7 0), .ref (w.1 3 i)] w σ (fun a σ' => tf a (PB n) ∧ AD σ' ∧ Fr [(8, 0), (2, 7), (3, 7), (2, 8), (3, 8), (2, 9), (3, 9), (2, 10), (3, 10), (2, 11), (3, 11), (2, 12), (3, 12), (2, 19), (3, 19), (2, 20), (3, 20), (2, 21), (3, 21), (2, 22), (3, 22)] σ σ') := by
  refine Cn.of (own := RX0) (lv := [(0, .ref (w.1 7 0)), (1, .ref (w.1 3 i))]) (by decide +kernel) rfl (Nat.le_of_ble_eq_true rfl) rfl (fun X hX hxl hR hcl hret => ?_)
  subst hxl
  have hD3 : ∀ q, (3, q) ∈ mn σ 7 0 → w.2 3 q := fun q h => hcl 7 0 hk0 (3, q) h
  have fr2 : ∀ a b : Int, a = b → b = a := fun _ _ h => h.symm
  have loop : ∀ (t d : Nat), 37 < n → n < 2 ^ 512 → n % 2 = 1 → n - 1 = d * 2 ^ t → d % 2 = 1 → t < 2240 → ∀ (dd k : Nat) (s : St), k + dd = 12 → (∀ j, j < k → wit n d t (bs j)) → AD s → WN s 19 (n - 1) → WN s 20 d → Fr [(8, 0), (2, 7), (3, 7), (2, 8), (3, 8), (2, 9), (3, 9), (2, 10), (3, 10), (2, 11), (3, 11), (2, 12), (3, 12), (2, 19), (3, 19), (2, 20), (3, 20), (2, 21), (3, 21), (2, 22), (3, 22)] σ s → V X (0, 0) w 77 [(3, .int (iI ((k : Int)))), (0, .ref (w.1 7 0)), (1, .ref (w.1 3 i)), (2, .int (iI ((t : Int))))] s [] := by
    intro t d h37 hn5 hodd hdt hd1 ht dd
    have hpo := prob_of h37 hodd hdt hd1
    induction dd with
    | zero =>
      intro k s hk hn had w19 w20 hfr
      obtain rfl : k = 12 := by omega
      refine v_iload_n hX 0 rfl (atL dAX0_isProbable_0 40 rfl) ?_
      refine v_gets hX 0 (by decide) wd_585 rfl (atL dAX0_isProbable_0 41 rfl) (fun t78 hT78 => ?_)
      refine v_slen hX hT78 (atL dAX0_isProbable_0 42 rfl) ?_
      rw [show (((sT 0).length : Int)) = 12 from rfl]
      refine v_icmp_ge hX ⟨by omega, by omega⟩ ⟨by omega, by omega⟩ (tgt := 115) (atL dAX0_isProbable_0 43 rfl) (by decide) (fun h82 => ?_) (fun h82 => absurd h82 (by omega))
      refine v_iconst hX (atL dAX0_isProbable_1 0 rfl) ?_
      exact v_zret hX (by decide +kernel) (atL dAX0_isProbable_1 1 rfl) (hret _ _ ⟨tf_p ⟨hn5, hpo.mpr hn⟩, had, hfr⟩)
    | succ dd ih =>
      intro k s hk hn had w19 w20 hfr
      have hb := bs_r (k := k) (by omega)
      refine v_iload_n hX 0 rfl (atL dAX0_isProbable_0 40 rfl) ?_
      refine v_gets hX 0 (by decide) wd_585 rfl (atL dAX0_isProbable_0 41 rfl) (fun t78 hT78 => ?_)
      refine v_slen hX hT78 (atL dAX0_isProbable_0 42 rfl) ?_
      rw [show (((sT 0).length : Int)) = 12 from rfl]
      refine v_icmp_ge hX ⟨by omega, by omega⟩ ⟨by omega, by omega⟩ (tgt := 115) (atL dAX0_isProbable_0 43 rfl) (by decide) (fun h82 => absurd h82 (by omega)) (fun h82 => ?_)
      refine v_aload_n hX 1 rfl (atL dAX0_isProbable_0 44 rfl) ?_
      refine gf_X0_61 hX hk0 (atL dAX0_isProbable_0 45 rfl) ?_
      refine v_gets hX 0 (by decide) wd_585 rfl (atL dAX0_isProbable_0 46 rfl) (fun t89 hT89 => ?_)
      refine v_iload_n hX 0 rfl (atL dAX0_isProbable_0 47 rfl) ?_
      refine v_sald hX k hT89 rfl (show k < 12 by omega) (by decide) rfl (atL dAX0_isProbable_0 48 rfl) ?_
      rw [show ((sT 0).getD k 0) = (bs k : Int) from bs_e (by omega)]
      refine v_i2l hX (iI_i2l ⟨by omega, by omega⟩) (atL dAX0_isProbable_0 49 rfl) ?_
      refine v_callV hX (As := [.long (jI ((bs k : Int)))]) (rest := []) (c_X5_setSmall (xl X) w s 21 (hD3 21 (by simp [mn, tp])) (had _) (bs k) (by omega)) lk_X0_132 (hD3 21 (by simp [mn, tp])) (fun _ => rfl) rfl rfl rfl (by rw [hR]; exact ⟨Nat.le_of_ble_eq_true rfl, Nat.le_of_ble_eq_true rfl⟩) ⟨Nat.zero_le _, Nat.zero_le _⟩ rfl (Nat.le_of_ble_eq_true rfl) (atL dAX0_isProbable_0 50 rfl) (fun _ s1 h1 => ?_)
      obtain ⟨h1a, h1f⟩ := h1
      have ad1 := had.one h1f h1a
      show V X _ w _ _ s1 []
      refine v_aload_n hX 1 rfl (atL dAX0_isProbable_0 51 rfl) ?_
      refine v_aload_n hX 2 rfl (atL dAX0_isProbable_0 52 rfl) ?_
      refine v_iload_n hX 3 rfl (atL dAX0_isProbable_0 53 rfl) ?_
      refine v_callV hX (As := [.ref (w.1 3 i), .int (iI ((t : Int)))]) (rest := []) (c_X0_isWitnessed (xl X) w s1 hk0 i n hi ((hN.fr hfr (by simp; omega) (by simp; omega)).fr h1f (by simp; omega) (by simp; omega)) iN h37 hn5 (bs k) d t hb.2 h1a (w20.fr h1f (by simp) (by simp)) (w19.fr h1f (by simp) (by simp)) ht ad1) lk_X0_182 hk0 (fun _ => rfl) rfl rfl rfl (by rw [hR]; exact ⟨Nat.le_of_ble_eq_true rfl, Nat.le_of_ble_eq_true rfl⟩) ⟨Nat.zero_le _, Nat.zero_le _⟩ rfl (Nat.le_of_ble_eq_true rfl) (atL dAX0_isProbable_0 54 rfl) (fun r2 s2 h2 => ?_)
      obtain ⟨h2a, ad2, h2f⟩ := h2
      show V X _ w _ _ s2 [.int (iI (r2))]
      refine v_if_ne hX h2a.r (tgt := 109) (atL dAX0_isProbable_0 55 rfl) (by decide) (fun h104 => ?_) (fun h104 => ?_)
      · have hw : wit n d t (bs k) := h2a.t (by omega)
        refine v_iinc hX (lv' := [(3, .int (iI (((k : Int)) + 1))), (0, .ref (w.1 7 0)), (1, .ref (w.1 3 i)), (2, .int (iI ((t : Int))))]) 0 rfl (iI_add _ _) (Nat.le_of_ble_eq_true rfl) rfl (atL dAX0_isProbable_0 58 rfl) ?_
        refine v_goto hX (tgt := 77) (atL dAX0_isProbable_0 59 rfl) (by decide) ?_
        refine v_sub (lv' := [(3, .int (iI (((k : Int)) + 1))), (0, .ref (w.1 7 0)), (1, .ref (w.1 3 i)), (2, .int (iI ((t : Int))))]) [0, 1, 2, 3] rfl ?_
        rw [show (k : Int) + 1 = ((k + 1 : Nat) : Int) by omega]
        exact ih (k + 1) s2 (by omega) (fun j hj => by by_cases e : j = k; subst e; exact hw; exact hn j (by omega)) ad2 ((w19.fr h1f (by simp) (by simp)).fr h2f (by simp) (by simp)) ((w20.fr h1f (by simp) (by simp)).fr h2f (by simp) (by simp)) ((hfr.tr' (h1f.mono (by simp))).tr' (h2f.mono (by simp)))
      · refine v_iconst hX (atL dAX0_isProbable_0 56 rfl) ?_
        exact v_zret hX (by decide +kernel) (atL dAX0_isProbable_0 57 rfl) (hret _ _ ⟨tf_n (fun ⟨_, hp⟩ => h2a.f (by omega) (hpo.mp hp k (by omega))), ad2, (hfr.tr' (h1f.mono (by simp))).tr' (h2f.mono (by simp))⟩)
  obtain ⟨u, hu, hu8, hud, htop, hval⟩ := id hN
  have hlow := pr_low hud htop hval
  refine v_aload_n hX 1 rfl (atL dAX0_isProbable_0 0 rfl) ?_
  refine gf_X0_89 hX (v := (u : Int)) (hu) hi (atL dAX0_isProbable_0 1 rfl) ?_
  refine v_iconst hX (atL dAX0_isProbable_0 2 rfl) ?_
  refine v_icmp_gt hX ⟨by omega, by omega⟩ ⟨by omega, by omega⟩ (tgt := 29) (atL dAX0_isProbable_0 3 rfl) (by decide) (fun h5 => ?_) (fun h5 => ?_)
  · refine v_aload_n hX 1 rfl (atL dAX0_isProbable_0 15 rfl) ?_
    have h37 : 37 < n := by first | omega | exact hlow.2.2 (by omega)
    refine v_callV hX (As := []) (rest := []) (c_X5_byteLength (xl X) w σ i n hi hN) lk_X0_165 hi (fun _ => rfl) rfl rfl rfl (by rw [hR]; exact ⟨Nat.le_of_ble_eq_true rfl, Nat.le_of_ble_eq_true rfl⟩) ⟨Nat.zero_le _, Nat.zero_le _⟩ rfl (Nat.le_of_ble_eq_true rfl) (atL dAX0_isProbable_0 16 rfl) (fun r4 s4 h4 => ?_)
    obtain ⟨h4a, h4b⟩ := h4
    rw [h4b]
    subst h4a
    have hb24 : blen n ≤ 2240 := blen_le hN.le
    show V X _ w _ _ σ [.int (iI (((blen n + 7) / 8 : Nat)))]
    refine v_bipush hX (by decide +kernel) (atL dAX0_isProbable_0 17 rfl) ?_
    refine v_icmp_gt hX ⟨by omega, by omega⟩ ⟨by omega, by omega⟩ (tgt := 45) (atL dAX0_isProbable_0 18 rfl) (by decide) (fun h35 => ?_) (fun h35 => ?_)
    · refine v_iconst hX (atL dAX0_isProbable_0 22 rfl) ?_
      exact v_zret hX (by decide +kernel) (atL dAX0_isProbable_0 23 rfl) (hret _ _ ⟨tf_n (fun ⟨h8, hp⟩ => by have := blen8.mpr h8; omega), hAD, Fr.rf⟩)
    · have hn5 : n < 2 ^ 512 := blen8.mp (by omega)
      refine v_aload_n hX 1 rfl (atL dAX0_isProbable_0 19 rfl) ?_
      refine v_callS hX (As := [.ref (w.1 3 i)]) (rest := []) (c_X0_hasBaseAsDivisor (xl X) w σ i n hi hN) lk_X0_168 rfl (by rw [hR]; exact ⟨Nat.le_of_ble_eq_true rfl, Nat.le_of_ble_eq_true rfl⟩) ⟨Nat.zero_le _, Nat.zero_le _⟩ rfl (Nat.le_of_ble_eq_true rfl) (atL dAX0_isProbable_0 20 rfl) (fun r5 s5 h5 => ?_)
      obtain ⟨h5a, h5b⟩ := h5
      rw [h5b]
      show V X _ w _ _ σ [.int (iI (r5))]
      refine v_if_eq hX h5a.r (tgt := 47) (atL dAX0_isProbable_0 21 rfl) (by decide) (fun h42 => ?_) (fun h42 => ?_)
      · have hnd : ∀ k, k < 12 → n % bs k ≠ 0 := fun k hk e => h5a.f (by omega) ⟨k, hk, e⟩
        have hodd : n % 2 = 1 := by have := hnd 0 (by omega); have e : bs 0 = 2 := rfl; rw [e] at this; omega
        refine v_aload_n hX 0 rfl (atL dAX0_isProbable_0 24 rfl) ?_
        refine gf_X0_55 hX hk0 (atL dAX0_isProbable_0 25 rfl) ?_
        refine v_aload_n hX 1 rfl (atL dAX0_isProbable_0 26 rfl) ?_
        refine v_callV hX (As := [.ref (w.1 3 i)]) (rest := []) (c_X5_setLess (xl X) w σ 19 (hD3 19 (by simp [mn, tp])) (hAD _) i n hi hN (by omega)) lk_X0_172 (hD3 19 (by simp [mn, tp])) (fun _ => rfl) rfl rfl rfl (by rw [hR]; exact ⟨Nat.le_of_ble_eq_true rfl, Nat.le_of_ble_eq_true rfl⟩) ⟨Nat.zero_le _, Nat.zero_le _⟩ rfl (Nat.le_of_ble_eq_true rfl) (atL dAX0_isProbable_0 27 rfl) (fun _ s6 h6 => ?_)
        obtain ⟨h6a, h6f⟩ := h6
        have ad6 := hAD.one h6f h6a
        show V X _ w _ _ s6 []
        refine v_aload_n hX 0 rfl (atL dAX0_isProbable_0 28 rfl) ?_
        refine gf_X0_55 hX hk0 (atL dAX0_isProbable_0 29 rfl) ?_
        refine v_callV hX (As := []) (rest := []) (c_X5_zeroBits (xl X) w s6 19 (n - 1) (hD3 19 (by simp [mn, tp])) h6a (by omega)) lk_X0_175 (hD3 19 (by simp [mn, tp])) (fun _ => rfl) rfl rfl rfl (by rw [hR]; exact ⟨Nat.le_of_ble_eq_true rfl, Nat.le_of_ble_eq_true rfl⟩) ⟨Nat.zero_le _, Nat.zero_le _⟩ rfl (Nat.le_of_ble_eq_true rfl) (atL dAX0_isProbable_0 30 rfl) (fun r7 s7 h7 => ?_)
        obtain ⟨t, h7a, h7b, h7c, h7d⟩ := h7
        rw [h7d]
        subst h7a
        have hzm := zb_mod h7c
        have hge : 2 ^ t ≤ n - 1 := Nat.le_of_dvd (by omega) (Nat.dvd_of_mod_eq_zero hzm)
        have ht5 : t < 512 := (Nat.pow_lt_pow_iff_right (a := 2) (by omega)).mp (by omega)
        have hdt : n - 1 = (n - 1) / 2 ^ t * 2 ^ t := (Nat.div_mul_cancel (Nat.dvd_of_mod_eq_zero hzm)).symm
        show V X _ w _ _ s6 [.int (iI ((t : Int)))]
        refine v_istore_n hX (i := 2) rfl (lv' := [(2, .int (iI ((t : Int)))), (0, .ref (w.1 7 0)), (1, .ref (w.1 3 i))]) (Nat.le_of_ble_eq_true rfl) rfl (atL dAX0_isProbable_0 31 rfl) ?_
        refine v_aload_n hX 1 rfl (atL dAX0_isProbable_0 32 rfl) ?_
        refine gf_X0_58 hX hk0 (atL dAX0_isProbable_0 33 rfl) ?_
        refine v_aload_n hX 1 rfl (atL dAX0_isProbable_0 34 rfl) ?_
        refine gf_X0_55 hX hk0 (atL dAX0_isProbable_0 35 rfl) ?_
        refine v_iload_n hX 0 rfl (atL dAX0_isProbable_0 36 rfl) ?_
        refine v_callV hX (As := [.ref (w.1 3 19), .int (iI ((t : Int)))]) (rest := []) (c_X5_shiftDown (xl X) w s6 20 (hD3 20 (by simp [mn, tp])) (ad6 _) 19 (n - 1) (hD3 19 (by simp [mn, tp])) h6a (by decide) t (by omega) (Or.inr hge)) lk_X0_86 (hD3 20 (by simp [mn, tp])) (fun _ => rfl) rfl rfl rfl (by rw [hR]; exact ⟨Nat.le_of_ble_eq_true rfl, Nat.le_of_ble_eq_true rfl⟩) ⟨Nat.zero_le _, Nat.zero_le _⟩ rfl (Nat.le_of_ble_eq_true rfl) (atL dAX0_isProbable_0 37 rfl) (fun _ s8 h8 => ?_)
        obtain ⟨h8a, h8f⟩ := h8
        have ad8 := ad6.one h8f h8a
        show V X _ w _ _ s8 []
        refine v_iconst hX (atL dAX0_isProbable_0 38 rfl) ?_
        refine v_istore_n hX (i := 3) rfl (lv' := [(3, .int (iI (0))), (2, .int (iI ((t : Int)))), (0, .ref (w.1 7 0)), (1, .ref (w.1 3 i))]) (Nat.le_of_ble_eq_true rfl) rfl (atL dAX0_isProbable_0 39 rfl) ?_
        refine v_sub (lv' := [(3, .int (iI (0))), (0, .ref (w.1 7 0)), (1, .ref (w.1 3 i)), (2, .int (iI ((t : Int))))]) [0, 2, 3, 1] rfl ?_
        exact loop t ((n - 1) / 2 ^ t) h37 hn5 hodd hdt h7b (by omega) 12 0 s8 (by omega) (fun j hj => absurd hj (by omega)) ad8 (h6a.fr h8f (by simp) (by simp)) h8a ((h6f.mono (by simp)).tr' (h8f.mono (by simp)))
      · refine v_iconst hX (atL dAX0_isProbable_0 22 rfl) ?_
        exact v_zret hX (by decide +kernel) (atL dAX0_isProbable_0 23 rfl) (hret _ _ ⟨tf_n (fun ⟨h8, hp⟩ => by obtain ⟨k, hk, e⟩ := h5a.t (by omega); exact prob_dvd h37 hk e hp), hAD, Fr.rf⟩)
  · refine v_aload_n hX 1 rfl (atL dAX0_isProbable_0 4 rfl) ?_
    refine v_iconst hX (atL dAX0_isProbable_0 5 rfl) ?_
    have hn28 := hlow.2.1 (by omega)
    refine v_callV hX (As := [.int (iI (0))]) (rest := []) (c_X5_limbAt (xl X) w σ i u hi hu hu8 0 ⟨by omega, by omega⟩) lk_X0_92 hi (fun _ => rfl) rfl rfl rfl (by rw [hR]; exact ⟨Nat.le_of_ble_eq_true rfl, Nat.le_of_ble_eq_true rfl⟩) ⟨Nat.zero_le _, Nat.zero_le _⟩ rfl (Nat.le_of_ble_eq_true rfl) (atL dAX0_isProbable_0 6 rfl) (fun r1 s1 h1 => ?_)
    obtain ⟨h1a, h1b⟩ := h1
    rw [h1b]
    obtain rfl : r1 = (n : Int) := h1a.trans (hlow.1 (by omega))
    show V X _ w _ _ σ [.long (jI ((n : Int)))]
    refine v_ldc2 hX (r := 37) wd_581 (by decide +kernel) (atL dAX0_isProbable_0 7 rfl) ?_
    refine v_lcmp_gt hX ⟨by omega, by omega⟩ ⟨by omega, by omega⟩ (atL dAX0_isProbable_0 8 rfl) (tgt := 29) (atL dAX0_isProbable_0 9 rfl) (by decide) (fun h16 => ?_) (fun h16 => ?_)
    · refine v_aload_n hX 1 rfl (atL dAX0_isProbable_0 15 rfl) ?_
      have h37 : 37 < n := by first | omega | exact hlow.2.2 (by omega)
      refine v_callV hX (As := []) (rest := []) (c_X5_byteLength (xl X) w σ i n hi hN) lk_X0_165 hi (fun _ => rfl) rfl rfl rfl (by rw [hR]; exact ⟨Nat.le_of_ble_eq_true rfl, Nat.le_of_ble_eq_true rfl⟩) ⟨Nat.zero_le _, Nat.zero_le _⟩ rfl (Nat.le_of_ble_eq_true rfl) (atL dAX0_isProbable_0 16 rfl) (fun r4 s4 h4 => ?_)
      obtain ⟨h4a, h4b⟩ := h4
      rw [h4b]
      subst h4a
      have hb24 : blen n ≤ 2240 := blen_le hN.le
      show V X _ w _ _ σ [.int (iI (((blen n + 7) / 8 : Nat)))]
      refine v_bipush hX (by decide +kernel) (atL dAX0_isProbable_0 17 rfl) ?_
      refine v_icmp_gt hX ⟨by omega, by omega⟩ ⟨by omega, by omega⟩ (tgt := 45) (atL dAX0_isProbable_0 18 rfl) (by decide) (fun h35 => ?_) (fun h35 => ?_)
      · refine v_iconst hX (atL dAX0_isProbable_0 22 rfl) ?_
        exact v_zret hX (by decide +kernel) (atL dAX0_isProbable_0 23 rfl) (hret _ _ ⟨tf_n (fun ⟨h8, hp⟩ => by have := blen8.mpr h8; omega), hAD, Fr.rf⟩)
      · have hn5 : n < 2 ^ 512 := blen8.mp (by omega)
        refine v_aload_n hX 1 rfl (atL dAX0_isProbable_0 19 rfl) ?_
        refine v_callS hX (As := [.ref (w.1 3 i)]) (rest := []) (c_X0_hasBaseAsDivisor (xl X) w σ i n hi hN) lk_X0_168 rfl (by rw [hR]; exact ⟨Nat.le_of_ble_eq_true rfl, Nat.le_of_ble_eq_true rfl⟩) ⟨Nat.zero_le _, Nat.zero_le _⟩ rfl (Nat.le_of_ble_eq_true rfl) (atL dAX0_isProbable_0 20 rfl) (fun r5 s5 h5 => ?_)
        obtain ⟨h5a, h5b⟩ := h5
        rw [h5b]
        show V X _ w _ _ σ [.int (iI (r5))]
        refine v_if_eq hX h5a.r (tgt := 47) (atL dAX0_isProbable_0 21 rfl) (by decide) (fun h42 => ?_) (fun h42 => ?_)
        · have hnd : ∀ k, k < 12 → n % bs k ≠ 0 := fun k hk e => h5a.f (by omega) ⟨k, hk, e⟩
          have hodd : n % 2 = 1 := by have := hnd 0 (by omega); have e : bs 0 = 2 := rfl; rw [e] at this; omega
          refine v_aload_n hX 0 rfl (atL dAX0_isProbable_0 24 rfl) ?_
          refine gf_X0_55 hX hk0 (atL dAX0_isProbable_0 25 rfl) ?_
          refine v_aload_n hX 1 rfl (atL dAX0_isProbable_0 26 rfl) ?_
          refine v_callV hX (As := [.ref (w.1 3 i)]) (rest := []) (c_X5_setLess (xl X) w σ 19 (hD3 19 (by simp [mn, tp])) (hAD _) i n hi hN (by omega)) lk_X0_172 (hD3 19 (by simp [mn, tp])) (fun _ => rfl) rfl rfl rfl (by rw [hR]; exact ⟨Nat.le_of_ble_eq_true rfl, Nat.le_of_ble_eq_true rfl⟩) ⟨Nat.zero_le _, Nat.zero_le _⟩ rfl (Nat.le_of_ble_eq_true rfl) (atL dAX0_isProbable_0 27 rfl) (fun _ s6 h6 => ?_)
          obtain ⟨h6a, h6f⟩ := h6
          have ad6 := hAD.one h6f h6a
          show V X _ w _ _ s6 []
          refine v_aload_n hX 0 rfl (atL dAX0_isProbable_0 28 rfl) ?_
          refine gf_X0_55 hX hk0 (atL dAX0_isProbable_0 29 rfl) ?_
          refine v_callV hX (As := []) (rest := []) (c_X5_zeroBits (xl X) w s6 19 (n - 1) (hD3 19 (by simp [mn, tp])) h6a (by omega)) lk_X0_175 (hD3 19 (by simp [mn, tp])) (fun _ => rfl) rfl rfl rfl (by rw [hR]; exact ⟨Nat.le_of_ble_eq_true rfl, Nat.le_of_ble_eq_true rfl⟩) ⟨Nat.zero_le _, Nat.zero_le _⟩ rfl (Nat.le_of_ble_eq_true rfl) (atL dAX0_isProbable_0 30 rfl) (fun r7 s7 h7 => ?_)
          obtain ⟨t, h7a, h7b, h7c, h7d⟩ := h7
          rw [h7d]
          subst h7a
          have hzm := zb_mod h7c
          have hge : 2 ^ t ≤ n - 1 := Nat.le_of_dvd (by omega) (Nat.dvd_of_mod_eq_zero hzm)
          have ht5 : t < 512 := (Nat.pow_lt_pow_iff_right (a := 2) (by omega)).mp (by omega)
          have hdt : n - 1 = (n - 1) / 2 ^ t * 2 ^ t := (Nat.div_mul_cancel (Nat.dvd_of_mod_eq_zero hzm)).symm
          show V X _ w _ _ s6 [.int (iI ((t : Int)))]
          refine v_istore_n hX (i := 2) rfl (lv' := [(2, .int (iI ((t : Int)))), (0, .ref (w.1 7 0)), (1, .ref (w.1 3 i))]) (Nat.le_of_ble_eq_true rfl) rfl (atL dAX0_isProbable_0 31 rfl) ?_
          refine v_aload_n hX 1 rfl (atL dAX0_isProbable_0 32 rfl) ?_
          refine gf_X0_58 hX hk0 (atL dAX0_isProbable_0 33 rfl) ?_
          refine v_aload_n hX 1 rfl (atL dAX0_isProbable_0 34 rfl) ?_
          refine gf_X0_55 hX hk0 (atL dAX0_isProbable_0 35 rfl) ?_
          refine v_iload_n hX 0 rfl (atL dAX0_isProbable_0 36 rfl) ?_
          refine v_callV hX (As := [.ref (w.1 3 19), .int (iI ((t : Int)))]) (rest := []) (c_X5_shiftDown (xl X) w s6 20 (hD3 20 (by simp [mn, tp])) (ad6 _) 19 (n - 1) (hD3 19 (by simp [mn, tp])) h6a (by decide) t (by omega) (Or.inr hge)) lk_X0_86 (hD3 20 (by simp [mn, tp])) (fun _ => rfl) rfl rfl rfl (by rw [hR]; exact ⟨Nat.le_of_ble_eq_true rfl, Nat.le_of_ble_eq_true rfl⟩) ⟨Nat.zero_le _, Nat.zero_le _⟩ rfl (Nat.le_of_ble_eq_true rfl) (atL dAX0_isProbable_0 37 rfl) (fun _ s8 h8 => ?_)
          obtain ⟨h8a, h8f⟩ := h8
          have ad8 := ad6.one h8f h8a
          show V X _ w _ _ s8 []
          refine v_iconst hX (atL dAX0_isProbable_0 38 rfl) ?_
          refine v_istore_n hX (i := 3) rfl (lv' := [(3, .int (iI (0))), (2, .int (iI ((t : Int)))), (0, .ref (w.1 7 0)), (1, .ref (w.1 3 i))]) (Nat.le_of_ble_eq_true rfl) rfl (atL dAX0_isProbable_0 39 rfl) ?_
          refine v_sub (lv' := [(3, .int (iI (0))), (0, .ref (w.1 7 0)), (1, .ref (w.1 3 i)), (2, .int (iI ((t : Int))))]) [0, 2, 3, 1] rfl ?_
          exact loop t ((n - 1) / 2 ^ t) h37 hn5 hodd hdt h7b (by omega) 12 0 s8 (by omega) (fun j hj => absurd hj (by omega)) ad8 (h6a.fr h8f (by simp) (by simp)) h8a ((h6f.mono (by simp)).tr' (h8f.mono (by simp)))
        · refine v_iconst hX (atL dAX0_isProbable_0 22 rfl) ?_
          exact v_zret hX (by decide +kernel) (atL dAX0_isProbable_0 23 rfl) (hret _ _ ⟨tf_n (fun ⟨h8, hp⟩ => by obtain ⟨k, hk, e⟩ := h5a.t (by omega); exact prob_dvd h37 hk e hp), hAD, Fr.rf⟩)
    · refine v_aload_n hX 1 rfl (atL dAX0_isProbable_0 10 rfl) ?_
      refine v_iconst hX (atL dAX0_isProbable_0 11 rfl) ?_
      refine v_callV hX (As := [.int (iI (0))]) (rest := []) (c_X5_limbAt (xl X) w σ i u hi hu hu8 0 ⟨by omega, by omega⟩) lk_X0_92 hi (fun _ => rfl) rfl rfl rfl (by rw [hR]; exact ⟨Nat.le_of_ble_eq_true rfl, Nat.le_of_ble_eq_true rfl⟩) ⟨Nat.zero_le _, Nat.zero_le _⟩ rfl (Nat.le_of_ble_eq_true rfl) (atL dAX0_isProbable_0 12 rfl) (fun r1 s1 h1 => ?_)
      obtain ⟨h1a, h1b⟩ := h1
      rw [h1b]
      obtain rfl : r1 = (n : Int) := h1a.trans (hlow.1 (by omega))
      show V X _ w _ _ σ [.long (jI ((n : Int)))]
      refine v_callS hX (As := [.long (jI ((n : Int)))]) (rest := []) (c_X0_isBase (xl X) w σ n (by omega)) lk_X0_161 rfl (by rw [hR]; exact ⟨Nat.le_of_ble_eq_true rfl, Nat.le_of_ble_eq_true rfl⟩) ⟨Nat.zero_le _, Nat.zero_le _⟩ rfl (Nat.le_of_ble_eq_true rfl) (atL dAX0_isProbable_0 13 rfl) (fun r3 s3 h3 => ?_)
      obtain ⟨h3a, h3b⟩ := h3
      rw [h3b]
      show V X _ w _ _ σ [.int (iI (r3))]
      exact v_zret hX h3a.zr (atL dAX0_isProbable_0 14 rfl) (hret _ _ ⟨h3a.iff ⟨fun h => ⟨Nat.lt_of_le_of_lt (show n ≤ 37 by omega) (by rw [show (512 : Nat) = 6 + 506 from rfl, Nat.pow_add]; have := Nat.two_pow_pos 506; omega), (prob_small (by omega)).mpr h⟩, fun h => (prob_small (by omega)).mp h.2⟩, hAD, Fr.rf⟩)
