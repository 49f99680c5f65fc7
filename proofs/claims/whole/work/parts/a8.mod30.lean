/-! the constants: roots of primes -/
def fA (s : St) (i : Nat) : Nat → Nat := fun j => (s 16 i j).toNat
def DA (s : St) (i : Nat) : Prop := ∀ j, 0 ≤ s 16 i j ∧ s 16 i j < 65536
theorem fA_lt {s : St} {i : Nat} (h : DA s i) (j : Nat) : fA s i j < 65536 := by have := h j; unfold fA; omega
theorem fA_su {s : St} {i m : Nat} {v : Int} {c : Nat} (hv : v = (c : Int)) : vB 65536 (fA (su s 16 i m v) i) (m + 1) = vB 65536 (fA s i) m + c * 65536 ^ m := by
  show vB 65536 (fA (su s 16 i m v) i) m + fA (su s 16 i m v) i m * 65536 ^ m = _
  rw [vB_congr (g := fA s i) (fun j hj => by unfold fA; rw [su_j (by omega)])]
  congr 2
  unfold fA
  rw [su_s]
  omega
theorem DA.su {s : St} {i m : Nat} {v : Int} (h : DA s i) (hv : 0 ≤ v ∧ v < 65536) : DA (su s 16 i m v) i := by
  intro j
  rw [su_e]
  split
  · exact hv
  · exact h j
theorem DA.fr {s t : St} {i : Nat} {l : List (Nat × Nat)} (h : DA s i) (f : Fr l s t) (hn : (16, i) ∉ l) : DA t i := by unfold DA; rw [f 16 i hn]; exact h
theorem fA_fr {s t : St} {i : Nat} {l : List (Nat × Nat)} (f : Fr l s t) (hn : (16, i) ∉ l) : fA t i = fA s i := by unfold fA; rw [f 16 i hn]
def RLs : List (Nat × Nat) := [(16, 4106), (16, 8202), (16, 12298), (16, 16394)]
theorem RLs_in {k i : Nat} (hk : k < 4) (hi : 10 + 4096 * (k + 1) = i) : (16, i) ∈ RLs := by
  subst hi
  rcases (show k = 0 ∨ k = 1 ∨ k = 2 ∨ k = 3 by omega) with rfl | rfl | rfl | rfl <;> decide
theorem mul_digit {X B0 A t d c i : Nat} (hX : X + c * 65536 ^ 10 = B0 + d * A * 65536 ^ i) (hB : B0 = t % 65536 ^ i * A) (hd : d = t / 65536 ^ i % 65536) (ht : t * A < 65536 ^ 10) (hXl : X < 65536 ^ 10) : X = t % 65536 ^ (i + 1) * A ∧ c = 0 := by
  have e : t % 65536 ^ (i + 1) * A = B0 + d * A * 65536 ^ i := by
    rw [Nat.mod_pow_succ, ← hd, Nat.add_mul, ← hB, Nat.mul_comm (65536 ^ i) d, Nat.mul_right_comm]
  have h1 : t % 65536 ^ (i + 1) * A ≤ t * A := Nat.mul_le_mul_right _ (Nat.mod_le _ _)
  rw [← e] at hX
  have hc : c = 0 := by
    rcases Nat.eq_zero_or_pos c with h | h
    · exact h
    · have : 65536 ^ 10 ≤ c * 65536 ^ 10 := Nat.le_mul_of_pos_left _ h
      omega
  subst hc
  exact ⟨by omega, rfl⟩
theorem pow37 {t k : Nat} (ht : t < 2 ^ 37) (hk : k ≤ 2) : t ^ k < 65536 ^ 5 := by
  have h1 : t ^ k ≤ (2 ^ 37) ^ k := Nat.pow_le_pow_left (Nat.le_of_lt ht) k
  have h2 : (2 ^ 37) ^ k ≤ (2 ^ 37) ^ 2 := Nat.pow_le_pow_right (by decide) hk
  have h3 : (2 ^ 37) ^ 2 < 65536 ^ 5 := by decide
  omega
theorem pow37b {t k : Nat} (ht : t < 2 ^ 37) (hk : k ≤ 2) : t * t ^ k < 65536 ^ 10 := by
  have h1 := pow37 ht hk
  have h2 : t * t ^ k ≤ 2 ^ 37 * 65536 ^ 5 := Nat.mul_le_mul (Nat.le_of_lt ht) (Nat.le_of_lt h1)
  have h3 : 2 ^ 37 * 65536 ^ 5 < 65536 ^ 10 := by decide
  omega
theorem p_of (n : Nat) : 2 ^ (32 * n) = 65536 ^ (2 * n) := by rw [n_p28]; congr 1; omega
theorem q_cmp {T L Q P M : Nat} (h : T = L + Q * M) (hL : L < M) : (Q < P → T ≤ P * M) ∧ (P < Q → ¬ T ≤ P * M) ∧ (Q = P → (L = 0 ↔ T ≤ P * M)) := by
  refine ⟨fun h1 => ?_, fun h1 h2 => ?_, fun h1 => ?_⟩
  · have h3 : (Q + 1) * M ≤ P * M := Nat.mul_le_mul_right _ h1
    rw [Nat.add_mul, Nat.one_mul] at h3
    omega
  · have h3 : (P + 1) * M ≤ Q * M := Nat.mul_le_mul_right _ h1
    rw [Nat.add_mul, Nat.one_mul] at h3
    omega
  · rw [h1] at h
    omega
/-- what the higher digits have told so far -/
def TPd (f : Nat → Nat) (o d : Nat) (t : Int) : Prop := (t = 0 ∧ ∀ q, o + d < q → q < 10 → f q = 0) ∨ (t = 1000000 ∧ ∃ q, o + d < q ∧ q < 10 ∧ f q ≠ 0)
theorem TPd.r {f : Nat → Nat} {o d : Nat} {t : Int} (h : TPd f o d t) : t = 0 ∨ t = 1000000 := by
  rcases h with ⟨h, -⟩ | ⟨h, -⟩
  · exact Or.inl h
  · exact Or.inr h
theorem TPd.no {f : Nat → Nat} {o d : Nat} {t : Int} (h : TPd f o (d + 1) t) (hz : f (o + (d + 1)) = 0) : TPd f o d t := by
  rcases h with ⟨h, g⟩ | ⟨h, q, g1, g2, g3⟩
  · refine Or.inl ⟨h, fun q h1 h2 => ?_⟩
    by_cases c : q = o + (d + 1)
    · rw [c]; exact hz
    · exact g q (by omega) h2
  · exact Or.inr ⟨h, q, by omega, g2, g3⟩
theorem TPd.yes {f : Nat → Nat} {o d : Nat} (hd : o + (d + 1) < 10) (hz : f (o + (d + 1)) ≠ 0) : TPd f o d 1000000 := Or.inr ⟨rfl, o + (d + 1), by omega, hd, hz⟩
theorem TPd.all {f : Nat → Nat} {o d : Nat} (hd : o + d = 9) : TPd f o d 0 := Or.inl ⟨rfl, fun q h1 h2 => by omega⟩
theorem top_q {f : Nat → Nat} {n Q u o : Nat} {t : Int} (hn : 1 ≤ n) (hQ : vB 65536 (fun j => f (o + j)) n = Q) (hu : f o = u) (h : (t = 0 ∧ ∀ j, 0 < j → j < n → f (o + j) = 0) ∨ (t = 1000000 ∧ ∃ j, 0 < j ∧ j < n ∧ f (o + j) ≠ 0)) : (t = 0 ∧ Q = u) ∨ (t = 1000000 ∧ 65536 ≤ Q) := by
  rcases h with ⟨a, b⟩ | ⟨a, j, b1, b2, b3⟩
  · refine Or.inl ⟨a, ?_⟩
    rw [← hQ, vB_zeros (u := 1) hn (fun j h1 h2 => b j h1 h2)]
    show 0 + f (o + 0) * 65536 ^ 0 = u
    rw [Nat.add_zero, hu, Nat.pow_zero]
    omega
  · refine Or.inr ⟨a, ?_⟩
    rw [← hQ]
    have e := vB_split (b := 65536) (f := fun j => f (o + j)) (k := j + 1) (n - (j + 1))
    rw [show j + 1 + (n - (j + 1)) = n by omega] at e
    rw [e]
    have h1 := vB_top (b := 65536) (f := fun j => f (o + j)) (n := j + 1) (by omega) b3
    have h2 : 65536 ^ 1 ≤ 65536 ^ (j + 1 - 1) := Nat.pow_le_pow_right (by omega) (by omega)
    omega
theorem TPd.top {f : Nat → Nat} {o Q u : Nat} {t : Int} (h : TPd f o 0 t) (ho : o ≤ 9) (hQ : vB 65536 (fun j => f (o + j)) (10 - o) = Q) (hu : f o = u) : (t = 0 ∧ Q = u) ∨ (t = 1000000 ∧ 65536 ≤ Q) := by
  refine top_q (n := 10 - o) (by omega) hQ hu ?_
  rcases h with ⟨h, g⟩ | ⟨h, q, g1, g2, g3⟩
  · exact Or.inl ⟨h, fun j h1 h2 => g (o + j) (by omega) (by omega)⟩
  · exact Or.inr ⟨h, q - o, by omega, by omega, by rw [show o + (q - o) = q by omega]; exact g3⟩

set_option maxHeartbeats 1000000 in
set_option maxRecDepth 100000 in
theorem c_X8_isAtMost (l : Launch) (w : Wl) (σ : St) (h19 : ∀ q, w.2 19 q → q < 4096) (t : Nat) (ht : t < 2 ^ 37) (p : Nat) (hp : p < 1000) (of : Nat) (hof : of = 2 ∨ of = 3) : Cm l yX8_isAtMost cX8_isAtMost 13 (Option.some Jvm.ClassFile.FieldType.boolean) 0 0 (of + 1) (10 * (of + 1)) wI [.long (jI ((t : Int))), .int (iI ((p : Int))), .int (iI ((of : Int)))] w σ (fun a σ' => tf a (t ^ of ≤ p * 2 ^ (32 * of)) ∧ Fr RLs σ σ') := by
  refine Cm.of (own := RX8) (lv := [(0, .long (jI ((t : Int)))), (2, .int (iI ((p : Int)))), (3, .int (iI ((of : Int))))]) (by decide +kernel) rfl (Nat.le_of_ble_eq_true rfl) rfl (fun X hX hxl hR hcl hret => ?_)
  subst hxl
  have hfcr : ∀ s : St, Fr RLs σ s → ∀ c, c ≠ 16 → s c = σ c := fun s hf c hc => funext fun i => hf c i (by intro q; simp [RLs] at q; omega)
  have LR : ∀ (wk : Wl) (s : St) (ia : Nat), ia % 4096 = 10 → Wle w wk → wk.2 19 ia → DA s ia → vB 65536 (fA s ia) 10 = t ^ of → Fr RLs σ s → ∀ (d q : Nat) (rs : Int), q + d = 2 * of → ((rs = 0 ∧ vB 65536 (fA s ia) q = 0) ∨ (rs = 1 ∧ vB 65536 (fA s ia) q ≠ 0)) → (vB 65536 (fA s ia) (2 * of) = 0 ↔ t ^ of ≤ p * 2 ^ (32 * of)) → V X (of + 1, 10 * (of + 1)) wk 304 [(7, .int (iI ((q : Int)))), (6, .int (iI (rs))), (5, .int (iI ((p : Int)))), (4, .ref (wk.1 19 ia)), (0, .long (jI ((t : Int)))), (2, .int (iI ((p : Int)))), (3, .int (iI ((of : Int))))] s [] := by
    intro wk s ia hia hwle hla hda hval hf
    have hfc := fun c hc => hfcr s hf c hc
    intro d
    induction d with
    | zero =>
      intro q rs hq hrs htop
      obtain rfl : q = 2 * of := by omega
      have hrr : rs = 0 ∨ rs = 1 := by rcases hrs with h | h <;> omega
      refine v_iload hX 0 rfl (atL dAX8_isAtMost_3 19 rfl) ?_
      refine v_iconst hX (atL dAX8_isAtMost_3 20 rfl) ?_
      refine v_iload_n hX 6 rfl (atL dAX8_isAtMost_3 21 rfl) ?_
      refine v_imul hX (iI_mul _ _) (atL dAX8_isAtMost_3 22 rfl) ?_
      refine v_icmp_ge hX ⟨by omega, by omega⟩ ⟨by omega, by omega⟩ (tgt := 338) (atL dAX8_isAtMost_3 23 rfl) (by decide) (fun h309 => ?_) (fun h309 => absurd h309 (by omega))
      refine v_iload hX 1 rfl (atL dAX8_isAtMost_3 36 rfl) ?_
      refine v_if_ne hX ⟨by omega, by omega⟩ (tgt := 347) (atL dAX8_isAtMost_3 37 rfl) (by decide) (fun h340 => ?_) (fun h340 => ?_)
      · refine v_iconst hX (atL dAX8_isAtMost_3 40 rfl) ?_
        exact v_zret hX (by decide +kernel) (atL dAX8_isAtMost_3 41 rfl) ((hret _ _ ⟨tf_n (fun z => (hrs.resolve_left (fun z => by omega)).2 (htop.mpr z)), hf⟩ _ ⟨Nat.le_refl _, Nat.le_refl _⟩).less hwle (fun k i h q hq => hcl k i h q (by rw [mn_congr (σ := σ) (hfc 6 (by decide)) (hfc 7 (by decide)) (hfc 21 (by decide))] at hq; exact hq)))
      · refine v_iconst hX (atL dAX8_isAtMost_3 38 rfl) ?_
        refine v_goto hX (tgt := 348) (atL dAX8_isAtMost_3 39 rfl) (by decide) ?_
        exact v_zret hX (by decide +kernel) (atL dAX8_isAtMost_3 41 rfl) ((hret _ _ ⟨tf_p (htop.mp (hrs.resolve_right (fun z => by omega)).2), hf⟩ _ ⟨Nat.le_refl _, Nat.le_refl _⟩).less hwle (fun k i h q hq => hcl k i h q (by rw [mn_congr (σ := σ) (hfc 6 (by decide)) (hfc 7 (by decide)) (hfc 21 (by decide))] at hq; exact hq)))
    | succ d ih =>
      intro q rs hq hrs htop
      have hrr : rs = 0 ∨ rs = 1 := by rcases hrs with h | h <;> omega
      have hdq := hda q
      have hPq : 0 < 65536 ^ q := Nat.pow_pos (by omega)
      have hstep : vB 65536 (fA s ia) (q + 1) = vB 65536 (fA s ia) q + fA s ia q * 65536 ^ q := rfl
      have hfq : (fA s ia q : Int) = s 16 ia q := by unfold fA; omega
      refine v_iload hX 0 rfl (atL dAX8_isAtMost_3 19 rfl) ?_
      refine v_iconst hX (atL dAX8_isAtMost_3 20 rfl) ?_
      refine v_iload_n hX 6 rfl (atL dAX8_isAtMost_3 21 rfl) ?_
      refine v_imul hX (iI_mul _ _) (atL dAX8_isAtMost_3 22 rfl) ?_
      refine v_icmp_ge hX ⟨by omega, by omega⟩ ⟨by omega, by omega⟩ (tgt := 338) (atL dAX8_isAtMost_3 23 rfl) (by decide) (fun h309 => absurd h309 (by omega)) (fun h309 => ?_)
      refine v_iload hX 1 rfl (atL dAX8_isAtMost_3 24 rfl) ?_
      refine v_if_ne hX ⟨by omega, by omega⟩ (tgt := 325) (atL dAX8_isAtMost_3 25 rfl) (by decide) (fun h314 => ?_) (fun h314 => ?_)
      · refine v_iconst hX (atL dAX8_isAtMost_3 30 rfl) ?_
        refine v_goto hX (tgt := 330) (atL dAX8_isAtMost_3 31 rfl) (by decide) ?_
        refine v_istore hX (lv' := [(6, .int (iI (1))), (7, .int (iI ((q : Int)))), (5, .int (iI ((p : Int)))), (4, .ref (wk.1 19 ia)), (0, .long (jI ((t : Int)))), (2, .int (iI ((p : Int)))), (3, .int (iI ((of : Int))))]) (Nat.le_of_ble_eq_true rfl) rfl (atL dAX8_isAtMost_3 33 rfl) ?_
        refine v_iinc hX (lv' := [(7, .int (iI (((q : Int)) + 1))), (6, .int (iI (1))), (5, .int (iI ((p : Int)))), (4, .ref (wk.1 19 ia)), (0, .long (jI ((t : Int)))), (2, .int (iI ((p : Int)))), (3, .int (iI ((of : Int))))]) 1 rfl (iI_add _ _) (Nat.le_of_ble_eq_true rfl) rfl (atL dAX8_isAtMost_3 34 rfl) ?_
        refine v_goto hX (tgt := 304) (atL dAX8_isAtMost_3 35 rfl) (by decide) ?_
        refine v_sub (lv' := [(7, .int (iI (((q : Int)) + 1))), (6, .int (iI (1))), (5, .int (iI ((p : Int)))), (4, .ref (wk.1 19 ia)), (0, .long (jI ((t : Int)))), (2, .int (iI ((p : Int)))), (3, .int (iI ((of : Int))))]) [0, 1, 2, 3, 4, 5, 6] rfl ?_
        rw [show (q : Int) + 1 = ((q + 1 : Nat) : Int) by omega]
        exact ih (q + 1) _ (by omega) (Or.inr ⟨rfl, by rw [hstep]; have := (hrs.resolve_left (fun z => by omega)).2; omega⟩) htop
      · refine v_aload hX 3 rfl (atL dAX8_isAtMost_3 26 rfl) ?_
        refine v_iload hX 0 rfl (atL dAX8_isAtMost_3 27 rfl) ?_
        refine v_iald hX (r := iI (s 16 ia q)) q hla (fun _ => rfl) rfl (show q < ia % 4096 by omega) (show ia % 4096 < 2147483648 by omega) (congrArg iI (rfl)) (atL dAX8_isAtMost_3 28 rfl) ?_
        refine v_if_le hX ⟨by omega, by omega⟩ (tgt := 329) (atL dAX8_isAtMost_3 29 rfl) (by decide) (fun h322 => ?_) (fun h322 => ?_)
        · refine v_iconst hX (atL dAX8_isAtMost_3 32 rfl) ?_
          refine v_istore hX (lv' := [(6, .int (iI (0))), (7, .int (iI ((q : Int)))), (5, .int (iI ((p : Int)))), (4, .ref (wk.1 19 ia)), (0, .long (jI ((t : Int)))), (2, .int (iI ((p : Int)))), (3, .int (iI ((of : Int))))]) (Nat.le_of_ble_eq_true rfl) rfl (atL dAX8_isAtMost_3 33 rfl) ?_
          refine v_iinc hX (lv' := [(7, .int (iI (((q : Int)) + 1))), (6, .int (iI (0))), (5, .int (iI ((p : Int)))), (4, .ref (wk.1 19 ia)), (0, .long (jI ((t : Int)))), (2, .int (iI ((p : Int)))), (3, .int (iI ((of : Int))))]) 1 rfl (iI_add _ _) (Nat.le_of_ble_eq_true rfl) rfl (atL dAX8_isAtMost_3 34 rfl) ?_
          refine v_goto hX (tgt := 304) (atL dAX8_isAtMost_3 35 rfl) (by decide) ?_
          refine v_sub (lv' := [(7, .int (iI (((q : Int)) + 1))), (6, .int (iI (0))), (5, .int (iI ((p : Int)))), (4, .ref (wk.1 19 ia)), (0, .long (jI ((t : Int)))), (2, .int (iI ((p : Int)))), (3, .int (iI ((of : Int))))]) [0, 1, 2, 3, 4, 5, 6] rfl ?_
          rw [show (q : Int) + 1 = ((q + 1 : Nat) : Int) by omega]
          exact ih (q + 1) _ (by omega) (Or.inl ⟨rfl, by rw [hstep, show fA s ia q = 0 by omega, Nat.zero_mul]; exact (hrs.resolve_right (fun z => by omega)).2⟩) htop
        · refine v_iconst hX (atL dAX8_isAtMost_3 30 rfl) ?_
          refine v_goto hX (tgt := 330) (atL dAX8_isAtMost_3 31 rfl) (by decide) ?_
          refine v_istore hX (lv' := [(6, .int (iI (1))), (7, .int (iI ((q : Int)))), (5, .int (iI ((p : Int)))), (4, .ref (wk.1 19 ia)), (0, .long (jI ((t : Int)))), (2, .int (iI ((p : Int)))), (3, .int (iI ((of : Int))))]) (Nat.le_of_ble_eq_true rfl) rfl (atL dAX8_isAtMost_3 33 rfl) ?_
          refine v_iinc hX (lv' := [(7, .int (iI (((q : Int)) + 1))), (6, .int (iI (1))), (5, .int (iI ((p : Int)))), (4, .ref (wk.1 19 ia)), (0, .long (jI ((t : Int)))), (2, .int (iI ((p : Int)))), (3, .int (iI ((of : Int))))]) 1 rfl (iI_add _ _) (Nat.le_of_ble_eq_true rfl) rfl (atL dAX8_isAtMost_3 34 rfl) ?_
          refine v_goto hX (tgt := 304) (atL dAX8_isAtMost_3 35 rfl) (by decide) ?_
          refine v_sub (lv' := [(7, .int (iI (((q : Int)) + 1))), (6, .int (iI (1))), (5, .int (iI ((p : Int)))), (4, .ref (wk.1 19 ia)), (0, .long (jI ((t : Int)))), (2, .int (iI ((p : Int)))), (3, .int (iI ((of : Int))))]) [0, 1, 2, 3, 4, 5, 6] rfl ?_
          rw [show (q : Int) + 1 = ((q + 1 : Nat) : Int) by omega]
          exact ih (q + 1) _ (by omega) (Or.inr ⟨rfl, by rw [hstep]; have := Nat.mul_pos (show 0 < fA s ia q by omega) hPq; omega⟩) htop
  have LT : ∀ (wk : Wl) (s : St) (ia : Nat), ia % 4096 = 10 → Wle w wk → wk.2 19 ia → DA s ia → vB 65536 (fA s ia) 10 = t ^ of → Fr RLs σ s → ∀ (d : Nat) (tp_ : Int), d ≤ 9 - 2 * of → TPd (fA s ia) (2 * of) d tp_ → V X (of + 1, 10 * (of + 1)) wk 222 [(6, .int (iI (((2 * of + d : Nat) : Int)))), (5, .int (iI (tp_))), (4, .ref (wk.1 19 ia)), (0, .long (jI ((t : Int)))), (2, .int (iI ((p : Int)))), (3, .int (iI ((of : Int))))] s [] := by
    intro wk s ia hia hwle hla hda hval hf
    have hfc := fun c hc => hfcr s hf c hc
    intro d
    induction d with
    | zero =>
      intro tp_ hd htp
      have htr := htp.r
      rw [Nat.add_zero]
      have hda2 := hda (2 * of)
      obtain ⟨u, hu⟩ : ∃ q, fA s ia (2 * of) = q := ⟨_, rfl⟩
      have hsu : s 16 ia (2 * of) = (u : Int) := by rw [← hu]; unfold fA; omega
      have hul : u < 65536 := by rw [← hu]; exact fA_lt hda _
      obtain ⟨Q, hQ⟩ : ∃ q, vB 65536 (fun j => fA s ia (2 * of + j)) (10 - 2 * of) = q := ⟨_, rfl⟩
      have hsp := vB_split (b := 65536) (f := fA s ia) (k := 2 * of) (10 - 2 * of)
      rw [show 2 * of + (10 - 2 * of) = 10 by omega, hval, hQ, ← p_of of] at hsp
      have hlow : vB 65536 (fA s ia) (2 * of) < 65536 ^ (2 * of) := vB_lt (fun j _ => fA_lt hda j)
      rw [← p_of of] at hlow
      obtain ⟨hc1, hc2, hc3⟩ := q_cmp (P := p) hsp hlow
      have htop := htp.top (by omega) hQ hu
      have hval2 := hval
      clear hsp hlow hval
      refine v_iload hX 0 rfl (atL dAX8_isAtMost_2 34 rfl) ?_
      refine v_iconst hX (atL dAX8_isAtMost_2 35 rfl) ?_
      refine v_iload_n hX 5 rfl (atL dAX8_isAtMost_2 36 rfl) ?_
      refine v_imul hX (iI_mul _ _) (atL dAX8_isAtMost_2 37 rfl) ?_
      refine v_icmp_lt hX ⟨by omega, by omega⟩ ⟨by omega, by omega⟩ (tgt := 280) (atL dAX8_isAtMost_2 38 rfl) (by decide) (fun h227 => absurd h227 (by omega)) (fun h227 => ?_)
      refine v_iload hX 0 rfl (atL dAX8_isAtMost_2 39 rfl) ?_
      refine v_iconst hX (atL dAX8_isAtMost_2 40 rfl) ?_
      refine v_iload_n hX 5 rfl (atL dAX8_isAtMost_2 41 rfl) ?_
      refine v_imul hX (iI_mul _ _) (atL dAX8_isAtMost_2 42 rfl) ?_
      refine v_icmp_le hX ⟨by omega, by omega⟩ ⟨by omega, by omega⟩ (tgt := 252) (atL dAX8_isAtMost_2 43 rfl) (by decide) (fun h235 => ?_) (fun h235 => absurd h235 (by omega))
      refine v_iload hX 1 rfl (atL dAX8_isAtMost_2 50 rfl) ?_
      refine v_iload hX 0 rfl (atL dAX8_isAtMost_2 51 rfl) ?_
      refine v_iconst hX (atL dAX8_isAtMost_2 52 rfl) ?_
      refine v_iload_n hX 5 rfl (atL dAX8_isAtMost_2 53 rfl) ?_
      refine v_imul hX (iI_mul _ _) (atL dAX8_isAtMost_2 54 rfl) ?_
      refine v_icmp_ne hX ⟨by omega, by omega⟩ ⟨by omega, by omega⟩ (tgt := 270) (atL dAX8_isAtMost_2 55 rfl) (by decide) (fun h259 => absurd h259 (by omega)) (fun h259 => ?_)
      refine v_aload hX 2 rfl (atL dAX8_isAtMost_2 56 rfl) ?_
      refine v_iload hX 0 rfl (atL dAX8_isAtMost_2 57 rfl) ?_
      refine v_iald hX (r := iI ((u : Int))) ((2 * of)) hla (fun _ => rfl) (by omega) (show 2 * of < ia % 4096 by omega) (show ia % 4096 < 2147483648 by omega) (congrArg iI hsu) (atL dAX8_isAtMost_2 58 rfl) ?_
      refine v_goto hX (tgt := 271) (atL dAX8_isAtMost_2 59 rfl) (by decide) ?_
      refine v_iadd hX (iI_add _ _) (atL dAX8_isAtMost_3 1 rfl) ?_
      refine v_istore hX (lv' := [(5, .int (iI (tp_ + ((u : Int))))), (6, .int (iI (((2 * of : Nat) : Int)))), (4, .ref (wk.1 19 ia)), (0, .long (jI ((t : Int)))), (2, .int (iI ((p : Int)))), (3, .int (iI ((of : Int))))]) (Nat.le_of_ble_eq_true rfl) rfl (atL dAX8_isAtMost_3 2 rfl) ?_
      refine v_iinc hX (lv' := [(6, .int (iI ((((2 * of : Nat) : Int)) + (-1)))), (5, .int (iI (tp_ + ((u : Int))))), (4, .ref (wk.1 19 ia)), (0, .long (jI ((t : Int)))), (2, .int (iI ((p : Int)))), (3, .int (iI ((of : Int))))]) 1 rfl (iI_add _ _) (Nat.le_of_ble_eq_true rfl) rfl (atL dAX8_isAtMost_3 3 rfl) ?_
      refine v_goto hX (tgt := 222) (atL dAX8_isAtMost_3 4 rfl) (by decide) ?_
      refine v_iload hX 0 rfl (atL dAX8_isAtMost_2 34 rfl) ?_
      refine v_iconst hX (atL dAX8_isAtMost_2 35 rfl) ?_
      refine v_iload_n hX 5 rfl (atL dAX8_isAtMost_2 36 rfl) ?_
      refine v_imul hX (iI_mul _ _) (atL dAX8_isAtMost_2 37 rfl) ?_
      refine v_icmp_lt hX ⟨by omega, by omega⟩ ⟨by omega, by omega⟩ (tgt := 280) (atL dAX8_isAtMost_2 38 rfl) (by decide) (fun h227 => ?_) (fun h227 => absurd h227 (by omega))
      refine v_iload hX 1 rfl (atL dAX8_isAtMost_3 5 rfl) ?_
      refine v_iload_n hX 4 rfl (atL dAX8_isAtMost_3 6 rfl) ?_
      refine v_icmp_eq hX ⟨by omega, by omega⟩ ⟨by omega, by omega⟩ (tgt := 298) (atL dAX8_isAtMost_3 7 rfl) (by decide) (fun h283 => ?_) (fun h283 => ?_)
      · refine v_iconst hX (atL dAX8_isAtMost_3 15 rfl) ?_
        refine v_istore hX (lv' := [(6, .int (iI (0))), (5, .int (iI (tp_ + ((u : Int))))), (4, .ref (wk.1 19 ia)), (0, .long (jI ((t : Int)))), (2, .int (iI ((p : Int)))), (3, .int (iI ((of : Int))))]) (Nat.le_of_ble_eq_true rfl) rfl (atL dAX8_isAtMost_3 16 rfl) ?_
        refine v_iconst hX (atL dAX8_isAtMost_3 17 rfl) ?_
        refine v_istore hX (lv' := [(7, .int (iI (0))), (6, .int (iI (0))), (5, .int (iI (tp_ + ((u : Int))))), (4, .ref (wk.1 19 ia)), (0, .long (jI ((t : Int)))), (2, .int (iI ((p : Int)))), (3, .int (iI ((of : Int))))]) (Nat.le_of_ble_eq_true rfl) rfl (atL dAX8_isAtMost_3 18 rfl) ?_
        refine v_sub (lv' := [(7, .int (iI (0))), (6, .int (iI (0))), (5, .int (iI (tp_ + ((u : Int))))), (4, .ref (wk.1 19 ia)), (0, .long (jI ((t : Int)))), (2, .int (iI ((p : Int)))), (3, .int (iI ((of : Int))))]) [0, 1, 2, 3, 4, 5, 6] rfl ?_
        rw [show tp_ + ((u : Int)) = (p : Int) by omega]
        exact LR wk s ia hia hwle hla hda hval2 hf (2 * of) 0 0 (by omega) (Or.inl ⟨rfl, rfl⟩) (hc3 (by omega))
      · refine v_iload hX 1 rfl (atL dAX8_isAtMost_3 8 rfl) ?_
        refine v_iload_n hX 4 rfl (atL dAX8_isAtMost_3 9 rfl) ?_
        refine v_icmp_ge hX ⟨by omega, by omega⟩ ⟨by omega, by omega⟩ (tgt := 296) (atL dAX8_isAtMost_3 10 rfl) (by decide) (fun h289 => ?_) (fun h289 => ?_)
        · refine v_iconst hX (atL dAX8_isAtMost_3 13 rfl) ?_
          exact v_zret hX (by decide +kernel) (atL dAX8_isAtMost_3 14 rfl) ((hret _ _ ⟨tf_n (hc2 (by omega)), hf⟩ _ ⟨Nat.le_refl _, Nat.le_refl _⟩).less hwle (fun k i h q hq => hcl k i h q (by rw [mn_congr (σ := σ) (hfc 6 (by decide)) (hfc 7 (by decide)) (hfc 21 (by decide))] at hq; exact hq)))
        · refine v_iconst hX (atL dAX8_isAtMost_3 11 rfl) ?_
          refine v_goto hX (tgt := 297) (atL dAX8_isAtMost_3 12 rfl) (by decide) ?_
          exact v_zret hX (by decide +kernel) (atL dAX8_isAtMost_3 14 rfl) ((hret _ _ ⟨tf_p (hc1 (by omega)), hf⟩ _ ⟨Nat.le_refl _, Nat.le_refl _⟩).less hwle (fun k i h q hq => hcl k i h q (by rw [mn_congr (σ := σ) (hfc 6 (by decide)) (hfc 7 (by decide)) (hfc 21 (by decide))] at hq; exact hq)))
    | succ d ih =>
      intro tp_ hd htp
      have htr := htp.r
      have hdq := hda (2 * of + (d + 1))
      have hfq : (fA s ia (2 * of + (d + 1)) : Int) = s 16 ia (2 * of + (d + 1)) := by unfold fA; omega
      refine v_iload hX 0 rfl (atL dAX8_isAtMost_2 34 rfl) ?_
      refine v_iconst hX (atL dAX8_isAtMost_2 35 rfl) ?_
      refine v_iload_n hX 5 rfl (atL dAX8_isAtMost_2 36 rfl) ?_
      refine v_imul hX (iI_mul _ _) (atL dAX8_isAtMost_2 37 rfl) ?_
      refine v_icmp_lt hX ⟨by omega, by omega⟩ ⟨by omega, by omega⟩ (tgt := 280) (atL dAX8_isAtMost_2 38 rfl) (by decide) (fun h227 => absurd h227 (by omega)) (fun h227 => ?_)
      refine v_iload hX 0 rfl (atL dAX8_isAtMost_2 39 rfl) ?_
      refine v_iconst hX (atL dAX8_isAtMost_2 40 rfl) ?_
      refine v_iload_n hX 5 rfl (atL dAX8_isAtMost_2 41 rfl) ?_
      refine v_imul hX (iI_mul _ _) (atL dAX8_isAtMost_2 42 rfl) ?_
      refine v_icmp_le hX ⟨by omega, by omega⟩ ⟨by omega, by omega⟩ (tgt := 252) (atL dAX8_isAtMost_2 43 rfl) (by decide) (fun h235 => absurd h235 (by omega)) (fun h235 => ?_)
      refine v_aload hX 2 rfl (atL dAX8_isAtMost_2 44 rfl) ?_
      refine v_iload hX 0 rfl (atL dAX8_isAtMost_2 45 rfl) ?_
      refine v_iald hX (r := iI (s 16 ia ((2 * of + (d + 1))))) ((2 * of + (d + 1))) hla (fun _ => rfl) rfl (show 2 * of + (d + 1) < ia % 4096 by omega) (show ia % 4096 < 2147483648 by omega) (congrArg iI (rfl)) (atL dAX8_isAtMost_2 46 rfl) ?_
      refine v_if_le hX ⟨by omega, by omega⟩ (tgt := 252) (atL dAX8_isAtMost_2 47 rfl) (by decide) (fun h243 => ?_) (fun h243 => ?_)
      · refine v_iload hX 1 rfl (atL dAX8_isAtMost_2 50 rfl) ?_
        refine v_iload hX 0 rfl (atL dAX8_isAtMost_2 51 rfl) ?_
        refine v_iconst hX (atL dAX8_isAtMost_2 52 rfl) ?_
        refine v_iload_n hX 5 rfl (atL dAX8_isAtMost_2 53 rfl) ?_
        refine v_imul hX (iI_mul _ _) (atL dAX8_isAtMost_2 54 rfl) ?_
        refine v_icmp_ne hX ⟨by omega, by omega⟩ ⟨by omega, by omega⟩ (tgt := 270) (atL dAX8_isAtMost_2 55 rfl) (by decide) (fun h259 => ?_) (fun h259 => absurd h259 (by omega))
        refine v_iconst hX (atL dAX8_isAtMost_3 0 rfl) ?_
        refine v_iadd hX (iI_add _ _) (atL dAX8_isAtMost_3 1 rfl) ?_
        refine v_istore hX (lv' := [(5, .int (iI (tp_ + 0))), (6, .int (iI (((2 * of + (d + 1) : Nat) : Int)))), (4, .ref (wk.1 19 ia)), (0, .long (jI ((t : Int)))), (2, .int (iI ((p : Int)))), (3, .int (iI ((of : Int))))]) (Nat.le_of_ble_eq_true rfl) rfl (atL dAX8_isAtMost_3 2 rfl) ?_
        refine v_iinc hX (lv' := [(6, .int (iI ((((2 * of + (d + 1) : Nat) : Int)) + (-1)))), (5, .int (iI (tp_ + 0))), (4, .ref (wk.1 19 ia)), (0, .long (jI ((t : Int)))), (2, .int (iI ((p : Int)))), (3, .int (iI ((of : Int))))]) 1 rfl (iI_add _ _) (Nat.le_of_ble_eq_true rfl) rfl (atL dAX8_isAtMost_3 3 rfl) ?_
        refine v_goto hX (tgt := 222) (atL dAX8_isAtMost_3 4 rfl) (by decide) ?_
        refine v_sub (lv' := [(6, .int (iI ((((2 * of + (d + 1) : Nat) : Int)) + (-1)))), (5, .int (iI (tp_ + 0))), (4, .ref (wk.1 19 ia)), (0, .long (jI ((t : Int)))), (2, .int (iI ((p : Int)))), (3, .int (iI ((of : Int))))]) [0, 1, 2, 3, 4, 5] rfl ?_
        rw [show ((2 * of + (d + 1) : Nat) : Int) + (-1) = ((2 * of + d : Nat) : Int) by omega]
        exact ih _ (by omega) (by rw [show tp_ + 0 = tp_ by omega]; exact htp.no (by omega))
      · refine v_ldcw hX (r := 1000000) wd_1336 (by decide +kernel) (atL dAX8_isAtMost_2 48 rfl) ?_
        refine v_goto hX (tgt := 272) (atL dAX8_isAtMost_2 49 rfl) (by decide) ?_
        refine v_istore hX (lv' := [(5, .int (iI (1000000))), (6, .int (iI (((2 * of + (d + 1) : Nat) : Int)))), (4, .ref (wk.1 19 ia)), (0, .long (jI ((t : Int)))), (2, .int (iI ((p : Int)))), (3, .int (iI ((of : Int))))]) (Nat.le_of_ble_eq_true rfl) rfl (atL dAX8_isAtMost_3 2 rfl) ?_
        refine v_iinc hX (lv' := [(6, .int (iI ((((2 * of + (d + 1) : Nat) : Int)) + (-1)))), (5, .int (iI (1000000))), (4, .ref (wk.1 19 ia)), (0, .long (jI ((t : Int)))), (2, .int (iI ((p : Int)))), (3, .int (iI ((of : Int))))]) 1 rfl (iI_add _ _) (Nat.le_of_ble_eq_true rfl) rfl (atL dAX8_isAtMost_3 3 rfl) ?_
        refine v_goto hX (tgt := 222) (atL dAX8_isAtMost_3 4 rfl) (by decide) ?_
        refine v_sub (lv' := [(6, .int (iI ((((2 * of + (d + 1) : Nat) : Int)) + (-1)))), (5, .int (iI (1000000))), (4, .ref (wk.1 19 ia)), (0, .long (jI ((t : Int)))), (2, .int (iI ((p : Int)))), (3, .int (iI ((of : Int))))]) [0, 1, 2, 3, 4, 5] rfl ?_
        rw [show ((2 * of + (d + 1) : Nat) : Int) + (-1) = ((2 * of + d : Nat) : Int) by omega]
        exact ih _ (by omega) (TPd.yes (by omega) (by omega))
  have LJ : ∀ (k : Nat) (wb : Wl) (ia ib : Nat), k < of → 10 + 4096 * (k + 1) = ia → 10 + 4096 * (k + 2) = ib → Wle w wb → wb.2 19 ia → wb.2 19 ib → (∀ q, wb.2 19 q → q < 4096 * (k + 3)) → ∀ (i dg : Nat) (s : St), i < 3 → dg < 65536 → DA s ia → DA s ib → (∀ (c : Nat) (s2 : St), DA s2 ib → Fr [(16, ib)] s s2 → vB 65536 (fA s2 ib) 10 + c * 65536 ^ 10 = vB 65536 (fA s ib) 10 + dg * vB 65536 (fA s ia) (10 - i) * 65536 ^ i → V X (k + 1 + 1, 10 * (k + 1) + 10) wb 199 [(7, .int (iI ((i : Int)))), (6, .ref (wb.1 19 ib)), (5, .int (iI ((k : Int)))), (4, .ref (wb.1 19 ia)), (0, .long (jI ((t : Int)))), (2, .int (iI ((p : Int)))), (3, .int (iI ((of : Int))))] s2 []) → ∀ (d j c : Nat) (t1 : St), i + j + d = 10 → c < 65536 → DA t1 ib → Fr [(16, ib)] s t1 → (∀ q, i + j ≤ q → t1 16 ib q = s 16 ib q) → vB 65536 (fA t1 ib) (i + j) + c * 65536 ^ (i + j) = vB 65536 (fA s ib) (i + j) + dg * vB 65536 (fA s ia) j * 65536 ^ i → V X (k + 1 + 1, 10 * (k + 1) + 10) wb 137 [(12, .int (iI ((j : Int)))), (10, .long (jI ((c : Int)))), (8, .long (jI ((dg : Int)))), (7, .int (iI ((i : Int)))), (6, .ref (wb.1 19 ib)), (5, .int (iI ((k : Int)))), (4, .ref (wb.1 19 ia)), (0, .long (jI ((t : Int)))), (2, .int (iI ((p : Int)))), (3, .int (iI ((of : Int))))] t1 [] := by
    intro k wb ia ib hko hia hib hwle hla hlb h19b
    intro i dg s hi hdgl hda hdb kk d
    induction d with
    | zero =>
      intro j c t1 hj hc hdt hft hrest hval
      refine v_iload hX 3 rfl (atL dAX8_isAtMost_1 48 rfl) ?_
      refine v_iload hX 0 rfl (atL dAX8_isAtMost_1 49 rfl) ?_
      refine v_iadd hX (iI_add _ _) (atL dAX8_isAtMost_1 50 rfl) ?_
      refine v_bipush hX (by decide +kernel) (atL dAX8_isAtMost_1 51 rfl) ?_
      refine v_icmp_ge hX ⟨by omega, by omega⟩ ⟨by omega, by omega⟩ (tgt := 199) (atL dAX8_isAtMost_1 52 rfl) (by decide) (fun h144 => ?_) (fun h144 => absurd h144 (by omega))
      refine v_sub (lv' := [(7, .int (iI ((i : Int)))), (6, .ref (wb.1 19 ib)), (5, .int (iI ((k : Int)))), (4, .ref (wb.1 19 ia)), (0, .long (jI ((t : Int)))), (2, .int (iI ((p : Int)))), (3, .int (iI ((of : Int))))]) [3, 4, 5, 6, 7, 8, 9] rfl ?_
      exact kk c t1 hdt hft (by rw [show 10 = i + j by omega, show i + j - i = j by omega]; exact hval)
    | succ d ih =>
      intro j c t1 hj hc hdt hft hrest hval
      have hda1 : DA t1 ia := hda.fr hft (by simp; omega)
      have hxa := hda1 j
      have hxb := hdt (i + j)
      obtain ⟨x, hx⟩ : ∃ q, fA s ia j = q := ⟨_, rfl⟩
      obtain ⟨y, hy⟩ : ∃ q, fA s ib (i + j) = q := ⟨_, rfl⟩
      have hx1 : t1 16 ia j = (x : Int) := by rw [hft 16 ia (by simp; omega), ← hx]; have := hda j; unfold fA; omega
      have hy1 : t1 16 ib (i + j) = (y : Int) := by rw [hrest _ (Nat.le_refl _), ← hy]; have := hdb (i + j); unfold fA; omega
      have hxl : x < 65536 := by rw [← hx]; exact fA_lt hda j
      have hyl : y < 65536 := by rw [← hy]; exact fA_lt hdb _
      obtain ⟨m, hm⟩ : ∃ q, dg * x = q := ⟨_, rfl⟩
      have hml : m ≤ 65535 * 65535 := by rw [← hm]; exact Nat.mul_le_mul (by omega) (by omega)
      obtain ⟨T, hT⟩ : ∃ q, c + (m + y) = q := ⟨_, rfl⟩
      refine v_iload hX 3 rfl (atL dAX8_isAtMost_1 48 rfl) ?_
      refine v_iload hX 0 rfl (atL dAX8_isAtMost_1 49 rfl) ?_
      refine v_iadd hX (iI_add _ _) (atL dAX8_isAtMost_1 50 rfl) ?_
      refine v_bipush hX (by decide +kernel) (atL dAX8_isAtMost_1 51 rfl) ?_
      refine v_icmp_ge hX ⟨by omega, by omega⟩ ⟨by omega, by omega⟩ (tgt := 199) (atL dAX8_isAtMost_1 52 rfl) (by decide) (fun h144 => absurd h144 (by omega)) (fun h144 => ?_)
      refine v_lload hX 1 rfl (atL dAX8_isAtMost_1 53 rfl) ?_
      refine v_lload hX 2 rfl (atL dAX8_isAtMost_1 54 rfl) ?_
      refine v_aload hX 6 rfl (atL dAX8_isAtMost_1 55 rfl) ?_
      refine v_iload hX 0 rfl (atL dAX8_isAtMost_1 56 rfl) ?_
      refine v_iald hX (r := iI ((x : Int))) j hla (fun _ => rfl) rfl (show j < ia % 4096 by omega) (show ia % 4096 < 2147483648 by omega) (congrArg iI hx1) (atL dAX8_isAtMost_1 57 rfl) ?_
      refine v_i2l hX (iI_i2l ⟨by omega, by omega⟩) (atL dAX8_isAtMost_1 58 rfl) ?_
      refine v_lmul hX (jI_mul _ _) (atL dAX8_isAtMost_1 59 rfl) ?_
      rw [show (((dg : Int)) * ((x : Int))) = (m : Int) from (by rw [← hm, Int.natCast_mul])]
      refine v_aload hX 4 rfl (atL dAX8_isAtMost_2 0 rfl) ?_
      refine v_iload hX 3 rfl (atL dAX8_isAtMost_2 1 rfl) ?_
      refine v_iload hX 0 rfl (atL dAX8_isAtMost_2 2 rfl) ?_
      refine v_iadd hX (iI_add _ _) (atL dAX8_isAtMost_2 3 rfl) ?_
      refine v_iald hX (r := iI ((y : Int))) ((i + j)) hlb (fun _ => rfl) (by omega) (show i + j < ib % 4096 by omega) (show ib % 4096 < 2147483648 by omega) (congrArg iI hy1) (atL dAX8_isAtMost_2 4 rfl) ?_
      refine v_i2l hX (iI_i2l ⟨by omega, by omega⟩) (atL dAX8_isAtMost_2 5 rfl) ?_
      refine v_ladd hX (jI_add _ _) (atL dAX8_isAtMost_2 6 rfl) ?_
      refine v_ladd hX (jI_add _ _) (atL dAX8_isAtMost_2 7 rfl) ?_
      rw [show (((c : Int)) + (((m : Int)) + ((y : Int)))) = (T : Int) from (by omega)]
      refine v_lstore hX (lv' := [(10, .long (jI ((T : Int)))), (12, .int (iI ((j : Int)))), (8, .long (jI ((dg : Int)))), (7, .int (iI ((i : Int)))), (6, .ref (wb.1 19 ib)), (5, .int (iI ((k : Int)))), (4, .ref (wb.1 19 ia)), (0, .long (jI ((t : Int)))), (2, .int (iI ((p : Int)))), (3, .int (iI ((of : Int))))]) (Nat.le_of_ble_eq_true rfl) rfl (atL dAX8_isAtMost_2 8 rfl) ?_
      refine v_aload hX 4 rfl (atL dAX8_isAtMost_2 9 rfl) ?_
      refine v_iload hX 3 rfl (atL dAX8_isAtMost_2 10 rfl) ?_
      refine v_iload hX 1 rfl (atL dAX8_isAtMost_2 11 rfl) ?_
      refine v_iadd hX (iI_add _ _) (atL dAX8_isAtMost_2 12 rfl) ?_
      refine v_lload hX 0 rfl (atL dAX8_isAtMost_2 13 rfl) ?_
      refine v_ldc2 hX (r := 65535) wd_1231 (by decide +kernel) (atL dAX8_isAtMost_2 14 rfl) ?_
      refine v_land hX (r := jI (((T : Int)) % 65536)) (jI_mask _ 16 (by decide)) (atL dAX8_isAtMost_2 15 rfl) ?_
      refine v_l2i hX (jI_l2i _) (atL dAX8_isAtMost_2 16 rfl) ?_
      refine v_iast hX (c := 16) ((i + j)) hlb (by decide) (fun _ _ => rfl) (by omega) (show i + j < ib % 4096 by omega) (show ib % 4096 < 2147483648 by omega) (atL dAX8_isAtMost_2 17 rfl) ?_
      refine v_lload hX 0 rfl (atL dAX8_isAtMost_2 18 rfl) ?_
      refine v_bipush hX (by decide +kernel) (atL dAX8_isAtMost_2 19 rfl) ?_
      refine v_lshr hX (r := jI (((T : Int)) / 65536)) (jI_shr ⟨by omega, by omega⟩ 16 (by decide)) (atL dAX8_isAtMost_2 20 rfl) ?_
      refine v_lstore hX (lv' := [(10, .long (jI (((T : Int)) / 65536))), (12, .int (iI ((j : Int)))), (8, .long (jI ((dg : Int)))), (7, .int (iI ((i : Int)))), (6, .ref (wb.1 19 ib)), (5, .int (iI ((k : Int)))), (4, .ref (wb.1 19 ia)), (0, .long (jI ((t : Int)))), (2, .int (iI ((p : Int)))), (3, .int (iI ((of : Int))))]) (Nat.le_of_ble_eq_true rfl) rfl (atL dAX8_isAtMost_2 21 rfl) ?_
      refine v_iinc hX (lv' := [(12, .int (iI (((j : Int)) + 1))), (10, .long (jI (((T : Int)) / 65536))), (8, .long (jI ((dg : Int)))), (7, .int (iI ((i : Int)))), (6, .ref (wb.1 19 ib)), (5, .int (iI ((k : Int)))), (4, .ref (wb.1 19 ia)), (0, .long (jI ((t : Int)))), (2, .int (iI ((p : Int)))), (3, .int (iI ((of : Int))))]) 1 rfl (iI_add _ _) (Nat.le_of_ble_eq_true rfl) rfl (atL dAX8_isAtMost_2 22 rfl) ?_
      refine v_goto hX (tgt := 137) (atL dAX8_isAtMost_2 23 rfl) (by decide) ?_
      refine v_sub (lv' := [(12, .int (iI (((j : Int)) + 1))), (10, .long (jI (((T : Int)) / 65536))), (8, .long (jI ((dg : Int)))), (7, .int (iI ((i : Int)))), (6, .ref (wb.1 19 ib)), (5, .int (iI ((k : Int)))), (4, .ref (wb.1 19 ia)), (0, .long (jI ((t : Int)))), (2, .int (iI ((p : Int)))), (3, .int (iI ((of : Int))))]) [0, 1, 2, 3, 4, 5, 6, 7, 8, 9] rfl ?_
      rw [show (j : Int) + 1 = ((j + 1 : Nat) : Int) by omega, show (T : Int) / 65536 = ((T / 65536 : Nat) : Int) by omega]
      refine ih (j + 1) (T / 65536) _ (by omega) (by omega) (hdt.su ⟨by omega, by omega⟩) (hft.tr' (Fr.su (by simp))) (fun q hq => by rw [su_j (by omega)]; exact hrest q (by omega)) ?_
      have hst := pr_step (d := m + y) hval hT.symm rfl rfl
      rw [show i + (j + 1) = i + j + 1 by omega, fA_su (c := T % 65536) (by omega), Nat.pow_succ, hst]
      show _ = vB 65536 (fA s ib) (i + j) + fA s ib (i + j) * 65536 ^ (i + j) + dg * (vB 65536 (fA s ia) j + fA s ia j * 65536 ^ j) * 65536 ^ i
      rw [hx, hy, Nat.mul_add, ← Nat.mul_assoc, hm, Nat.add_mul, Nat.add_mul, Nat.mul_assoc m, ← Nat.pow_add, Nat.add_comm j i]
      omega
  have LI : ∀ (k : Nat) (wb : Wl) (ia ib : Nat), k < of → 10 + 4096 * (k + 1) = ia → 10 + 4096 * (k + 2) = ib → Wle w wb → wb.2 19 ia → wb.2 19 ib → (∀ q, wb.2 19 q → q < 4096 * (k + 3)) → ∀ (d i : Nat) (s : St), i + d = 3 → DA s ia → DA s ib → vB 65536 (fA s ia) 10 = t ^ k → vB 65536 (fA s ib) 10 = t % 65536 ^ i * t ^ k → Fr RLs σ s → (∀ s2 : St, DA s2 ib → vB 65536 (fA s2 ib) 10 = t ^ (k + 1) → Fr RLs σ s2 → V X (k + 1 + 1, 10 * (k + 1) + 10) wb 205 [(6, .ref (wb.1 19 ib)), (5, .int (iI ((k : Int)))), (4, .ref (wb.1 19 ia)), (0, .long (jI ((t : Int)))), (2, .int (iI ((p : Int)))), (3, .int (iI ((of : Int))))] s2 []) → V X (k + 1 + 1, 10 * (k + 1) + 10) wb 112 [(7, .int (iI ((i : Int)))), (6, .ref (wb.1 19 ib)), (5, .int (iI ((k : Int)))), (4, .ref (wb.1 19 ia)), (0, .long (jI ((t : Int)))), (2, .int (iI ((p : Int)))), (3, .int (iI ((of : Int))))] s [] := by
    intro k wb ia ib hko hia hib hwle hla hlb h19b
    have hp1 := pow37 ht (show k ≤ 2 by omega)
    have hp2 := pow37b ht (show k ≤ 2 by omega)
    intro d
    induction d with
    | zero =>
      intro i s hi hda hdb hva hvb hf kk
      obtain rfl : i = 3 := by omega
      refine v_iload hX 0 rfl (atL dAX8_isAtMost_1 33 rfl) ?_
      refine v_iconst hX (atL dAX8_isAtMost_1 34 rfl) ?_
      refine v_icmp_ge hX ⟨by omega, by omega⟩ ⟨by omega, by omega⟩ (tgt := 205) (atL dAX8_isAtMost_1 35 rfl) (by decide) (fun h115 => ?_) (fun h115 => absurd h115 (by omega))
      refine v_sub (lv' := [(6, .ref (wb.1 19 ib)), (5, .int (iI ((k : Int)))), (4, .ref (wb.1 19 ia)), (0, .long (jI ((t : Int)))), (2, .int (iI ((p : Int)))), (3, .int (iI ((of : Int))))]) [1, 2, 3, 4, 5, 6] rfl ?_
      refine kk s hdb ?_ hf
      rw [hvb, Nat.mod_eq_of_lt (Nat.lt_of_lt_of_le ht (by decide)), Nat.pow_succ, Nat.mul_comm]
    | succ d ih =>
      intro i s hi hda hdb hva hvb hf kk
      obtain ⟨dg, hdg⟩ : ∃ q, t / 65536 ^ i % 65536 = q := ⟨_, rfl⟩
      have hdgl : dg < 65536 := by rw [← hdg]; exact Nat.mod_lt _ (by omega)
      refine v_iload hX 0 rfl (atL dAX8_isAtMost_1 33 rfl) ?_
      refine v_iconst hX (atL dAX8_isAtMost_1 34 rfl) ?_
      refine v_icmp_ge hX ⟨by omega, by omega⟩ ⟨by omega, by omega⟩ (tgt := 205) (atL dAX8_isAtMost_1 35 rfl) (by decide) (fun h115 => absurd h115 (by omega)) (fun h115 => ?_)
      refine v_lload_n hX 4 rfl (atL dAX8_isAtMost_1 36 rfl) ?_
      refine v_bipush hX (by decide +kernel) (atL dAX8_isAtMost_1 37 rfl) ?_
      refine v_iload hX 0 rfl (atL dAX8_isAtMost_1 38 rfl) ?_
      refine v_imul hX (iI_mul _ _) (atL dAX8_isAtMost_1 39 rfl) ?_
      rw [show (16 * ((i : Int))) = ((16 * i : Nat) : Int) from (by omega)]
      refine v_lushr hX (r := jI ((t : Int) / ((2 ^ (16 * i) : Nat) : Int))) (jI_ushr (by omega) (by omega) (16 * i) (by omega)) (atL dAX8_isAtMost_1 40 rfl) ?_
      refine v_ldc2 hX (r := 65535) wd_1231 (by decide +kernel) (atL dAX8_isAtMost_1 41 rfl) ?_
      refine v_land hX (r := jI (((t : Int) / ((2 ^ (16 * i) : Nat) : Int)) % 65536)) (jI_mask _ 16 (by decide)) (atL dAX8_isAtMost_1 42 rfl) ?_
      rw [show (((t : Int) / ((2 ^ (16 * i) : Nat) : Int)) % 65536) = (dg : Int) from (by rw [← hdg, n_p28, Int.natCast_emod, Int.natCast_ediv]; rfl)]
      refine v_lstore hX (lv' := [(8, .long (jI ((dg : Int)))), (7, .int (iI ((i : Int)))), (6, .ref (wb.1 19 ib)), (5, .int (iI ((k : Int)))), (4, .ref (wb.1 19 ia)), (0, .long (jI ((t : Int)))), (2, .int (iI ((p : Int)))), (3, .int (iI ((of : Int))))]) (Nat.le_of_ble_eq_true rfl) rfl (atL dAX8_isAtMost_1 43 rfl) ?_
      refine v_lconst hX (atL dAX8_isAtMost_1 44 rfl) ?_
      show V X _ wb _ _ _ (.long (jI (0)) :: _)
      refine v_lstore hX (lv' := [(10, .long (jI (0))), (8, .long (jI ((dg : Int)))), (7, .int (iI ((i : Int)))), (6, .ref (wb.1 19 ib)), (5, .int (iI ((k : Int)))), (4, .ref (wb.1 19 ia)), (0, .long (jI ((t : Int)))), (2, .int (iI ((p : Int)))), (3, .int (iI ((of : Int))))]) (Nat.le_of_ble_eq_true rfl) rfl (atL dAX8_isAtMost_1 45 rfl) ?_
      refine v_iconst hX (atL dAX8_isAtMost_1 46 rfl) ?_
      refine v_istore hX (lv' := [(12, .int (iI (0))), (10, .long (jI (0))), (8, .long (jI ((dg : Int)))), (7, .int (iI ((i : Int)))), (6, .ref (wb.1 19 ib)), (5, .int (iI ((k : Int)))), (4, .ref (wb.1 19 ia)), (0, .long (jI ((t : Int)))), (2, .int (iI ((p : Int)))), (3, .int (iI ((of : Int))))]) (Nat.le_of_ble_eq_true rfl) rfl (atL dAX8_isAtMost_1 47 rfl) ?_
      refine v_sub (lv' := [(12, .int (iI (0))), (10, .long (jI (0))), (8, .long (jI ((dg : Int)))), (7, .int (iI ((i : Int)))), (6, .ref (wb.1 19 ib)), (5, .int (iI ((k : Int)))), (4, .ref (wb.1 19 ia)), (0, .long (jI ((t : Int)))), (2, .int (iI ((p : Int)))), (3, .int (iI ((of : Int))))]) [0, 1, 2, 3, 4, 5, 6, 7, 8, 9] rfl ?_
      refine LJ k wb ia ib hko hia hib hwle hla hlb h19b i dg s (by omega) hdgl hda hdb (fun c s2 hd2 hf2 hval => ?_) (10 - i) 0 0 s (by omega) (by omega) hdb Fr.rf (fun q _ => rfl) (by rw [Nat.add_zero]; show _ + 0 * _ = _ + dg * 0 * _; rw [Nat.zero_mul, Nat.mul_zero, Nat.zero_mul])
      have hcut := n_vB_cut (f := fA s ia) (n := 10 - i) (M := 10) (fun j _ => fA_lt hda j) (by omega) (by rw [hva]; exact Nat.lt_of_lt_of_le hp1 (Nat.pow_le_pow_right (by omega) (by omega)))
      rw [hcut.1, hva] at hval
      obtain ⟨hv2, hc0⟩ := mul_digit hval hvb hdg.symm hp2 (vB_lt (fun j _ => fA_lt hd2 j))
      refine v_iinc hX (lv' := [(7, .int (iI (((i : Int)) + 1))), (6, .ref (wb.1 19 ib)), (5, .int (iI ((k : Int)))), (4, .ref (wb.1 19 ia)), (0, .long (jI ((t : Int)))), (2, .int (iI ((p : Int)))), (3, .int (iI ((of : Int))))]) 0 rfl (iI_add _ _) (Nat.le_of_ble_eq_true rfl) rfl (atL dAX8_isAtMost_2 24 rfl) ?_
      refine v_goto hX (tgt := 112) (atL dAX8_isAtMost_2 25 rfl) (by decide) ?_
      refine v_sub (lv' := [(7, .int (iI (((i : Int)) + 1))), (6, .ref (wb.1 19 ib)), (5, .int (iI ((k : Int)))), (4, .ref (wb.1 19 ia)), (0, .long (jI ((t : Int)))), (2, .int (iI ((p : Int)))), (3, .int (iI ((of : Int))))]) [0, 1, 2, 3, 4, 5, 6] rfl ?_
      rw [show (i : Int) + 1 = ((i + 1 : Nat) : Int) by omega]
      exact ih (i + 1) s2 (by omega) (hda.fr hf2 (by simp; omega)) hd2 (by rw [fA_fr hf2 (by simp; omega)]; exact hva) hv2 (hf.tr' (hf2.mono (by intro q hq; rw [List.mem_singleton.mp hq]; exact RLs_in (k := k + 1) (by omega) (by omega)))) kk
  have LK : ∀ (d k : Nat) (wk : Wl) (s : St) (ia : Nat), k + d = of → 10 + 4096 * (k + 1) = ia → Wle w wk → wk.2 19 ia → (∀ q, wk.2 19 q → q < 4096 * (k + 2)) → DA s ia → vB 65536 (fA s ia) 10 = t ^ k → Fr RLs σ s → V X (k + 1, 10 * (k + 1)) wk 53 [(5, .int (iI ((k : Int)))), (4, .ref (wk.1 19 ia)), (0, .long (jI ((t : Int)))), (2, .int (iI ((p : Int)))), (3, .int (iI ((of : Int))))] s [] := by
    intro d
    induction d with
    | zero =>
      intro k wk s ia hk hia hwle hla h19k hda hval hf
      obtain rfl : k = of := by omega
      refine v_iload hX 0 rfl (atL dAX8_isAtMost_0 45 rfl) ?_
      refine v_iload_n hX 4 rfl (atL dAX8_isAtMost_0 46 rfl) ?_
      refine v_icmp_ge hX ⟨by omega, by omega⟩ ⟨by omega, by omega⟩ (tgt := 215) (atL dAX8_isAtMost_0 47 rfl) (by decide) (fun h56 => ?_) (fun h56 => absurd h56 (by omega))
      refine v_iconst hX (atL dAX8_isAtMost_2 30 rfl) ?_
      refine v_istore hX (lv' := [(5, .int (iI (0))), (4, .ref (wk.1 19 ia)), (0, .long (jI ((t : Int)))), (2, .int (iI ((p : Int)))), (3, .int (iI ((k : Int))))]) (Nat.le_of_ble_eq_true rfl) rfl (atL dAX8_isAtMost_2 31 rfl) ?_
      refine v_bipush hX (by decide +kernel) (atL dAX8_isAtMost_2 32 rfl) ?_
      refine v_istore hX (lv' := [(6, .int (iI (9))), (5, .int (iI (0))), (4, .ref (wk.1 19 ia)), (0, .long (jI ((t : Int)))), (2, .int (iI ((p : Int)))), (3, .int (iI ((k : Int))))]) (Nat.le_of_ble_eq_true rfl) rfl (atL dAX8_isAtMost_2 33 rfl) ?_
      refine v_sub (lv' := [(6, .int (iI (9))), (5, .int (iI (0))), (4, .ref (wk.1 19 ia)), (0, .long (jI ((t : Int)))), (2, .int (iI ((p : Int)))), (3, .int (iI ((k : Int))))]) [0, 1, 2, 3, 4, 5] rfl ?_
      have e9 := LT wk s ia (by omega) hwle hla hda hval hf (9 - 2 * k) 0 (Nat.le_refl _) (TPd.all (by omega))
      rw [show 2 * k + (9 - 2 * k) = 9 by omega] at e9
      exact e9
    | succ d ih =>
      intro k wk s ia hk hia hwle hla h19k hda hval hf
      obtain ⟨ib, hib⟩ : ∃ q, 10 + 4096 * (k + 2) = q := ⟨_, rfl⟩
      refine v_iload hX 0 rfl (atL dAX8_isAtMost_0 45 rfl) ?_
      refine v_iload_n hX 4 rfl (atL dAX8_isAtMost_0 46 rfl) ?_
      refine v_icmp_ge hX ⟨by omega, by omega⟩ ⟨by omega, by omega⟩ (tgt := 215) (atL dAX8_isAtMost_0 47 rfl) (by decide) (fun h56 => absurd h56 (by omega)) (fun h56 => ?_)
      refine v_bipush hX (by decide +kernel) (atL dAX8_isAtMost_0 48 rfl) ?_
      refine v_newI hX (n := 10) (i := ib) (by omega) rfl (fun h => by have := h19k ib h; omega) (by rw [hR]; exact ⟨by show k + 1 + 1 ≤ of + 1; omega, by show 10 * (k + 1) + 10 ≤ 10 * (of + 1); omega⟩) (atL dAX8_isAtMost_0 49 rfl) (fun b0 => ?_)
      have hfre : ¬ wk.2 19 ib := fun h => by have := h19k ib h; omega
      obtain ⟨wb, hwb⟩ : ∃ q, q = wup wk 19 ib b0 := ⟨_, rfl⟩
      have hle2 : Wle wk wb := by rw [hwb]; exact Wle.up hfre
      have hb0 : b0 = wb.1 19 ib := by rw [hwb, wup_at]
      have hlb : wb.2 19 ib := by rw [hwb]; exact wup_new
      have hla2 := (hle2 19 ia hla).1
      have h19b : ∀ q, wb.2 19 q → q < 4096 * (k + 3) := by intro q hq; rw [hwb] at hq; rcases hq with h | ⟨-, h⟩; have := h19k q h; omega; omega
      rw [← hwb, hb0, ← (hle2 19 ia hla).2]
      refine v_dup hX rfl (atL dAX8_isAtMost_0 50 rfl) ?_
      refine v_iconst hX (atL dAX8_isAtMost_0 51 rfl) ?_
      refine v_iconst hX (atL dAX8_isAtMost_0 52 rfl) ?_
      refine v_iast hX (c := 16) 0 hlb (by decide) (fun _ _ => rfl) rfl (show _ < ib % 4096 by omega) (show ib % 4096 < 2147483648 by omega) (atL dAX8_isAtMost_0 53 rfl) ?_
      refine v_dup hX rfl (atL dAX8_isAtMost_0 54 rfl) ?_
      refine v_iconst hX (atL dAX8_isAtMost_0 55 rfl) ?_
      refine v_iconst hX (atL dAX8_isAtMost_0 56 rfl) ?_
      refine v_iast hX (c := 16) 1 hlb (by decide) (fun _ _ => rfl) rfl (show _ < ib % 4096 by omega) (show ib % 4096 < 2147483648 by omega) (atL dAX8_isAtMost_0 57 rfl) ?_
      refine v_dup hX rfl (atL dAX8_isAtMost_0 58 rfl) ?_
      refine v_iconst hX (atL dAX8_isAtMost_0 59 rfl) ?_
      refine v_iconst hX (atL dAX8_isAtMost_1 0 rfl) ?_
      refine v_iast hX (c := 16) 2 hlb (by decide) (fun _ _ => rfl) rfl (show _ < ib % 4096 by omega) (show ib % 4096 < 2147483648 by omega) (atL dAX8_isAtMost_1 1 rfl) ?_
      refine v_dup hX rfl (atL dAX8_isAtMost_1 2 rfl) ?_
      refine v_iconst hX (atL dAX8_isAtMost_1 3 rfl) ?_
      refine v_iconst hX (atL dAX8_isAtMost_1 4 rfl) ?_
      refine v_iast hX (c := 16) 3 hlb (by decide) (fun _ _ => rfl) rfl (show _ < ib % 4096 by omega) (show ib % 4096 < 2147483648 by omega) (atL dAX8_isAtMost_1 5 rfl) ?_
      refine v_dup hX rfl (atL dAX8_isAtMost_1 6 rfl) ?_
      refine v_iconst hX (atL dAX8_isAtMost_1 7 rfl) ?_
      refine v_iconst hX (atL dAX8_isAtMost_1 8 rfl) ?_
      refine v_iast hX (c := 16) 4 hlb (by decide) (fun _ _ => rfl) rfl (show _ < ib % 4096 by omega) (show ib % 4096 < 2147483648 by omega) (atL dAX8_isAtMost_1 9 rfl) ?_
      refine v_dup hX rfl (atL dAX8_isAtMost_1 10 rfl) ?_
      refine v_iconst hX (atL dAX8_isAtMost_1 11 rfl) ?_
      refine v_iconst hX (atL dAX8_isAtMost_1 12 rfl) ?_
      refine v_iast hX (c := 16) 5 hlb (by decide) (fun _ _ => rfl) rfl (show _ < ib % 4096 by omega) (show ib % 4096 < 2147483648 by omega) (atL dAX8_isAtMost_1 13 rfl) ?_
      refine v_dup hX rfl (atL dAX8_isAtMost_1 14 rfl) ?_
      refine v_bipush hX (by decide +kernel) (atL dAX8_isAtMost_1 15 rfl) ?_
      refine v_iconst hX (atL dAX8_isAtMost_1 16 rfl) ?_
      refine v_iast hX (c := 16) 6 hlb (by decide) (fun _ _ => rfl) rfl (show _ < ib % 4096 by omega) (show ib % 4096 < 2147483648 by omega) (atL dAX8_isAtMost_1 17 rfl) ?_
      refine v_dup hX rfl (atL dAX8_isAtMost_1 18 rfl) ?_
      refine v_bipush hX (by decide +kernel) (atL dAX8_isAtMost_1 19 rfl) ?_
      refine v_iconst hX (atL dAX8_isAtMost_1 20 rfl) ?_
      refine v_iast hX (c := 16) 7 hlb (by decide) (fun _ _ => rfl) rfl (show _ < ib % 4096 by omega) (show ib % 4096 < 2147483648 by omega) (atL dAX8_isAtMost_1 21 rfl) ?_
      refine v_dup hX rfl (atL dAX8_isAtMost_1 22 rfl) ?_
      refine v_bipush hX (by decide +kernel) (atL dAX8_isAtMost_1 23 rfl) ?_
      refine v_iconst hX (atL dAX8_isAtMost_1 24 rfl) ?_
      refine v_iast hX (c := 16) 8 hlb (by decide) (fun _ _ => rfl) rfl (show _ < ib % 4096 by omega) (show ib % 4096 < 2147483648 by omega) (atL dAX8_isAtMost_1 25 rfl) ?_
      refine v_dup hX rfl (atL dAX8_isAtMost_1 26 rfl) ?_
      refine v_bipush hX (by decide +kernel) (atL dAX8_isAtMost_1 27 rfl) ?_
      refine v_iconst hX (atL dAX8_isAtMost_1 28 rfl) ?_
      refine v_iast hX (c := 16) 9 hlb (by decide) (fun _ _ => rfl) rfl (show _ < ib % 4096 by omega) (show ib % 4096 < 2147483648 by omega) (atL dAX8_isAtMost_1 29 rfl) ?_
      refine v_astore hX (lv' := [(6, .ref (wb.1 19 ib)), (5, .int (iI ((k : Int)))), (4, .ref (wb.1 19 ia)), (0, .long (jI ((t : Int)))), (2, .int (iI ((p : Int)))), (3, .int (iI ((of : Int))))]) (Nat.le_of_ble_eq_true rfl) rfl (atL dAX8_isAtMost_1 30 rfl) ?_
      refine v_iconst hX (atL dAX8_isAtMost_1 31 rfl) ?_
      refine v_istore hX (lv' := [(7, .int (iI (0))), (6, .ref (wb.1 19 ib)), (5, .int (iI ((k : Int)))), (4, .ref (wb.1 19 ia)), (0, .long (jI ((t : Int)))), (2, .int (iI ((p : Int)))), (3, .int (iI ((of : Int))))]) (Nat.le_of_ble_eq_true rfl) rfl (atL dAX8_isAtMost_1 32 rfl) ?_
      obtain ⟨s1, hs1⟩ : ∃ q, q = (su (su (su (su (su (su (su (su (su (su (zr s 16 ib) 16 ib 0 0) 16 ib 1 0) 16 ib 2 0) 16 ib 3 0) 16 ib 4 0) 16 ib 5 0) 16 ib 6 0) 16 ib 7 0) 16 ib 8 0) 16 ib 9 0) := ⟨_, rfl⟩
      have hz1 : ∀ j, s1 16 ib j = 0 := by intro j; rw [hs1]; simp only [su_e, zr_s, ite_self]
      have hf1 : Fr [(16, ib)] s s1 := by rw [hs1]; exact ((((((((((Fr.zr (by simp)).tr' (Fr.su (by simp))).tr' (Fr.su (by simp))).tr' (Fr.su (by simp))).tr' (Fr.su (by simp))).tr' (Fr.su (by simp))).tr' (Fr.su (by simp))).tr' (Fr.su (by simp))).tr' (Fr.su (by simp))).tr' (Fr.su (by simp))).tr' (Fr.su (by simp))
      have hfr1 : Fr RLs σ s1 := hf.tr' (hf1.mono (by intro q hq; rw [List.mem_singleton.mp hq]; exact RLs_in (k := k + 1) (by omega) (by omega)))
      refine v_sub (lv' := [(7, .int (iI (0))), (6, .ref (wb.1 19 ib)), (5, .int (iI ((k : Int)))), (4, .ref (wb.1 19 ia)), (0, .long (jI ((t : Int)))), (2, .int (iI ((p : Int)))), (3, .int (iI ((of : Int))))]) [0, 1, 2, 3, 4, 5, 6] rfl ?_
      rw [← hs1]
      show V X (k + 1 + 1, 10 * (k + 1) + 10) wb 112 _ s1 []
      refine LI k wb ia ib (by omega) hia hib (hwle.tr hle2) hla2 hlb h19b 3 0 s1 (by omega) (hda.fr hf1 (by simp; omega)) (fun j => by rw [hz1 j]; omega) (by rw [fA_fr hf1 (by simp; omega)]; exact hval) ?_ hfr1 (fun s2 hd2 hv2 hf2 => ?_)
      · rw [Nat.pow_zero, Nat.mod_one, Nat.zero_mul, vB_zeros (u := 0) (by omega) (fun j _ _ => by unfold fA; rw [hz1 j]; rfl)]; rfl
      · refine v_aload hX 0 rfl (atL dAX8_isAtMost_2 26 rfl) ?_
        refine v_astore hX (lv' := [(4, .ref (wb.1 19 ib)), (6, .ref (wb.1 19 ib)), (5, .int (iI ((k : Int)))), (0, .long (jI ((t : Int)))), (2, .int (iI ((p : Int)))), (3, .int (iI ((of : Int))))]) (Nat.le_of_ble_eq_true rfl) rfl (atL dAX8_isAtMost_2 27 rfl) ?_
        refine v_iinc hX (lv' := [(5, .int (iI (((k : Int)) + 1))), (4, .ref (wb.1 19 ib)), (6, .ref (wb.1 19 ib)), (0, .long (jI ((t : Int)))), (2, .int (iI ((p : Int)))), (3, .int (iI ((of : Int))))]) 2 rfl (iI_add _ _) (Nat.le_of_ble_eq_true rfl) rfl (atL dAX8_isAtMost_2 28 rfl) ?_
        refine v_goto hX (tgt := 53) (atL dAX8_isAtMost_2 29 rfl) (by decide) ?_
        refine v_sub (lv' := [(5, .int (iI (((k : Int)) + 1))), (4, .ref (wb.1 19 ib)), (0, .long (jI ((t : Int)))), (2, .int (iI ((p : Int)))), (3, .int (iI ((of : Int))))]) [0, 1, 3, 4, 5] rfl ?_
        rw [show (k : Int) + 1 = ((k + 1 : Nat) : Int) by omega, show 10 * (k + 1) + 10 = 10 * (k + 1 + 1) by omega]
        exact ih (k + 1) wb s2 ib (by omega) (by omega) (hwle.tr hle2) hlb (fun q hq => by have := h19b q hq; omega) hd2 hv2 hf2
  obtain ⟨ia, hia⟩ : ∃ q, 10 + 4096 * (0 + 1) = q := ⟨_, rfl⟩
  refine v_bipush hX (by decide +kernel) (atL dAX8_isAtMost_0 0 rfl) ?_
  refine v_newI hX (n := 10) (i := ia) (by omega) rfl (fun h => by have := h19 ia h; omega) (by rw [hR]; exact ⟨by show 0 + 1 ≤ of + 1; omega, by show 0 + 10 ≤ 10 * (of + 1); omega⟩) (atL dAX8_isAtMost_0 1 rfl) (fun b0 => ?_)
  have hfre : ¬ w.2 19 ia := fun h => by have := h19 ia h; omega
  obtain ⟨wa, hwa⟩ : ∃ q, q = wup w 19 ia b0 := ⟨_, rfl⟩
  have hle : Wle w wa := by rw [hwa]; exact Wle.up hfre
  have hb0 : b0 = wa.1 19 ia := by rw [hwa, wup_at]
  have hla : wa.2 19 ia := by rw [hwa]; exact wup_new
  have h19a : ∀ q, wa.2 19 q → q < 4096 * (0 + 2) := by intro q hq; rw [hwa] at hq; rcases hq with h | ⟨-, h⟩; have := h19 q h; omega; omega
  rw [← hwa, hb0]
  refine v_dup hX rfl (atL dAX8_isAtMost_0 2 rfl) ?_
  refine v_iconst hX (atL dAX8_isAtMost_0 3 rfl) ?_
  refine v_iconst hX (atL dAX8_isAtMost_0 4 rfl) ?_
  refine v_iast hX (c := 16) 0 hla (by decide) (fun _ _ => rfl) rfl (show _ < ia % 4096 by omega) (show ia % 4096 < 2147483648 by omega) (atL dAX8_isAtMost_0 5 rfl) ?_
  refine v_dup hX rfl (atL dAX8_isAtMost_0 6 rfl) ?_
  refine v_iconst hX (atL dAX8_isAtMost_0 7 rfl) ?_
  refine v_iconst hX (atL dAX8_isAtMost_0 8 rfl) ?_
  refine v_iast hX (c := 16) 1 hla (by decide) (fun _ _ => rfl) rfl (show _ < ia % 4096 by omega) (show ia % 4096 < 2147483648 by omega) (atL dAX8_isAtMost_0 9 rfl) ?_
  refine v_dup hX rfl (atL dAX8_isAtMost_0 10 rfl) ?_
  refine v_iconst hX (atL dAX8_isAtMost_0 11 rfl) ?_
  refine v_iconst hX (atL dAX8_isAtMost_0 12 rfl) ?_
  refine v_iast hX (c := 16) 2 hla (by decide) (fun _ _ => rfl) rfl (show _ < ia % 4096 by omega) (show ia % 4096 < 2147483648 by omega) (atL dAX8_isAtMost_0 13 rfl) ?_
  refine v_dup hX rfl (atL dAX8_isAtMost_0 14 rfl) ?_
  refine v_iconst hX (atL dAX8_isAtMost_0 15 rfl) ?_
  refine v_iconst hX (atL dAX8_isAtMost_0 16 rfl) ?_
  refine v_iast hX (c := 16) 3 hla (by decide) (fun _ _ => rfl) rfl (show _ < ia % 4096 by omega) (show ia % 4096 < 2147483648 by omega) (atL dAX8_isAtMost_0 17 rfl) ?_
  refine v_dup hX rfl (atL dAX8_isAtMost_0 18 rfl) ?_
  refine v_iconst hX (atL dAX8_isAtMost_0 19 rfl) ?_
  refine v_iconst hX (atL dAX8_isAtMost_0 20 rfl) ?_
  refine v_iast hX (c := 16) 4 hla (by decide) (fun _ _ => rfl) rfl (show _ < ia % 4096 by omega) (show ia % 4096 < 2147483648 by omega) (atL dAX8_isAtMost_0 21 rfl) ?_
  refine v_dup hX rfl (atL dAX8_isAtMost_0 22 rfl) ?_
  refine v_iconst hX (atL dAX8_isAtMost_0 23 rfl) ?_
  refine v_iconst hX (atL dAX8_isAtMost_0 24 rfl) ?_
  refine v_iast hX (c := 16) 5 hla (by decide) (fun _ _ => rfl) rfl (show _ < ia % 4096 by omega) (show ia % 4096 < 2147483648 by omega) (atL dAX8_isAtMost_0 25 rfl) ?_
  refine v_dup hX rfl (atL dAX8_isAtMost_0 26 rfl) ?_
  refine v_bipush hX (by decide +kernel) (atL dAX8_isAtMost_0 27 rfl) ?_
  refine v_iconst hX (atL dAX8_isAtMost_0 28 rfl) ?_
  refine v_iast hX (c := 16) 6 hla (by decide) (fun _ _ => rfl) rfl (show _ < ia % 4096 by omega) (show ia % 4096 < 2147483648 by omega) (atL dAX8_isAtMost_0 29 rfl) ?_
  refine v_dup hX rfl (atL dAX8_isAtMost_0 30 rfl) ?_
  refine v_bipush hX (by decide +kernel) (atL dAX8_isAtMost_0 31 rfl) ?_
  refine v_iconst hX (atL dAX8_isAtMost_0 32 rfl) ?_
  refine v_iast hX (c := 16) 7 hla (by decide) (fun _ _ => rfl) rfl (show _ < ia % 4096 by omega) (show ia % 4096 < 2147483648 by omega) (atL dAX8_isAtMost_0 33 rfl) ?_
  refine v_dup hX rfl (atL dAX8_isAtMost_0 34 rfl) ?_
  refine v_bipush hX (by decide +kernel) (atL dAX8_isAtMost_0 35 rfl) ?_
  refine v_iconst hX (atL dAX8_isAtMost_0 36 rfl) ?_
  refine v_iast hX (c := 16) 8 hla (by decide) (fun _ _ => rfl) rfl (show _ < ia % 4096 by omega) (show ia % 4096 < 2147483648 by omega) (atL dAX8_isAtMost_0 37 rfl) ?_
  refine v_dup hX rfl (atL dAX8_isAtMost_0 38 rfl) ?_
  refine v_bipush hX (by decide +kernel) (atL dAX8_isAtMost_0 39 rfl) ?_
  refine v_iconst hX (atL dAX8_isAtMost_0 40 rfl) ?_
  refine v_iast hX (c := 16) 9 hla (by decide) (fun _ _ => rfl) rfl (show _ < ia % 4096 by omega) (show ia % 4096 < 2147483648 by omega) (atL dAX8_isAtMost_0 41 rfl) ?_
  refine v_astore hX (lv' := [(4, .ref (wa.1 19 ia)), (0, .long (jI ((t : Int)))), (2, .int (iI ((p : Int)))), (3, .int (iI ((of : Int))))]) (Nat.le_of_ble_eq_true rfl) rfl (atL dAX8_isAtMost_0 42 rfl) ?_
  refine v_iconst hX (atL dAX8_isAtMost_0 43 rfl) ?_
  refine v_istore hX (lv' := [(5, .int (iI (0))), (4, .ref (wa.1 19 ia)), (0, .long (jI ((t : Int)))), (2, .int (iI ((p : Int)))), (3, .int (iI ((of : Int))))]) (Nat.le_of_ble_eq_true rfl) rfl (atL dAX8_isAtMost_0 44 rfl) ?_
  obtain ⟨s1, hs1⟩ : ∃ q, q = (su (su (su (su (su (su (su (su (su (su (zr σ 16 ia) 16 ia 0 1) 16 ia 1 0) 16 ia 2 0) 16 ia 3 0) 16 ia 4 0) 16 ia 5 0) 16 ia 6 0) 16 ia 7 0) 16 ia 8 0) 16 ia 9 0) := ⟨_, rfl⟩
  have hz1 : ∀ j, s1 16 ia j = if j = 0 then 1 else 0 := by intro j; rw [hs1]; simp only [su_e, zr_s]; repeat' split; all_goals first | rfl | omega
  have hf1 : Fr [(16, ia)] σ s1 := by rw [hs1]; exact ((((((((((Fr.zr (by simp)).tr' (Fr.su (by simp))).tr' (Fr.su (by simp))).tr' (Fr.su (by simp))).tr' (Fr.su (by simp))).tr' (Fr.su (by simp))).tr' (Fr.su (by simp))).tr' (Fr.su (by simp))).tr' (Fr.su (by simp))).tr' (Fr.su (by simp))).tr' (Fr.su (by simp))
  refine v_sub (lv' := [(5, .int (iI (0))), (4, .ref (wa.1 19 ia)), (0, .long (jI ((t : Int)))), (2, .int (iI ((p : Int)))), (3, .int (iI ((of : Int))))]) [0, 1, 2, 3, 4] rfl ?_
  rw [← hs1]
  show V X (0 + 1, 10 * (0 + 1)) wa 53 _ s1 []
  refine LK of 0 wa s1 ia (by omega) hia hle hla h19a (fun j => by rw [hz1 j]; split <;> omega) ?_ (hf1.mono (by intro q hq; rw [List.mem_singleton.mp hq]; exact RLs_in (k := 0) (by omega) (by omega)))
  rw [vB_zeros (u := 1) (by omega) (fun j h1 _ => by unfold fA; rw [hz1 j, if_neg (by omega)]; rfl)]
  show 0 + fA s1 ia 0 * 65536 ^ 0 = _
  unfold fA
  rw [hz1 0, if_pos rfl]
  rfl
