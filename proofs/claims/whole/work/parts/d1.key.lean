/-! a key is made -/
/-- only key k and counters differ -/
def FX (k : Nat) (σ s : St) : Prop := ∀ c i, c ≠ 21 → ¬ ((c = 5 ∨ c = 6) ∧ i = k) → ¬ ((c = 2 ∨ c = 3) ∧ 32 + 8 * k ≤ i ∧ i < 40 + 8 * k) → s c i = σ c i
theorem FX.rf {k : Nat} {σ : St} : FX k σ σ := fun _ _ _ _ _ => rfl
theorem FX.tr {k : Nat} {σ s t : St} (h : FX k σ s) (g : FX k s t) : FX k σ t := fun c i a b d => (g c i a b d).trans (h c i a b d)
theorem FX.fr {k : Nat} {σ s : St} {l : List (Nat × Nat)} (h : Fr l σ s) (hl : ∀ q ∈ l, q.1 = 21 ∨ ((q.1 = 5 ∨ q.1 = 6) ∧ q.2 = k) ∨ ((q.1 = 2 ∨ q.1 = 3) ∧ 32 + 8 * k ≤ q.2 ∧ q.2 < 40 + 8 * k)) : FX k σ s := fun c i a b d => h c i (fun q => by
  rcases hl _ q with e | e | e
  · exact a e
  · exact b e
  · exact d e)
theorem FX.su {k c i j : Nat} {σ : St} {v : Int} (h : c = 21 ∨ ((c = 5 ∨ c = 6) ∧ i = k) ∨ ((c = 2 ∨ c = 3) ∧ 32 + 8 * k ≤ i ∧ i < 40 + 8 * k)) : FX k σ (su σ c i j v) := FX.fr (l := [(c, i)]) (Fr.su (List.mem_singleton.mpr rfl)) (fun q hq => by rw [List.mem_singleton.mp hq]; exact h)
theorem FX.zr {k c i : Nat} {σ : St} (h : c = 21 ∨ ((c = 5 ∨ c = 6) ∧ i = k) ∨ ((c = 2 ∨ c = 3) ∧ 32 + 8 * k ≤ i ∧ i < 40 + 8 * k)) : FX k σ (zr σ c i) := fun c' i' a b d => by
  by_cases e : c' = c
  · subst e
    by_cases e2 : i' = i
    · subst e2
      rcases h with h | h | h
      · exact absurd h a
      · exact absurd h b
      · exact absurd h d
    · exact zr_i e2
  · rw [zr_c e]
theorem FX.f21 {k : Nat} {ks : List Nat} {σ s : St} (h : F21 ks σ s) : FX k σ s := fun c i a _ _ => by rw [h.1 c a]
theorem FX.wn {k i v : Nat} {σ s : St} (h : FX k σ s) (g : WN σ i v) (hi : i < 32 + 8 * k ∨ 40 + 8 * k ≤ i) : WN s i v := by
  have e2 := h 2 i (by decide) (fun q => by omega) (fun q => by omega)
  have e3 := h 3 i (by decide) (fun q => by omega) (fun q => by omega)
  unfold WN nm
  rw [e2, e3]
  exact g
theorem WN_z {σ : St} {i : Nat} (h2 : σ 2 i 0 = 0) (h3 : ∀ j, σ 3 i j = 0) : WN σ i 0 := ⟨0, h2, by omega, fun j => by rw [h3 j]; exact ⟨by omega, by omega⟩, fun h => absurd h (by omega), rfl⟩
theorem WN_eq {σ s : St} {i v : Nat} (g : WN σ i v) (e2 : s 2 i = σ 2 i) (e3 : s 3 i = σ 3 i) : WN s i v := by
  unfold WN nm
  rw [e2, e3]
  exact g
theorem AD.zr {σ : St} {i : Nat} (h : AD σ) : AD (zr σ 3 i) := fun q j => by
  by_cases e : q = i
  · subst e
    rw [zr_s]
    exact ⟨by omega, by omega⟩
  · rw [zr_i e]
    exact h q j
theorem AD.eq {σ s : St} (h : AD σ) (e : s 3 = σ 3) : AD s := fun q j => by rw [e]; exact h q j
theorem cont_6 {g : Nat → ClassId} {ad : Ly} {σ : St} {i k' i' : Nat} {v : Int} (h : ¬ (k' = 6 ∧ i' = i)) (h' : ¬ (k' = 36 ∧ i' = i)) : cont g ad (su σ 6 i 0 v) k' i' = cont g ad σ k' i' := by
  have e7 : su σ 6 i 0 v 7 = σ 7 := su_rc (by decide)
  have e21 : su σ 6 i 0 v 21 = σ 21 := su_rc (by decide)
  unfold cont
  split
  all_goals first
    | rfl
    | (exact ob_congr (fun c hc => by rw [su_rc (fun e => by rw [e] at hc; cases hc)]))
    | (unfold raw; rw [e21]; done)
    | (rw [e21, su_ri (fun e => h' ⟨rfl, e⟩)]; done)
    | (rw [su_ri (fun e => h ⟨rfl, e⟩)]; done)
    | (rw [e7]; done)
    | (rw [e21]; done)
theorem mn_6 {σ : St} {i k' i' : Nat} {v : Int} (h : ¬ (k' = 6 ∧ i' = i)) (h' : ¬ (k' = 36 ∧ i' = i)) : mn (su σ 6 i 0 v) k' i' = mn σ k' i' := by
  have e7 : su σ 6 i 0 v 7 = σ 7 := su_rc (by decide)
  have e21 : su σ 6 i 0 v 21 = σ 21 := su_rc (by decide)
  unfold mn
  split
  all_goals first
    | rfl
    | (rw [e21, su_ri (fun e => h' ⟨rfl, e⟩)]; done)
    | (rw [su_ri (fun e => h ⟨rfl, e⟩)]; done)
    | (rw [e7]; done)
    | (rw [e21]; done)
theorem done_key {ad : Ly} {τ : St} {i : Nat} (h6 : ad 6 i = ad 36 i) (hn : τ 21 5 i = 1) (h5 : τ 5 i 0 = 0) : ob ad τ 5 i = raw ad τ 5 i := by
  unfold raw
  rw [hn]
  show Sum.inr (ck 5, [Value.ref (ad 6 i), .int (iI (τ 5 i 0))]) = _
  rw [h6, h5]
  rfl
set_option maxHeartbeats 4000000 in
set_option maxRecDepth 100000 in
theorem c_X2_init (l : Launch) (w : Wl) (σ : St) {i o P : Nat} (hP : P = 2 ∨ P = 8) (hl : w.2 35 i) (ho : w.1 35 i = o) (hf5 : ¬ w.2 5 i) (hf6 : ¬ w.2 6 i) (hf36 : ¬ w.2 36 i) (hfw : ∀ j, j < 8 → ¬ w.2 3 (32 + 8 * i + j) ∧ ¬ w.2 4 (32 + 8 * i + j) ∧ ¬ w.2 33 (32 + 8 * i + j)) (hc : σ 21 5 i = 0) {n v e x : Nat} (hn : w.2 3 n) (hnv : WN σ n v) (hn32 : n < 32) (hv0 : v ≠ 0) (hv1 : v < 2 ^ 1024) (he : w.2 3 e) (hev : WN σ e x) (he32 : e < 32) (hAD : AD σ) : Cg l yX2_init cX2_init 5 none 3 62 17 664 wN [.ref o, .int (iI (P : Int)), .ref (w.1 3 n), .ref (w.1 3 e)] w σ (fun _ w' σ' => (∃ m, Wto w w' 5 i m ∧ ∀ q, q ∈ m ↔ q = (6, i) ∨ ((q.1 = 3 ∨ q.1 = 4) ∧ 32 + 8 * i ≤ q.2 ∧ q.2 < 32 + 8 * i + P)) ∧ KY σ' i P (fun j => if j = 0 then v else if j = 1 then x else 0) ∧ AD σ' ∧ FX i σ σ') := by
  refine Cg.of (own := RX2) (lv := [(0, .ref o), (1, .int (iI (P : Int))), (2, .ref (w.1 3 n)), (3, .ref (w.1 3 e))]) (by decide +kernel) rfl (Nat.le_of_ble_eq_true rfl) rfl (fun X hX hxl hR hnm hcl hret => ?_)
  subst hxl
  have hP8 : P ≤ 8 := by omega
  have hP2 : 2 ≤ P := by omega
  have zB : ∀ z : Nat × Nat, z.1 ≤ 17 ∧ z.2 ≤ 664 → z.1 ≤ (xR X).cells ∧ z.2 ≤ (xR X).slots := fun z h => by rw [hR]; exact h
  have P3 : ∀ (w1 : Wl) (τ : St) (m : List (Nat × Nat)), Wto w w1 5 i m → (∀ q, q ∈ m ↔ q = (6, i) ∨ ((q.1 = 3 ∨ q.1 = 4) ∧ 32 + 8 * i ≤ q.2 ∧ q.2 < 32 + 8 * i + P)) → τ 6 i 0 = (P : Int) → (∀ j, j < P → WN τ (32 + 8 * i + j) 0) → AD τ → FX i σ τ → V X (1 + 2 * P, P + 82 * P) w1 55 [(4, .int (iI (P : Int))), (0, .ref o), (1, .int (iI (P : Int))), (2, .ref (w.1 3 n)), (3, .ref (w.1 3 e))] τ [] := by
    intro w1 τ m hto hmm h6 hw0 hD hFX
    have hl5 : w1.2 5 i := (hto.1 5 i).mpr (Or.inr (List.mem_cons_self ..))
    have hl6 : w1.2 6 i := (hto.1 6 i).mpr (Or.inr (List.mem_cons_of_mem _ ((hmm _).mpr (Or.inl rfl))))
    have hl3 : ∀ j, j < P → w1.2 3 (32 + 8 * i + j) := fun j hj => (hto.1 3 _).mpr (Or.inr (List.mem_cons_of_mem _ ((hmm _).mpr (Or.inr ⟨Or.inl rfl, by show 32 + 8 * i ≤ 32 + 8 * i + j; omega, by show 32 + 8 * i + j < 32 + 8 * i + P; omega⟩))))
    have hn1 : w1.2 3 n := (hto.1 3 n).mpr (Or.inl ⟨hn, fun q => absurd q.1 (by decide)⟩)
    have he1 : w1.2 3 e := (hto.1 3 e).mpr (Or.inl ⟨he, fun q => absurd q.1 (by decide)⟩)
    have e3n : w1.1 3 n = w.1 3 n := hto.2.1 3 n hn (fun q => absurd q.1 (by decide))
    have e3e : w1.1 3 e = w.1 3 e := hto.2.1 3 e he (fun q => absurd q.1 (by decide))
    have e5 : w1.1 5 i = o := hto.2.2.trans ho
    have hnv1 := hFX.wn hnv (by omega)
    have hev1 := hFX.wn hev (by omega)
    have h0P : 0 < P := by omega
    have h1P : 1 < P := by omega
    refine v_aload_n hX 1 rfl (atL dAX2_init_0 27 rfl) ?_
    refine v_eq0 e5 (gf_X2_11 hX hl5 (atL dAX2_init_0 28 rfl) ?_)
    refine v_iconst hX (atL dAX2_init_0 29 rfl) ?_
    refine v_aald hX (t := 6) (x := w1.1 3 (32 + 8 * i + 0)) 0 hl6 (fun _ => rfl) (fun _ => rfl) rfl (by omega) (by omega) (if_pos (by omega)) (atL dAX2_init_0 30 rfl) ?_
    refine v_aload_n hX 3 rfl (atL dAX2_init_0 31 rfl) ?_
    refine v_eq0 e3n (v_callV hX (As := [.ref (w1.1 3 n)]) (rest := []) (c_X5_set _ w1 τ (32 + 8 * i + 0) (hl3 0 h0P) (hD _) n v hn1 hnv1 (by omega)) lk_X2_16 (hl3 0 h0P) (fun _ => rfl) rfl rfl rfl (by rw [hR]; exact ⟨Nat.le_of_ble_eq_true rfl, Nat.le_of_ble_eq_true rfl⟩) (zB _ ⟨by show 1 + 2 * P ≤ 17; omega, by show P + 82 * P ≤ 664; omega⟩) rfl (Nat.le_of_ble_eq_true rfl) (atL dAX2_init_0 32 rfl) (fun _ s1 hp1 => ?_))
    obtain ⟨hs1, hf1⟩ := hp1
    have hD1 : AD s1 := hD.one hf1 hs1
    have h61 : s1 6 i 0 = (P : Int) := by rw [hf1 6 i (by simp)]; exact h6
    have hev2 : WN s1 e x := hev1.fr hf1 (by simp; omega) (by simp; omega)
    have hnv2 : WN s1 n v := hnv1.fr hf1 (by simp; omega) (by simp; omega)
    show V X _ w1 _ _ s1 []
    refine v_aload_n hX 1 rfl (atL dAX2_init_0 33 rfl) ?_
    refine v_eq0 e5 (gf_X2_11 hX hl5 (atL dAX2_init_0 34 rfl) ?_)
    refine v_iconst hX (atL dAX2_init_0 35 rfl) ?_
    refine v_aald hX (t := 6) (x := w1.1 3 (32 + 8 * i + 1)) 1 hl6 (fun _ => rfl) (fun _ => rfl) rfl (by omega) (by omega) (if_pos (by omega)) (atL dAX2_init_0 36 rfl) ?_
    refine v_aload_n hX 4 rfl (atL dAX2_init_0 37 rfl) ?_
    refine v_eq0 e3e (v_callV hX (As := [.ref (w1.1 3 e)]) (rest := []) (c_X5_set _ w1 s1 (32 + 8 * i + 1) (hl3 1 h1P) (hD1 _) e x he1 hev2 (by omega)) lk_X2_16 (hl3 1 h1P) (fun _ => rfl) rfl rfl rfl (by rw [hR]; exact ⟨Nat.le_of_ble_eq_true rfl, Nat.le_of_ble_eq_true rfl⟩) (zB _ ⟨by show 1 + 2 * P ≤ 17; omega, by show P + 82 * P ≤ 664; omega⟩) rfl (Nat.le_of_ble_eq_true rfl) (atL dAX2_init_0 38 rfl) (fun _ s2 hp2 => ?_))
    obtain ⟨hs2, hf2⟩ := hp2
    have hD2 : AD s2 := hD1.one hf2 hs2
    have h62 : s2 6 i 0 = (P : Int) := by rw [hf2 6 i (by simp)]; exact h61
    have hnv3 : WN s2 n v := hnv2.fr hf2 (by simp; omega) (by simp; omega)
    show V X _ w1 _ _ s2 []
    refine v_aload_n hX 1 rfl (atL dAX2_init_0 39 rfl) ?_
    refine v_aload_n hX 3 rfl (atL dAX2_init_0 40 rfl) ?_
    refine v_eq0 e3n (v_callV hX (As := []) (rest := [.ref o]) (c_X5_byteLength _ w1 s2 n v hn1 hnv3) lk_X2_20 hn1 (fun _ => rfl) rfl rfl rfl (by rw [hR]; exact ⟨Nat.le_of_ble_eq_true rfl, Nat.le_of_ble_eq_true rfl⟩) (zB _ ⟨by show 1 + 2 * P ≤ 17; omega, by show P + 82 * P ≤ 664; omega⟩) rfl (Nat.le_of_ble_eq_true rfl) (atL dAX2_init_0 41 rfl) (fun a s3 hp3 => ?_))
    obtain ⟨ha, hs3⟩ := hp3
    subst hs3
    subst ha
    show V X _ w1 _ _ s3 [.int (iI (((blen v + 7) / 8 : Nat) : Int)), .ref o]
    refine v_eq1 e5 (v_putG hX (k := 5) (i := i) (ci := 2) (j := 1) (v := .int (iI (((blen v + 7) / 8 : Nat) : Int))) (ty := tyX2 1) (fs := [.ref (w1.1 6 i), .int (iI (s3 5 i 0))]) (su s3 5 i 0 (((blen v + 7) / 8 : Nat) : Int)) hl5 (fun g => rfl) hcX2 in_X2 tyX2_ok nmX2 (by decide) wd_729 rfl (Or.inr ⟨rfl, hnm, rfl⟩) (tyX2_ok 1 (by decide)) rfl rfl (Nat.le_of_ble_eq_true rfl) (fun g => ?_) (fun g k' i' _ hne => ?_) (fun h k' i' hk' q hq => ?_) (atL dAX2_init_0 42 rfl) ?_)
    · show Sum.inr (ck 5, [Value.ref (w1.1 6 i), .int (iI (su s3 5 i 0 (((blen v + 7) / 8 : Nat) : Int) 5 i 0))]) = _
      rw [su_s]
      rfl
    · refine cont_congr (fun c hcc => ?_) (su_rc (by decide)) (su_rc (by decide)) (su_rc (by decide))
      by_cases ec : c = 5
      · subst ec
        exact su_ri (fun q => hne ⟨hcc.symm, q⟩)
      · rw [su_rc ec]
    · rw [mn_congr (σ := s3) (su_rc (by decide)) (su_rc (by decide)) (su_rc (by decide))] at hq
      exact h k' i' hk' q hq
    · refine v_vret hX (atL dAX2_init_0 43 rfl) (hret () _ _ ⟨⟨m, hto, hmm⟩, ⟨hP, by rw [su_c (by decide)]; exact h62, su_s, fun j hj => ?_, hv0, hv1⟩, hD2.eq (su_rc (by decide)), (hFX.tr (FX.fr hf1 ?_)).tr ((FX.fr hf2 ?_).tr (FX.su (Or.inr (Or.inl ⟨Or.inl rfl, rfl⟩))))⟩ _ ⟨by show 1 + 2 * P ≤ 17; omega, by show P + 82 * P ≤ 664; omega⟩)
      · refine WN_eq (σ := s3) ?_ (by rw [su_rc (by decide)]) (by rw [su_rc (by decide)])
        show WN s3 (32 + 8 * i + j) (if j = 0 then v else if j = 1 then x else 0)
        by_cases c0 : j = 0
        · subst c0
          rw [if_pos rfl]
          exact hs1.fr hf2 (by simp) (by simp)
        · rw [if_neg c0]
          by_cases c1 : j = 1
          · subst c1
            rw [if_pos rfl]
            exact hs2
          · rw [if_neg c1]
            exact ((hw0 j hj).fr hf1 (by simp; omega) (by simp; omega)).fr hf2 (by simp; omega) (by simp; omega)
      · intro q hq
        simp only [List.mem_cons, List.not_mem_nil, or_false] at hq
        rcases hq with rfl | rfl
        · exact Or.inr (Or.inr ⟨Or.inl rfl, by dsimp only; omega, by dsimp only; omega⟩)
        · exact Or.inr (Or.inr ⟨Or.inr rfl, by dsimp only; omega, by dsimp only; omega⟩)
      · intro q hq
        simp only [List.mem_cons, List.not_mem_nil, or_false] at hq
        rcases hq with rfl | rfl
        · exact Or.inr (Or.inr ⟨Or.inl rfl, by dsimp only; omega, by dsimp only; omega⟩)
        · exact Or.inr (Or.inr ⟨Or.inr rfl, by dsimp only; omega, by dsimp only; omega⟩)
  have loop : ∀ (d j : Nat) (w0 : Wl) (τ : St) (m : List (Nat × Nat)), d + j = P → Wad w w0 m → (∀ q, q ∈ m ↔ q = (36, i) ∨ ((q.1 = 3 ∨ q.1 = 4) ∧ 32 + 8 * i ≤ q.2 ∧ q.2 < 32 + 8 * i + j)) → τ 21 5 i = 1 → τ 21 6 i = (j : Int) → τ 6 i 0 = (P : Int) → τ 5 i 0 = 0 → (∀ t, t < j → WN τ (32 + 8 * i + t) 0) → AD τ → FX i σ τ → V X (1 + 2 * j, P + 82 * j) w0 25 [(4, .int (iI (j : Int))), (0, .ref o), (1, .int (iI (P : Int))), (2, .ref (w.1 3 n)), (3, .ref (w.1 3 e))] τ [] := by
    intro d
    induction d with
    | zero =>
      intro j w0 τ m hj hw0 hml h21 h216 h6 h5 hwn hD hFX
      have hjP : j = P := by omega
      have hl0 := hw0.old hl
      have hl36 : w0.2 36 i := hw0.new ((hml _).mpr (Or.inl rfl))
      have eP : ((τ 6 i 0).toNat : Int) = (P : Int) := by rw [h6]; omega
      refine v_iload hX 0 rfl (atL dAX2_init_0 13 rfl) ?_
      refine v_aload_n hX 1 rfl (atL dAX2_init_0 14 rfl) ?_
      refine v_eq0 ((hw0.2 _ _ hl).trans ho) (v_getf hX (k := 35) (i := i) (ci := 2) (j := 0) (v := .ref (w0.1 36 i)) (fs := (rawL 5 i).map (fr w0.1 1)) hl0 (fun g => by show raw _ _ 5 i = _; unfold raw; rw [h21]; rfl) rfl in_X2 (by decide) wd_728 rfl rfl (atL dAX2_init_0 15 rfl) ?_)
      refine v_alen hX (k := 36) (i := i) (n := (τ 6 i 0).toNat) (t := 6) hl36 (fun _ => rfl) (fun _ => rfl) (atL dAX2_init_0 16 rfl) ?_
      rw [eP]
      refine v_icmp_ge hX ⟨by omega, by omega⟩ ⟨by omega, by omega⟩ (tgt := 55) (atL dAX2_init_0 17 rfl) (by decide) (fun h32 => ?_) (fun h32 => absurd h32 (by omega))
      subst hjP
      have f5 : ¬ w0.2 5 i := hw0.fr hf5 (fun q => by have := (hml _).mp q; simp at this)
      have f6 : ¬ w0.2 6 i := hw0.fr hf6 (fun q => by have := (hml _).mp q; simp at this)
      refine v_done2 (k := 5) (i := i) (ka := 6) (j := i) hl0 hl36 f5 f6 (by decide) (by decide) (by decide) (fun k' i' hk' hne q hq => ?_) (fun q hq => ?_) (fun q hq => ?_) (fun D g H ad a had hv => ?_) (fun D g H ad a hv => ?_) ?_
      · by_cases h30 : 30 ≤ q.1
        · rcases mn_raw hq h30 with ⟨-, rfl⟩ | ⟨rfl, rfl⟩
          · exact ⟨fun e => absurd e.1 (by decide), fun e => absurd e.1 (by decide)⟩
          · exact ⟨fun e => absurd (show 36 = 35 from e.1) (by decide), fun e => hne ⟨rfl, e.2⟩⟩
        · exact ⟨fun e => by omega, fun e => by omega⟩
      · have hq2 : q ∈ [(6, i)] := hq
        exact Or.inl (List.mem_singleton.mp hq2)
      · have hq2 : q ∈ (List.range (τ 6 i 0).toNat).map (fun j => (3, 32 + 8 * i + j)) := hq
        obtain ⟨t, ht, rfl⟩ := List.mem_map.mp hq2
        have ht2 := List.mem_range.mp ht
        show (3, 32 + 8 * i + t) ∈ ((List.range (τ 6 i 0).toNat).filter (fun j : Nat => decide ((j : Int) < τ 21 6 i))).map (fun j => (3, 32 + 8 * i + j))
        exact List.mem_map.mpr ⟨t, List.mem_filter.mpr ⟨ht, decide_eq_true (by rw [h216]; omega)⟩, rfl⟩
      · show va_at D vwCl (a, ob ad τ 5 i) H
        rw [done_key had h21 h5]
        exact hv
      · refine at_rfs (f := fun j => if (j : Int) < τ 21 6 i then some (ad 3 (32 + 8 * i + j)) else none) (fun j hj => ?_) hv
        show (if (j : Int) < τ 6 i 0 then some (ad 3 (32 + 8 * i + j)) else none) = if (j : Int) < τ 21 6 i then some (ad 3 (32 + 8 * i + j)) else none
        rw [h6, h216]
      · refine P3 _ τ ((6, i) :: m.filter (fun q => decide (q ≠ (36, i)))) (Wto.of2 hw0 hl f5 f6 (fun q => by have := (hml _).mp q; simp at this) hf36 (by decide) (by decide) (by decide) (fun q hq => ?_) (fun q hq => ?_) (List.mem_cons_self ..)) (fun q => ?_) h6 hwn hD hFX
        · rcases List.mem_cons.mp hq with h | h
          · exact Or.inl h
          · have := List.mem_filter.mp h
            exact Or.inr ⟨this.1, of_decide_eq_true this.2⟩
        · by_cases c : q = (36, i)
          · exact Or.inl c
          · exact Or.inr (List.mem_cons_of_mem _ (List.mem_filter.mpr ⟨hq, decide_eq_true c⟩))
        · rw [List.mem_cons, List.mem_filter, hml q, decide_eq_true_eq]
          obtain ⟨a, b⟩ := q
          simp only [Prod.mk.injEq, ne_eq]
          omega
    | succ d ih =>
      intro j w0 τ m hj hw0 hml h21 h216 h6 h5 hwn hD hFX
      have hjP : j < P := by omega
      have hl0 := hw0.old hl
      have hl36 : w0.2 36 i := hw0.new ((hml _).mpr (Or.inl rfl))
      have eP : ((τ 6 i 0).toNat : Int) = (P : Int) := by rw [h6]; omega
      obtain ⟨ix, hix⟩ : ∃ q, q = 32 + 8 * i + j := ⟨_, rfl⟩
      have hno : ∀ k, k ≠ 36 → (k, ix) ∉ m := fun k hk q => by have := (hml _).mp q; simp at this; omega
      refine v_iload hX 0 rfl (atL dAX2_init_0 13 rfl) ?_
      refine v_aload_n hX 1 rfl (atL dAX2_init_0 14 rfl) ?_
      refine v_eq0 ((hw0.2 _ _ hl).trans ho) (v_getf hX (k := 35) (i := i) (ci := 2) (j := 0) (v := .ref (w0.1 36 i)) (fs := (rawL 5 i).map (fr w0.1 1)) hl0 (fun g => by show raw _ _ 5 i = _; unfold raw; rw [h21]; rfl) rfl in_X2 (by decide) wd_728 rfl rfl (atL dAX2_init_0 15 rfl) ?_)
      refine v_alen hX (k := 36) (i := i) (n := (τ 6 i 0).toNat) (t := 6) hl36 (fun _ => rfl) (fun _ => rfl) (atL dAX2_init_0 16 rfl) ?_
      rw [eP]
      refine v_icmp_ge hX ⟨by omega, by omega⟩ ⟨by omega, by omega⟩ (tgt := 55) (atL dAX2_init_0 17 rfl) (by decide) (fun h32 => absurd h32 (by omega)) (fun h32 => ?_)
      refine v_aload_n hX 1 rfl (atL dAX2_init_0 18 rfl) ?_
      refine v_eq0 ((hw0.2 _ _ hl).trans ho) (v_getf hX (k := 35) (i := i) (ci := 2) (j := 0) (v := .ref (w0.1 36 i)) (fs := (rawL 5 i).map (fr w0.1 1)) hl0 (fun g => by show raw _ _ 5 i = _; unfold raw; rw [h21]; rfl) rfl in_X2 (by decide) wd_728 rfl rfl (atL dAX2_init_0 19 rfl) ?_)
      refine v_iload hX 0 rfl (atL dAX2_init_0 20 rfl) ?_
      have hfj := hfw j (by omega)
      rw [← hix] at hfj
      have f3 : ¬ w0.2 3 ix := hw0.fr hfj.1 (hno _ (by decide))
      have f4 : ¬ w0.2 4 ix := hw0.fr hfj.2.1 (hno _ (by decide))
      have f33 : ¬ w0.2 33 ix := hw0.fr hfj.2.2 (hno _ (by decide))
      refine v_zr (c := 2) (i := ix) (by decide) (by decide) (by decide) f3 ?_
      refine v_zr (c := 3) (i := ix) (by decide) (by decide) (by decide) f4 ?_
      obtain ⟨τz, hτz⟩ : ∃ q, q = zr (zr τ 2 ix) 3 ix := ⟨_, rfl⟩
      have hz2 : τz 2 ix 0 = 0 := by rw [hτz, zr_c (by decide), zr_s]
      have hz3 : ∀ t, τz 3 ix t = 0 := fun t => by rw [hτz, zr_s]
      have hzc : ∀ c, c ≠ 2 → c ≠ 3 → τz c = τ c := fun c h2 h3 => by rw [hτz, zr_c h3, zr_c h2]
      have hzi : ∀ q, q ≠ ix → τz 2 q = τ 2 q ∧ τz 3 q = τ 3 q := fun q hq => by rw [hτz]; exact ⟨by rw [zr_c (by decide), zr_i hq], by rw [zr_i hq, zr_c (by decide)]⟩
      have hDz : AD τz := by rw [hτz]; exact (hD.eq (s := zr τ 2 ix) (zr_c (by decide))).zr
      have hFz : FX i τ τz := by rw [hτz]; exact (FX.zr (Or.inr (Or.inr ⟨Or.inl rfl, by omega, by omega⟩))).tr (FX.zr (Or.inr (Or.inr ⟨Or.inr rfl, by omega, by omega⟩)))
      rw [← hτz]
      refine nw_X2_9 hX (i := ix) f33 (zB (1 + 2 * j + 1, P + 82 * j + 2) ⟨by show 1 + 2 * j + 1 ≤ 17; omega, by show P + 82 * j + 2 ≤ 664; omega⟩) (atL dAX2_init_0 21 rfl) (fun a => ?_)
      refine v_dup hX rfl (atL dAX2_init_0 22 rfl) ?_
      refine v_callI hX (As := []) (rest := [.ref a, .int (iI (j : Int)), .ref (w0.1 36 i)]) (c_X5_init _ _ _ (i := ix) (o := a) wup_new wup_at (wup_fr f3 (fun e => absurd e.1 (by decide))) (wup_fr f4 (fun e => absurd e.1 (by decide))) su_s ((su_c (by decide)).trans hz2) (fun t => (su_c (by decide)).trans (hz3 t))) li_X2_15 rfl (by rw [hR]; exact ⟨Nat.le_of_ble_eq_true rfl, Nat.le_of_ble_eq_true rfl⟩) (zB (1 + 2 * j + 1 + 1, P + 82 * j + 2 + 80) ⟨by show 1 + 2 * j + 1 + 1 ≤ 17; omega, by show P + 82 * j + 2 + 80 ≤ 664; omega⟩) rfl (Nat.le_of_ble_eq_true rfl) (atL dAX2_init_0 23 rfl) (fun _ w1 τ1 hp => ?_)
      obtain ⟨hwt, hF1⟩ := hp
      obtain ⟨hw1, ha1⟩ := Wad.mk hw0 f33 hwt
      have hF2 : F21 [3] τz τ1 := (F21.su (ks := [3]) (by decide)).tr hF1 (by decide)
      have g21 : τ1 21 5 i = 1 := hF2.n (by decide) (by rw [hzc 21 (by decide) (by decide)]; exact h21)
      have g216 : τ1 21 6 i = (j : Int) := hF2.n (by decide) (by rw [hzc 21 (by decide) (by decide)]; exact h216)
      have g6 : τ1 6 i 0 = (P : Int) := hF2.z (by decide) (by rw [hzc 6 (by decide) (by decide)]; exact h6)
      have g5 : τ1 5 i 0 = 0 := hF2.z (by decide) (by rw [hzc 5 (by decide) (by decide)]; exact h5)
      have hml1 : ∀ q, q ∈ (3, ix) :: ([(4, ix)] ++ m) ↔ q = (36, i) ∨ ((q.1 = 3 ∨ q.1 = 4) ∧ 32 + 8 * i ≤ q.2 ∧ q.2 < 32 + 8 * i + (j + 1)) := fun q => by
        rw [List.mem_cons, List.mem_append, List.mem_singleton, hml q]
        obtain ⟨a, b⟩ := q
        simp only [Prod.mk.injEq]
        omega
      have hl1 := hw1.old hl
      have hl36b : w1.2 36 i := hw1.new ((hml1 _).mpr (Or.inl rfl))
      have hl3j : w1.2 3 ix := hw1.new (List.mem_cons_self ..)
      have e36 : w1.1 36 i = w0.1 36 i := (hwt.2.1 36 i (Or.inl hl36) (fun e => absurd e.1 (by decide))).trans (Wle.up f33 36 i hl36).2
      show V X _ w1 _ _ τ1 [.ref a, .int (iI (j : Int)), .ref (w0.1 36 i)]
      rw [← e36, ← ha1]
      have eN1 : (τ1 6 i 0).toNat = P := by rw [g6]; omega
      have eN2 : (su τ1 21 6 i ((j : Int) + 1) 6 i 0).toNat = P := by rw [su_c (by decide)]; exact eN1
      refine v_ast hX (n := P) (j := j) (k := 36) (i := i) (t := 6) (kv := 3) (iv := ix) (ci := 5) (r := (_, _, _)) (vs := _) (f := fun ad q => if (q : Int) < τ1 21 6 i then some (ad 3 (32 + 8 * i + q)) else none) (f' := fun ad q => if (q : Int) < su τ1 21 6 i ((j : Int) + 1) 21 6 i then some (ad 3 (32 + 8 * i + q)) else none) (su τ1 21 6 i ((j : Int) + 1)) (fun _ => rfl) hl36b hl3j (fun g => ?_) (fun _ => rfl) rfl rfl hjP (by omega) (fun g => ?_) (fun q hq => ?_) (fun g k' i' h1 h2 => cont_r6 h2) (fun hcl2 k' i' h1 q hq => ?_) (atL dAX2_init_0 24 rfl) ?_
      · show (Sum.inl (g 6, (τ1 6 i 0).toNat, rfs (fun q => if (q : Int) < τ1 21 6 i then some (w1.1 3 (32 + 8 * i + q)) else none)) : va_E) = _
        rw [eN1]
      · show (Sum.inl (g 6, (su τ1 21 6 i ((j : Int) + 1) 6 i 0).toNat, rfs (fun q => if (q : Int) < su τ1 21 6 i ((j : Int) + 1) 21 6 i then some (w1.1 3 (32 + 8 * i + q)) else none)) : va_E) = _
        rw [eN2]
      · show (if (q : Int) < su τ1 21 6 i ((j : Int) + 1) 21 6 i then some (w1.1 3 (32 + 8 * i + q)) else none) = if q = j then some (w1.1 3 ix) else if (q : Int) < τ1 21 6 i then some (w1.1 3 (32 + 8 * i + q)) else none
        rw [su_s, g216]
        by_cases c : q = j
        · rw [if_pos (by omega), if_pos c, hix, c]
        · rw [if_neg c]
          by_cases c2 : (q : Int) < (j : Int)
          · rw [if_pos (by omega), if_pos c2]
          · rw [if_neg (by omega), if_neg c2]
      · by_cases c : k' = 36 ∧ i' = i
        · obtain ⟨rfl, rfl⟩ := c
          have hq2 : q ∈ ((List.range (su τ1 21 6 i' ((j : Int) + 1) 6 i' 0).toNat).filter (fun t : Nat => decide ((t : Int) < su τ1 21 6 i' ((j : Int) + 1) 21 6 i'))).map (fun t => (3, 32 + 8 * i' + t)) := hq
          obtain ⟨t, ht, rfl⟩ := List.mem_map.mp hq2
          have h3 := (List.mem_filter.mp ht).2
          rw [su_s] at h3
          have h4 : (t : Int) < (j : Int) + 1 := of_decide_eq_true h3
          exact hw1.new ((hml1 _).mpr (Or.inr ⟨Or.inl rfl, by show 32 + 8 * i' ≤ 32 + 8 * i' + t; omega, by show 32 + 8 * i' + t < 32 + 8 * i' + (j + 1); omega⟩))
        · rw [mn_r6 c] at hq
          exact hcl2 k' i' h1 q hq
      · refine v_iinc hX (lv' := [(4, .int (iI ((j : Int) + 1))), (0, .ref o), (1, .int (iI (P : Int))), (2, .ref (w.1 3 n)), (3, .ref (w.1 3 e))]) 0 rfl (iI_add _ _) (Nat.le_of_ble_eq_true rfl) rfl (atL dAX2_init_0 25 rfl) ?_
        refine v_goto hX (tgt := 25) (atL dAX2_init_0 26 rfl) (by decide) ?_
        have hzz : ((1 + 2 * j + 1 + 1, P + 82 * j + 2 + 80) : Nat × Nat) = (1 + 2 * (j + 1), P + 82 * (j + 1)) := by
          rw [Prod.mk.injEq]
          omega
        show V X (1 + 2 * j + 1 + 1, P + 82 * j + 2 + 80) w1 25 _ _ []
        rw [hzz]
        refine ih (j + 1) w1 _ _ (by omega) hw1 hml1 ((su_i (by decide)).trans g21) su_s ((su_c (by decide)).trans g6) ((su_c (by decide)).trans g5) (fun t ht => ?_) ((hDz.eq (hF2.1 3 (by decide))).eq (su_rc (by decide))) (((hFX.tr hFz).tr (FX.f21 hF2)).tr (FX.su (Or.inl rfl)))
        refine WN_eq (σ := τz) ?_ (by rw [su_rc (by decide), hF2.1 2 (by decide)]) (by rw [su_rc (by decide), hF2.1 3 (by decide)])
        by_cases c : t = j
        · rw [c, ← hix]
          exact WN_z hz2 hz3
        · have hne : 32 + 8 * i + t ≠ ix := by omega
          exact WN_eq (hwn t (by omega)) (hzi _ hne).1 (hzi _ hne).2
  have P1 : V X (0, 0) w 16 [(0, .ref o), (1, .int (iI (P : Int))), (2, .ref (w.1 3 n)), (3, .ref (w.1 3 e))] σ [.int (iI (P : Int)), .ref o] := by
    refine v_zr (c := 5) (i := i) (by decide) (by decide) (by decide) hf5 ?_
    refine v_alt (su (zr σ 5 i) 6 i 0 (P : Int)) (fun g k' i' hk => cont_6 (fun e => hf6 (by rw [← e.1, ← e.2]; exact hk)) (fun e => hf36 (by rw [← e.1, ← e.2]; exact hk))) (fun k' i' hk => mn_6 (fun e => hf6 (by rw [← e.1, ← e.2]; exact hk)) (fun e => hf36 (by rw [← e.1, ← e.2]; exact hk))) ?_
    refine v_alt (su (su (zr σ 5 i) 6 i 0 (P : Int)) 21 6 i 0) (fun g k' i' hk => cont_r6 (fun e => hf36 (by rw [← e.1, ← e.2]; exact hk))) (fun k' i' hk => mn_r6 (fun e => hf36 (by rw [← e.1, ← e.2]; exact hk))) ?_
    obtain ⟨τ, hτ⟩ : ∃ q, q = su (su (zr σ 5 i) 6 i 0 (P : Int)) 21 6 i 0 := ⟨_, rfl⟩
    have t5 : τ 5 i 0 = 0 := by rw [hτ, su_c (by decide), su_c (by decide), zr_s]
    have t6 : τ 6 i 0 = (P : Int) := by rw [hτ, su_c (by decide), su_s]
    have t21 : τ 21 6 i = 0 := by rw [hτ, su_s]
    have t215 : τ 21 5 i = 0 := by rw [hτ, su_i (by decide), su_c (by decide), zr_c (by decide)]; exact hc
    have tD : AD τ := by rw [hτ]; exact hAD.eq (by rw [su_rc (by decide), su_rc (by decide), zr_c (by decide)])
    have tF : FX i σ τ := by rw [hτ]; exact ((FX.zr (Or.inr (Or.inl ⟨Or.inl rfl, rfl⟩))).tr (FX.su (Or.inr (Or.inl ⟨Or.inr rfl, rfl⟩)))).tr (FX.su (Or.inl rfl))
    rw [← hτ]
    have eN1 : (τ 6 i 0).toNat = P := by rw [t6]; omega
    refine v_newQ hX (n := P) (k := 36) (i := i) (t := 6) (C := "SealHouse$Whole") (f := fun ad q => if (q : Int) < τ 21 6 i then some (ad 3 (32 + 8 * i + q)) else none) wd_723 nw_12 (fun _ => rfl) rfl (by omega) hf36 (fun g ad => ?_) (fun ad q _ => if_neg (by rw [t21]; omega)) ?_ (zB (0 + 1, 0 + P) ⟨by show 0 + 1 ≤ 17; omega, by show 0 + P ≤ 664; omega⟩) (atL dAX2_init_0 9 rfl) (fun a => ?_)
    · show (Sum.inl (g 6, (τ 6 i 0).toNat, rfs (fun q => if (q : Int) < τ 21 6 i then some (ad 3 (32 + 8 * i + q)) else none)) : va_E) = _
      rw [eN1]
    · show ((List.range (τ 6 i 0).toNat).filter (fun j : Nat => decide ((j : Int) < τ 21 6 i))).map (fun j => (3, 32 + 8 * i + j)) = []
      rw [t21, List.filter_eq_nil_iff.mpr (fun j _ => by rw [decide_eq_true_eq]; omega)]
      rfl
    have hw0 : Wad w (wup w 36 i a) [(36, i)] := Wad.rf.up hf36
    have ha : (wup w 36 i a).1 36 i = a := wup_at
    obtain ⟨w0, hew⟩ : ∃ q, wup w 36 i a = q := ⟨_, rfl⟩
    rw [hew] at hw0 ha
    rw [hew]
    refine v_eq2 ha ((hw0.2 _ _ hl).trans ho) (rp_X2_11 hX hnm (hw0.old hl) (hw0.new (List.mem_singleton.mpr rfl)) t215 (atL dAX2_init_0 10 rfl) ?_)
    refine v_iconst hX (atL dAX2_init_0 11 rfl) ?_
    refine v_istore hX (lv' := [(4, .int (iI 0)), (0, .ref o), (1, .int (iI (P : Int))), (2, .ref (w.1 3 n)), (3, .ref (w.1 3 e))]) (Nat.le_of_ble_eq_true rfl) rfl (atL dAX2_init_0 12 rfl) ?_
    have hz0 : ((0 + 1, 0 + P) : Nat × Nat) = (1 + 2 * 0, P + 82 * 0) := by
      rw [Prod.mk.injEq]
      omega
    show V X (0 + 1, 0 + P) w0 25 _ _ []
    rw [hz0]
    refine loop P 0 w0 _ _ (by omega) hw0 (fun q => ?_) su_s ((su_i (by decide)).trans t21) ((su_c (by decide)).trans t6) ((su_c (by decide)).trans t5) (fun t ht => absurd ht (by omega)) (tD.eq (su_rc (by decide))) (tF.tr (FX.su (Or.inl rfl)))
    rw [List.mem_singleton]
    obtain ⟨a, b⟩ := q
    simp only [Prod.mk.injEq]
    omega
  refine v_aload_n hX 0 rfl (atL dAX2_init_0 0 rfl) ?_
  refine oi_X2_1 hX (by rw [hR]; exact ⟨Nat.le_of_ble_eq_true rfl, Nat.le_of_ble_eq_true rfl⟩) (atL dAX2_init_0 1 rfl) ?_
  refine v_aload_n hX 0 rfl (atL dAX2_init_0 2 rfl) ?_
  refine v_iload_n hX 1 rfl (atL dAX2_init_0 3 rfl) ?_
  refine v_iconst hX (atL dAX2_init_0 4 rfl) ?_
  refine v_icmp_ne hX ⟨by omega, by omega⟩ ⟨by omega, by omega⟩ (tgt := 14) (atL dAX2_init_0 5 rfl) (by decide) (fun h7 => ?_) (fun h7 => ?_)
  · refine v_bipush hX (by decide +kernel) (atL dAX2_init_0 8 rfl) ?_
    rw [show (8 : Int) = (P : Int) from by omega]
    exact P1
  · refine v_iconst hX (atL dAX2_init_0 6 rfl) ?_
    refine v_goto hX (tgt := 16) (atL dAX2_init_0 7 rfl) (by decide) ?_
    rw [← h7]
    exact P1
