/-! a key is kept -/
theorem cont_7 {g : Nat → ClassId} {ad : Ly} {σ : St} {n k' i' : Nat} {v : Int} (h : k' ≠ 12) : cont g ad (su σ 7 0 n v) k' i' = cont g ad σ k' i' := by
  have e6 : su σ 7 0 n v 6 = σ 6 := su_rc (by decide)
  have e21 : su σ 7 0 n v 21 = σ 21 := su_rc (by decide)
  unfold cont
  split
  all_goals first
    | rfl
    | (exact ob_congr (fun c hc => by rw [su_rc (fun e => by rw [e] at hc; cases hc)]))
    | (unfold raw; rw [e21]; done)
    | (rw [e6, e21]; done)
    | (rw [e6]; done)
    | (rw [e21]; done)
    | (exact absurd rfl h)
theorem mn_7 {σ : St} {n k' i' : Nat} {v : Int} (h : k' ≠ 12) : mn (su σ 7 0 n v) k' i' = mn σ k' i' := by
  have e6 : su σ 7 0 n v 6 = σ 6 := su_rc (by decide)
  have e21 : su σ 7 0 n v 21 = σ 21 := su_rc (by decide)
  unfold mn
  split
  all_goals first
    | rfl
    | (rw [e6, e21]; done)
    | (rw [e6]; done)
    | (rw [e21]; done)
    | (exact absurd rfl h)
/-- what lasts is as it was, but for key k -/
def FK (k : Nat) (σ s : St) : Prop := ∀ c i, Hk c i → c ≠ 21 → ¬ ((c = 5 ∨ c = 6) ∧ i = k) → ¬ ((c = 2 ∨ c = 3) ∧ 32 + 8 * k ≤ i ∧ i < 40 + 8 * k) → s c i = σ c i
theorem FK.rf {k : Nat} {σ : St} : FK k σ σ := fun _ _ _ _ _ _ => rfl
theorem FX.fk {k : Nat} {σ s : St} (h : FX k σ s) : FK k σ s := fun c i _ a b d => h c i a b d
theorem FH.fk {k : Nat} {σ s : St} (h : FH 99 σ s) : FK k σ s := fun c i hk _ _ _ => h c i hk (fun q => by unfold Hk at hk; omega)
theorem FK.tr {k : Nat} {σ s t : St} (h : FK k σ s) (g : FK k s t) : FK k σ t := fun c i e a b d => (g c i e a b d).trans (h c i e a b d)
theorem FK.fr {k : Nat} {σ s t : St} {l : List (Nat × Nat)} (h : FK k σ s) (f : Fr l s t) (hl : ∀ q ∈ l, Hk q.1 q.2 → ((q.1 = 2 ∨ q.1 = 3) ∧ 32 + 8 * k ≤ q.2 ∧ q.2 < 40 + 8 * k)) : FK k σ t := fun c i e a b d => (f c i (fun q => d (hl _ q e))).trans (h c i e a b d)
theorem FX.ar {k : Nat} {σ s : St} (h : FX k σ s) (g : AR σ) : AR s := fun i => by
  have e0 := h 0 i (by decide) (fun q => by omega) (fun q => by omega)
  have e1 := h 1 i (by decide) (fun q => by omega) (fun q => by omega)
  unfold okR
  rw [e0, e1]
  exact g i
theorem KY.up {σ s : St} {k P j v : Nat} {K : Nat → Nat} {l : List (Nat × Nat)} (h : KY σ k P K) (hj0 : j ≠ 0) (f : Fr l σ s) (h5 : (5, k) ∉ l) (h6 : (6, k) ∉ l) (hl : ∀ t, t < P → t ≠ j → (2, 32 + 8 * k + t) ∉ l ∧ (3, 32 + 8 * k + t) ∉ l) (hw : WN s (32 + 8 * k + j) v) : KY s k P (fun t => if t = j then v else K t) := by
  obtain ⟨a1, a2, a3, a4, a5, a6⟩ := h
  have e0 : (fun t => if t = j then v else K t) 0 = K 0 := if_neg (fun q : 0 = j => hj0 q.symm)
  refine ⟨a1, by rw [f 6 k h6]; exact a2, by rw [f 5 k h5, e0]; exact a3, fun t ht => ?_, by rw [e0]; exact a5, by rw [e0]; exact a6⟩
  show WN s (32 + 8 * k + t) (if t = j then v else K t)
  by_cases c : t = j
  · rw [if_pos c, c]
    exact hw
  · rw [if_neg c]
    exact (a4 t ht).fr f (hl t ht c).1 (hl t ht c).2
theorem KY.frl {σ s : St} {k P : Nat} {K : Nat → Nat} {l : List (Nat × Nat)} (h : KY σ k P K) (f : Fr l σ s) (h5 : (5, k) ∉ l) (h6 : (6, k) ∉ l) (hl : ∀ t, t < P → (2, 32 + 8 * k + t) ∉ l ∧ (3, 32 + 8 * k + t) ∉ l) : KY s k P K := by
  obtain ⟨a1, a2, a3, a4, a5⟩ := h
  exact ⟨a1, by rw [f 6 k h6]; exact a2, by rw [f 5 k h5]; exact a3, fun t ht => (a4 t ht).fr f (hl t ht).1 (hl t ht).2, a5⟩
theorem KY.congr {σ : St} {k P : Nat} {K L : Nat → Nat} (h : KY σ k P K) (e : ∀ j, j < P → K j = L j) : KY σ k P L := by
  have h2 := h.le
  have e0 := e 0 (by omega)
  obtain ⟨a1, a2, a3, a4, a5, a6⟩ := h
  exact ⟨a1, a2, by rw [← e0]; exact a3, fun j hj => by rw [← e j hj]; exact a4 j hj, by rw [← e0]; exact a5, by rw [← e0]; exact a6⟩
/-- one key more in the house -/
theorem HS.add {σ s t : St} {A : Ab} {P : Nat} {K : Nat → Nat} (h : HS σ A) (hk : A.2.1 < 16) (f : FK A.2.1 σ s) (hA : AR s) (hD : AD s) (hK : KY s A.2.1 P K) (e : t = su (su s 7 0 A.2.1 1) 4 0 0 ((A.2.1 : Int) + 1)) : HS t (A.add P K) := by
  subst e
  obtain ⟨h1, -, -, h4, h5, h6, h7⟩ := h
  have hc : ∀ c, c ≠ 4 → c ≠ 7 → su (su s 7 0 A.2.1 1) 4 0 0 ((A.2.1 : Int) + 1) c = s c := fun c a b => by rw [su_rc a, su_rc b]
  have f7 := f 7 0 (Or.inr (Or.inr (Or.inl ⟨by omega, by omega⟩))) (by decide) (fun q => by omega) (fun q => by omega)
  have hwn : ∀ i v, WN s i v → WN (su (su s 7 0 A.2.1 1) 4 0 0 ((A.2.1 : Int) + 1)) i v := fun i v g => WN_eq g (by rw [hc 2 (by decide) (by decide)]) (by rw [hc 3 (by decide) (by decide)])
  have hrw : ∀ i, row (su (su s 7 0 A.2.1 1) 4 0 0 ((A.2.1 : Int) + 1)) i = row s i := fun i => by unfold row; rw [hc 0 (by decide) (by decide), hc 1 (by decide) (by decide)]
  have hok : ∀ i, okR s i → okR (su (su s 7 0 A.2.1 1) 4 0 0 ((A.2.1 : Int) + 1)) i := fun i g => by unfold okR; rw [hc 0 (by decide) (by decide), hc 1 (by decide) (by decide)]; exact g
  have hky : ∀ k Q L, KY s k Q L → KY (su (su s 7 0 A.2.1 1) 4 0 0 ((A.2.1 : Int) + 1)) k Q L := fun k Q L g => ⟨g.1, by rw [hc 6 (by decide) (by decide)]; exact g.2.1, by rw [hc 5 (by decide) (by decide)]; exact g.2.2.1, fun j hj => hwn _ _ (g.2.2.2.1 j hj), g.2.2.2.2⟩
  refine ⟨fun i hi => ?_, fun i => hok i (hA i), hD.eq (hc 3 (by decide) (by decide)), by rw [su_s]; rfl, hk, fun j hj => ?_, fun k hk2 => ?_⟩
  · show RW _ i (A.1 i)
    have g := h1 i hi
    have e0 := f 0 i (Or.inl ⟨Or.inl rfl, hi⟩) (by decide) (fun q => by omega) (fun q => by omega)
    have e1 := f 1 i (Or.inl ⟨Or.inr rfl, hi⟩) (by decide) (fun q => by omega) (fun q => by omega)
    refine ⟨hok i (hA i), (hrw i).trans ?_⟩
    rw [← g.2]
    unfold row
    rw [e0, e1]
  · rw [su_c (by decide), su_e, f7, h6 j hj]
    show _ = if j < A.2.1 + 1 then 1 else 0
    by_cases c : j = A.2.1
    · rw [if_pos c, if_pos (by omega)]
    · rw [if_neg c]
      by_cases c2 : j < A.2.1
      · rw [if_pos c2, if_pos (by omega)]
      · rw [if_neg c2, if_neg (by omega)]
  · show KY _ k (if k = A.2.1 then P else A.2.2.1 k) (if k = A.2.1 then K else A.2.2.2 k)
    by_cases c : k = A.2.1
    · rw [if_pos c, if_pos c, c]
      exact hky _ _ _ hK
    · rw [if_neg c, if_neg c]
      have hk3 : k < A.2.1 := by have : k < A.2.1 + 1 := hk2; omega
      have g := h7 k hk3
      refine hky _ _ _ ⟨g.1, ?_, ?_, fun j hj => ?_, g.2.2.2.2⟩
      · rw [f 6 k (Or.inr (Or.inr (Or.inl ⟨by omega, by omega⟩))) (by decide) (fun q => by omega) (fun q => by omega)]
        exact g.2.1
      · rw [f 5 k (Or.inr (Or.inr (Or.inl ⟨by omega, by omega⟩))) (by decide) (fun q => by omega) (fun q => by omega)]
        exact g.2.2.1
      · have h8 := g.le
        refine WN_eq (g.2.2.2.1 j hj) ?_ ?_
        · exact f 2 _ (Or.inr (Or.inl ⟨Or.inl rfl, by omega⟩)) (by decide) (fun q => by omega) (fun q => by omega)
        · exact f 3 _ (Or.inr (Or.inl ⟨Or.inr rfl, by omega⟩)) (by decide) (fun q => by omega) (fun q => by omega)
set_option maxHeartbeats 1000000 in
set_option maxRecDepth 100000 in
theorem c_X6_keep (l : Launch) (w : Wl) (σ : St) (hk0 : w.2 0 0) (h12 : ∀ q, w.2 12 q → q = 0) (n : Nat) (hn : n < 16) (h4 : σ 4 0 0 = (n : Int)) (hkv : w.2 5 n) : Cn l yX6_keep cX6_keep 2 (Option.some Jvm.ClassFile.FieldType.int) 0 0 wI [.ref (w.1 0 0), .ref (w.1 5 n)] w σ (fun a σ' => a = (n : Int) ∧ σ' = su (su σ 7 0 n 1) 4 0 0 ((n : Int) + 1)) := by
  refine Cn.of (own := RX6) (lv := [(0, .ref (w.1 0 0)), (1, .ref (w.1 5 n))]) (by decide +kernel) rfl (Nat.le_of_ble_eq_true rfl) rfl (fun X hX hxl hR hcl hret => ?_)
  subst hxl
  have hl12 : w.2 12 0 := hcl 0 0 hk0 (12, 0) (by simp [mn, tp])
  refine v_aload_n hX 0 rfl (atL dAX6_keep_0 0 rfl) ?_
  refine gf_X6_28 hX (v := (n : Int)) h4 hk0 (atL dAX6_keep_0 1 rfl) ?_
  refine v_if_lt hX ⟨by omega, by omega⟩ (tgt := 16) (atL dAX6_keep_0 2 rfl) (by decide) (fun h => absurd h (by omega)) (fun _ => ?_)
  refine v_aload_n hX 0 rfl (atL dAX6_keep_0 3 rfl) ?_
  refine gf_X6_28 hX (v := (n : Int)) h4 hk0 (atL dAX6_keep_0 4 rfl) ?_
  refine v_bipush hX (by decide +kernel) (atL dAX6_keep_0 5 rfl) ?_
  refine v_icmp_lt hX ⟨by omega, by omega⟩ ⟨by omega, by omega⟩ (tgt := 19) (atL dAX6_keep_0 6 rfl) (by decide) (fun _ => ?_) (fun h => absurd h (by omega))
  refine v_aload_n hX 0 rfl (atL dAX6_keep_0 9 rfl) ?_
  refine gf_X6_24 hX hk0 (atL dAX6_keep_0 10 rfl) ?_
  refine v_aload_n hX 0 rfl (atL dAX6_keep_0 11 rfl) ?_
  refine gf_X6_28 hX (v := (n : Int)) h4 hk0 (atL dAX6_keep_0 12 rfl) ?_
  refine v_aload_n hX 1 rfl (atL dAX6_keep_0 13 rfl) ?_
  have h12' : ∀ k' i', w.2 k' i' → ¬ (k' = 12 ∧ i' = 0) → k' ≠ 12 := fun k' i' h1 h2 h3 => h2 ⟨h3, h12 i' (by rw [← h3]; exact h1)⟩
  refine v_ast hX (n := 16) (j := n) (k := 12) (i := 0) (t := 4) (kv := 5) (iv := n) (ci := 2) (r := (_, _, _)) (vs := _) (f := fun ad q => if σ 7 0 q = 1 then some (ad 5 q) else none) (f' := fun ad q => if su σ 7 0 n 1 7 0 q = 1 then some (ad 5 q) else none) (su σ 7 0 n 1) (fun _ => rfl) hl12 hkv (fun _ => rfl) (fun _ => rfl) rfl rfl hn (by decide) (fun _ => rfl) (fun q hq => ?_) (fun g k' i' h1 h2 => cont_7 (h12' k' i' h1 h2)) (fun hcl2 k' i' h1 q hq => ?_) (atL dAX6_keep_0 14 rfl) ?_
  · show (if su σ 7 0 n 1 7 0 q = 1 then some (w.1 5 q) else none) = if q = n then some (w.1 5 n) else if σ 7 0 q = 1 then some (w.1 5 q) else none
    rw [su_e]
    by_cases c : q = n
    · rw [if_pos c, if_pos c, if_pos rfl, c]
    · rw [if_neg c, if_neg c]
  · by_cases c : k' = 12 ∧ i' = 0
    · obtain ⟨rfl, rfl⟩ := c
      have hq2 : q ∈ ((List.range 16).filter (fun j => decide (su σ 7 0 n 1 7 0 j = 1))).map (fun j => (5, j)) := hq
      obtain ⟨t, ht, rfl⟩ := List.mem_map.mp hq2
      by_cases c2 : t = n
      · rw [c2]
        exact hkv
      · have h3 := List.mem_filter.mp ht
        rw [su_j c2] at h3
        exact hcl2 12 0 h1 (5, t) (List.mem_map.mpr ⟨t, List.mem_filter.mpr h3, rfl⟩)
    · rw [mn_7 (h12' k' i' h1 c)] at hq
      exact hcl2 k' i' h1 q hq
  refine v_aload_n hX 0 rfl (atL dAX6_keep_0 15 rfl) ?_
  refine v_dup hX rfl (atL dAX6_keep_0 16 rfl) ?_
  refine gf_X6_28 hX (v := (n : Int)) ((su_c (by decide)).trans h4) hk0 (atL dAX6_keep_0 17 rfl) ?_
  refine v_iconst hX (atL dAX6_keep_0 18 rfl) ?_
  refine v_iadd hX (iI_add _ _) (atL dAX6_keep_0 19 rfl) ?_
  refine pf_X6_28 hX hk0 (atL dAX6_keep_0 20 rfl) ?_
  refine v_aload_n hX 0 rfl (atL dAX6_keep_0 21 rfl) ?_
  refine gf_X6_28 hX (v := (n : Int) + 1) su_s hk0 (atL dAX6_keep_0 22 rfl) ?_
  refine v_iconst hX (atL dAX6_keep_0 23 rfl) ?_
  refine v_isub hX (iI_sub _ _) (atL dAX6_keep_0 24 rfl) ?_
  exact v_iret hX (atL dAX6_keep_0 25 rfl) (hret _ _ ⟨by omega, rfl⟩)
set_option maxHeartbeats 2000000 in
set_option maxRecDepth 100000 in
theorem c_X6_wholeKey (l : Launch) (w : Wl) (σ : St) (hk0 : w.2 0 0) (i : Nat) (hf35 : ¬ w.2 35 i) (hf5 : ¬ w.2 5 i) (hf6 : ¬ w.2 6 i) (hf36 : ¬ w.2 36 i) (hfw : ∀ j, j < 8 → ¬ w.2 3 (32 + 8 * i + j) ∧ ¬ w.2 4 (32 + 8 * i + j) ∧ ¬ w.2 33 (32 + 8 * i + j)) (p q e : Nat) (h0 : WN σ 0 p) (h1 : WN σ 1 q) (h2 : WN σ 2 e) (h3 : WN σ 3 (p * q)) (h4 : WN σ 4 (p - 1)) (h5 : WN σ 5 (q - 1)) (hpq : p * q < 2 ^ 1024) (hp : 3 ≤ p) (hq : 3 ≤ q) (he : e < p * q) (hg : Nat.gcd p q = 1) (hg1 : Nat.gcd e (p - 1) = 1) (hg2 : Nat.gcd e (q - 1) = 1) (hA : AR σ) (hD : AD σ) : Cg l yX6_wholeKey cX6_wholeKey 2 (Option.some (Jvm.ClassFile.FieldType.object "SealHouse$Key")) 5 134 18 666 wT [.ref (w.1 0 0)] w σ (fun a w' σ' => (∃ m, Wad w w' m ∧ ∀ q, q ∈ m ↔ q = (5, i) ∨ q = (6, i) ∨ ((q.1 = 3 ∨ q.1 = 4) ∧ 32 + 8 * i ≤ q.2 ∧ q.2 < 32 + 8 * i + 8)) ∧ a = w'.1 5 i ∧ KY σ' i 8 (keyK p q e) ∧ AR σ' ∧ AD σ' ∧ FK i σ σ') := by
  refine Cg.of (own := RX6) (lv := [(0, .ref (w.1 0 0))]) (by decide +kernel) rfl (Nat.le_of_ble_eq_true rfl) rfl (fun X hX hxl hR hnm hcl hret => ?_)
  subst hxl
  have zB : ∀ z : Nat × Nat, z.1 ≤ 18 ∧ z.2 ≤ 666 → z.1 ≤ (xR X).cells ∧ z.2 ≤ (xR X).slots := fun z h => by rw [hR]; exact h
  have hp2 : p < 2 ^ 1024 := Nat.lt_of_le_of_lt (Nat.le_mul_of_pos_right p (by omega)) hpq
  have hq2 : q < 2 ^ 1024 := Nat.lt_of_le_of_lt (Nat.le_mul_of_pos_left q (by omega)) hpq
  have bp : p < 2 ^ 2048 := b1024 hp2
  have bq : q < 2 ^ 2048 := b1024 hq2
  have bp1 : p - 1 < 2 ^ 2048 := Nat.lt_of_le_of_lt (Nat.sub_le _ _) bp
  have bq1 : q - 1 < 2 ^ 2048 := Nat.lt_of_le_of_lt (Nat.sub_le _ _) bq
  have be : e < 2 ^ 2048 := b1024 (Nat.lt_trans he hpq)
  have hl1 : Nat.lcm (p - 1) (q - 1) ≤ p * q := Nat.le_trans (lcm_le2 (by omega) (by omega)) sub_mul_le
  have bl : Nat.lcm (p - 1) (q - 1) < 2 ^ 2048 := b1024 (Nat.lt_of_le_of_lt hl1 hpq)
  have hl0 : Nat.lcm (p - 1) (q - 1) ≠ 0 := lcm_pos2 (by omega) (by omega)
  have hgl : Nat.gcd e (Nat.lcm (p - 1) (q - 1)) = 1 := cop_lcm hg1 hg2
  have hpq0 : p * q ≠ 0 := Nat.mul_ne_zero (by omega) (by omega)
  have hS3 : ∀ q, q < 7 → w.2 3 q := fun q hq => hcl 0 0 hk0 (3, q) (by rcases (show q = 0 ∨ q = 1 ∨ q = 2 ∨ q = 3 ∨ q = 4 ∨ q = 5 ∨ q = 6 by omega) with rfl | rfl | rfl | rfl | rfl | rfl | rfl <;> simp [mn, tp])
  have hS7 : w.2 7 0 := hcl 0 0 hk0 (7, 0) (by simp [mn, tp])
  refine nw_X6_22 hX (i := i) hf35 (zB (0 + 1, 0 + 2) ⟨by decide, by decide⟩) (atL dAX6_wholeKey_0 0 rfl) (fun a => ?_)
  refine v_dup hX rfl (atL dAX6_wholeKey_0 1 rfl) ?_
  refine v_bipush hX (by decide +kernel) (atL dAX6_wholeKey_0 2 rfl) ?_
  have hu : Wad w (wup w 35 i a) [(35, i)] := Wad.rf.up hf35
  have u00 : (wup w 35 i a).1 0 0 = w.1 0 0 := hu.2 0 0 hk0
  refine v_aload_n hX 0 rfl (atL dAX6_wholeKey_0 3 rfl) ?_
  refine v_eq0 u00 (gf_X6_74 hX (hu.old hk0) (atL dAX6_wholeKey_0 4 rfl) ?_)
  refine v_aload_n hX 0 rfl (atL dAX6_wholeKey_0 5 rfl) ?_
  refine v_eq0 u00 (gf_X6_71 hX (hu.old hk0) (atL dAX6_wholeKey_0 6 rfl) ?_)
  have hw3 : ∀ (q : Nat) (v : Nat), WN σ q v → WN (su σ 21 5 i 0) q v := fun q v g => WN_eq g (by rw [su_rc (by decide)]) (by rw [su_rc (by decide)])
  refine v_callI hX (As := [.int (iI ((8 : Nat) : Int)), .ref ((wup w 35 i a).1 3 3), .ref ((wup w 35 i a).1 3 2)]) (rest := [.ref a]) (c_X2_init _ _ _ (i := i) (o := a) (P := 8) (Or.inr rfl) wup_new wup_at (wup_fr hf5 (fun e => absurd e.1 (by decide))) (wup_fr hf6 (fun e => absurd e.1 (by decide))) (wup_fr hf36 (fun e => absurd e.1 (by decide))) (fun j hj => ⟨wup_fr (hfw j hj).1 (fun e => absurd e.1 (by decide)), wup_fr (hfw j hj).2.1 (fun e => absurd e.1 (by decide)), wup_fr (hfw j hj).2.2 (fun e => absurd e.1 (by decide))⟩) su_s (n := 3) (v := p * q) (e := 2) (x := e) (hu.old (hS3 3 (by decide))) (hw3 _ _ h3) (by decide) hpq0 hpq (hu.old (hS3 2 (by decide))) (hw3 _ _ h2) (by decide) (hD.eq (su_rc (by decide)))) li_X6_201 rfl (by rw [hR]; exact ⟨Nat.le_of_ble_eq_true rfl, Nat.le_of_ble_eq_true rfl⟩) (zB (0 + 1 + 17, 0 + 2 + 664) ⟨by decide, by decide⟩) rfl (Nat.le_of_ble_eq_true rfl) (atL dAX6_wholeKey_0 7 rfl) (fun _ w1 s0 hp0 => ?_)
  obtain ⟨⟨m, hto, hmm⟩, hK0, hD0, hFX⟩ := hp0
  obtain ⟨hw1, ha1⟩ := Wad.mk Wad.rf hf35 hto
  rw [List.append_nil] at hw1
  have hwA := hw1
  have hmem : ∀ q, q ∈ (5, i) :: m ↔ q = (5, i) ∨ q = (6, i) ∨ ((q.1 = 3 ∨ q.1 = 4) ∧ 32 + 8 * i ≤ q.2 ∧ q.2 < 32 + 8 * i + 8) := fun q => by rw [List.mem_cons, hmm q]
  have hkv : w1.2 5 i := hw1.new (List.mem_cons_self ..)
  have hl3 : ∀ j, j < 8 → w1.2 3 (32 + 8 * i + j) := fun j hj => hw1.new ((hmem _).mpr (Or.inr (Or.inr ⟨Or.inl rfl, by show 32 + 8 * i ≤ 32 + 8 * i + j; omega, by show 32 + 8 * i + j < 32 + 8 * i + 8; omega⟩)))
  have hk1 : w1.2 0 0 := hw1.old hk0
  have hT3 : ∀ q, q < 7 → w1.2 3 q := fun q hq => hw1.old (hS3 q hq)
  have hT7 : w1.2 7 0 := hw1.old hS7
  have e00 : w1.1 0 0 = w.1 0 0 := hw1.2 0 0 hk0
  have hF0 : FX i σ s0 := (FX.su (Or.inl rfl)).tr hFX
  have w0_0 : WN s0 0 (p) := hF0.wn h0 (by omega)
  have w0_1 : WN s0 1 (q) := hF0.wn h1 (by omega)
  have w0_2 : WN s0 2 (e) := hF0.wn h2 (by omega)
  have w0_4 : WN s0 4 (p - 1) := hF0.wn h4 (by omega)
  have w0_5 : WN s0 5 (q - 1) := hF0.wn h5 (by omega)
  have hA0 : AR s0 := hF0.ar hA
  have hG0 : FK i σ s0 := hF0.fk
  show V X (18, 666) w1 17 [(0, .ref (w.1 0 0))] s0 [.ref a]
  rw [← e00, ← ha1]
  refine v_astore_n hX (i := 1) rfl (lv' := [(1, .ref (w1.1 5 i)), (0, .ref (w1.1 0 0))]) (Nat.le_of_ble_eq_true rfl) rfl (atL dAX6_wholeKey_0 8 rfl) ?_
  refine v_aload_n hX 0 rfl (atL dAX6_wholeKey_0 9 rfl) ?_
  refine v_iconst hX (atL dAX6_wholeKey_0 10 rfl) ?_
  refine v_callV hX (As := [.int (iI ((3 : Nat) : Int))]) (rest := []) (c_X2_at (xl X) w1 s0 i hkv 8 _ hK0 3 (by decide)) lk_X6_211 hkv (fun _ => rfl) rfl rfl rfl (by rw [hR]; exact ⟨Nat.le_of_ble_eq_true rfl, Nat.le_of_ble_eq_true rfl⟩) (zB (18, 666) ⟨by decide, by decide⟩) rfl (Nat.le_of_ble_eq_true rfl) (atL dAX6_wholeKey_0 11 rfl) (fun r20 z20 g20 => ?_)
  obtain ⟨ga20, gb20⟩ := g20
  rw [gb20]
  subst ga20
  show V X _ w1 _ _ s0 [.ref (w1.1 3 (32 + 8 * i + 3))]
  refine v_aload_n hX 1 rfl (atL dAX6_wholeKey_0 12 rfl) ?_
  refine gf_X6_64 hX hk1 (atL dAX6_wholeKey_0 13 rfl) ?_
  refine v_callV hX (As := [.ref (w1.1 3 0)]) (rest := []) (c_X5_set (xl X) w1 s0 (32 + 8 * i + 3) (hl3 3 (by decide)) (hD0 _) 0 p (hT3 0 (by decide)) w0_0 (by omega)) lk_X6_311 (hl3 3 (by decide)) (fun _ => rfl) rfl rfl rfl (by rw [hR]; exact ⟨Nat.le_of_ble_eq_true rfl, Nat.le_of_ble_eq_true rfl⟩) (zB (18, 666) ⟨by decide, by decide⟩) rfl (Nat.le_of_ble_eq_true rfl) (atL dAX6_wholeKey_0 14 rfl) (fun _ s1 e1 => ?_)
  obtain ⟨hw1, hf1⟩ := e1
  have hD1 := hD0.one hf1 hw1
  have hA1 := hA0.fr hf1 (by simp)
  have hG1 := hG0.fr hf1 (by simp [Hk] <;> omega)
  have hK1 := hK0.up (j := 3) (by decide) hf1 (by simp) (by simp) (fun t ht htn => ⟨by simp <;> omega, by simp <;> omega⟩) hw1
  have w1_0 := nm.fr w0_0 hf1 (by simp <;> omega) (by simp <;> omega)
  have w1_1 := nm.fr w0_1 hf1 (by simp <;> omega) (by simp <;> omega)
  have w1_2 := nm.fr w0_2 hf1 (by simp <;> omega) (by simp <;> omega)
  have w1_4 := nm.fr w0_4 hf1 (by simp <;> omega) (by simp <;> omega)
  have w1_5 := nm.fr w0_5 hf1 (by simp <;> omega) (by simp <;> omega)
  show V X _ w1 _ _ s1 []
  refine v_aload_n hX 0 rfl (atL dAX6_wholeKey_0 15 rfl) ?_
  refine v_iconst hX (atL dAX6_wholeKey_0 16 rfl) ?_
  refine v_callV hX (As := [.int (iI ((4 : Nat) : Int))]) (rest := []) (c_X2_at (xl X) w1 s1 i hkv 8 _ hK1 4 (by decide)) lk_X6_211 hkv (fun _ => rfl) rfl rfl rfl (by rw [hR]; exact ⟨Nat.le_of_ble_eq_true rfl, Nat.le_of_ble_eq_true rfl⟩) (zB (18, 666) ⟨by decide, by decide⟩) rfl (Nat.le_of_ble_eq_true rfl) (atL dAX6_wholeKey_0 17 rfl) (fun r32 z32 g32 => ?_)
  obtain ⟨ga32, gb32⟩ := g32
  rw [gb32]
  subst ga32
  show V X _ w1 _ _ s1 [.ref (w1.1 3 (32 + 8 * i + 4))]
  refine v_aload_n hX 1 rfl (atL dAX6_wholeKey_0 18 rfl) ?_
  refine gf_X6_68 hX hk1 (atL dAX6_wholeKey_0 19 rfl) ?_
  refine v_callV hX (As := [.ref (w1.1 3 1)]) (rest := []) (c_X5_set (xl X) w1 s1 (32 + 8 * i + 4) (hl3 4 (by decide)) (hD1 _) 1 q (hT3 1 (by decide)) w1_1 (by omega)) lk_X6_311 (hl3 4 (by decide)) (fun _ => rfl) rfl rfl rfl (by rw [hR]; exact ⟨Nat.le_of_ble_eq_true rfl, Nat.le_of_ble_eq_true rfl⟩) (zB (18, 666) ⟨by decide, by decide⟩) rfl (Nat.le_of_ble_eq_true rfl) (atL dAX6_wholeKey_0 20 rfl) (fun _ s2 e2 => ?_)
  obtain ⟨hw2, hf2⟩ := e2
  have hD2 := hD1.one hf2 hw2
  have hA2 := hA1.fr hf2 (by simp)
  have hG2 := hG1.fr hf2 (by simp [Hk] <;> omega)
  have hK2 := hK1.up (j := 4) (by decide) hf2 (by simp) (by simp) (fun t ht htn => ⟨by simp <;> omega, by simp <;> omega⟩) hw2
  have w2_0 := nm.fr w1_0 hf2 (by simp <;> omega) (by simp <;> omega)
  have w2_1 := nm.fr w1_1 hf2 (by simp <;> omega) (by simp <;> omega)
  have w2_2 := nm.fr w1_2 hf2 (by simp <;> omega) (by simp <;> omega)
  have w2_4 := nm.fr w1_4 hf2 (by simp <;> omega) (by simp <;> omega)
  have w2_5 := nm.fr w1_5 hf2 (by simp <;> omega) (by simp <;> omega)
  show V X _ w1 _ _ s2 []
  refine v_aload_n hX 1 rfl (atL dAX6_wholeKey_0 21 rfl) ?_
  refine gf_X6_35 hX hk1 (atL dAX6_wholeKey_0 22 rfl) ?_
  refine v_aload_n hX 1 rfl (atL dAX6_wholeKey_0 23 rfl) ?_
  refine gf_X6_77 hX hk1 (atL dAX6_wholeKey_0 24 rfl) ?_
  refine v_aload_n hX 1 rfl (atL dAX6_wholeKey_0 25 rfl) ?_
  refine gf_X6_80 hX hk1 (atL dAX6_wholeKey_0 26 rfl) ?_
  refine v_aload_n hX 1 rfl (atL dAX6_wholeKey_0 27 rfl) ?_
  refine gf_X6_74 hX hk1 (atL dAX6_wholeKey_0 28 rfl) ?_
  refine v_callV hX (As := [.ref (w1.1 3 4), .ref (w1.1 3 5), .ref (w1.1 3 3)]) (rest := []) (c_X0_findMultiple (xl X) w1 s2 hT7 4 (p - 1) (hT3 4 (by decide)) w2_4 bp1 (by decide) (by decide) (by decide) (by decide) (by decide) (by decide) 5 (q - 1) (hT3 5 (by decide)) w2_5 bq1 (by decide) (by decide) (by decide) (by decide) (by decide) (by decide) 3 (hT3 3 (by decide)) (hD2 3) (by decide) (by decide) (by decide) (by decide) (by decide) (by decide) (by decide) (hD2 7) (hD2 8) (hD2 9) (hD2 13) (hD2 14) (hD2 15)) lk_X6_318 hT7 (fun _ => rfl) rfl rfl rfl (by rw [hR]; exact ⟨Nat.le_of_ble_eq_true rfl, Nat.le_of_ble_eq_true rfl⟩) (zB (18, 666) ⟨by decide, by decide⟩) rfl (Nat.le_of_ble_eq_true rfl) (atL dAX6_wholeKey_0 29 rfl) (fun r3 s3 e3 => ?_)
  obtain ⟨gc3, q7, q8, q9, q13, q14, q15, hf3⟩ := e3
  have hw3 : WN s3 3 (Nat.lcm (p - 1) (q - 1)) := by rcases gc3 with x | x; exact x.2; exact absurd x.2.1 (Nat.not_le.mpr bl)
  have hD3 : AD s3 := hD2.of hf3 (fun q hq => by simp at hq; rcases hq with e | e | e | e | e | e | e <;> subst e <;> first | assumption | exact WN.dg hw3)
  have hA3 := hA2.fr hf3 (by simp)
  have hG3 := hG2.fr hf3 (by simp [Hk] <;> omega)
  have hK3 := hK2.frl hf3 (by simp) (by simp) (fun t ht => ⟨by simp <;> omega, by simp <;> omega⟩)
  have w3_0 := nm.fr w2_0 hf3 (by simp <;> omega) (by simp <;> omega)
  have w3_1 := nm.fr w2_1 hf3 (by simp <;> omega) (by simp <;> omega)
  have w3_2 := nm.fr w2_2 hf3 (by simp <;> omega) (by simp <;> omega)
  have w3_4 := nm.fr w2_4 hf3 (by simp <;> omega) (by simp <;> omega)
  have w3_5 := nm.fr w2_5 hf3 (by simp <;> omega) (by simp <;> omega)
  show V X _ w1 _ _ s3 [.int (iI r3)]
  refine v_pop hX rfl (atL dAX6_wholeKey_0 30 rfl) ?_
  refine v_aload_n hX 1 rfl (atL dAX6_wholeKey_0 31 rfl) ?_
  refine gf_X6_35 hX hk1 (atL dAX6_wholeKey_0 32 rfl) ?_
  refine v_aload_n hX 1 rfl (atL dAX6_wholeKey_0 33 rfl) ?_
  refine gf_X6_71 hX hk1 (atL dAX6_wholeKey_0 34 rfl) ?_
  refine v_aload_n hX 1 rfl (atL dAX6_wholeKey_0 35 rfl) ?_
  refine gf_X6_74 hX hk1 (atL dAX6_wholeKey_0 36 rfl) ?_
  refine v_aload_n hX 0 rfl (atL dAX6_wholeKey_0 37 rfl) ?_
  refine v_iconst hX (atL dAX6_wholeKey_0 38 rfl) ?_
  refine v_callV hX (As := [.int (iI ((2 : Nat) : Int))]) (rest := [.ref (w1.1 3 3), .ref (w1.1 3 2), .ref (w1.1 7 0)]) (c_X2_at (xl X) w1 s3 i hkv 8 _ hK3 2 (by decide)) lk_X6_211 hkv (fun _ => rfl) rfl rfl rfl (by rw [hR]; exact ⟨Nat.le_of_ble_eq_true rfl, Nat.le_of_ble_eq_true rfl⟩) (zB (18, 666) ⟨by decide, by decide⟩) rfl (Nat.le_of_ble_eq_true rfl) (atL dAX6_wholeKey_0 39 rfl) (fun r76 z76 g76 => ?_)
  obtain ⟨ga76, gb76⟩ := g76
  rw [gb76]
  subst ga76
  show V X _ w1 _ _ s3 [.ref (w1.1 3 (32 + 8 * i + 2)), .ref (w1.1 3 3), .ref (w1.1 3 2), .ref (w1.1 7 0)]
  refine v_callV hX (As := [.ref (w1.1 3 2), .ref (w1.1 3 3), .ref (w1.1 3 (32 + 8 * i + 2))]) (rest := []) (c_X0_invert (xl X) w1 s3 hT7 2 e (hT3 2 (by decide)) w3_2 be (by omega) 3 (Nat.lcm (p - 1) (q - 1)) (hT3 3 (by decide)) hw3 bl hl0 (by omega) (32 + 8 * i + 2) (hl3 2 (by decide)) (by omega) hD3) lk_X6_321 hT7 (fun _ => rfl) rfl rfl rfl (by rw [hR]; exact ⟨Nat.le_of_ble_eq_true rfl, Nat.le_of_ble_eq_true rfl⟩) (zB (18, 666) ⟨by decide, by decide⟩) rfl (Nat.le_of_ble_eq_true rfl) (atL dAX6_wholeKey_0 40 rfl) (fun r4 s4 e4 => ?_)
  obtain ⟨gc4, hD4, hf4⟩ := e4
  have hw4 : WN s4 (32 + 8 * i + 2) (inv e (Nat.lcm (p - 1) (q - 1))) := by
    rcases gc4 with ⟨-, -, x, x1, x2, x3⟩ | x
    · rw [inv_eq hgl x2 x3]
      exact x1
    · exact absurd hgl x.2
  have hA4 := hA3.fr hf4 (by simp)
  have hG4 := hG3.fr hf4 (by simp [Hk] <;> omega)
  have hK4 := hK3.up (j := 2) (by decide) hf4 (by simp) (by simp) (fun t ht htn => ⟨by simp <;> omega, by simp <;> omega⟩) hw4
  have w4_0 := nm.fr w3_0 hf4 (by simp <;> omega) (by simp <;> omega)
  have w4_1 := nm.fr w3_1 hf4 (by simp <;> omega) (by simp <;> omega)
  have w4_2 := nm.fr w3_2 hf4 (by simp <;> omega) (by simp <;> omega)
  have w4_4 := nm.fr w3_4 hf4 (by simp <;> omega) (by simp <;> omega)
  have w4_5 := nm.fr w3_5 hf4 (by simp <;> omega) (by simp <;> omega)
  have w4_3 := nm.fr hw3 hf4 (by simp <;> omega) (by simp <;> omega)
  show V X _ w1 _ _ s4 [.int (iI r4)]
  refine v_pop hX rfl (atL dAX6_wholeKey_0 41 rfl) ?_
  have hdl : inv e (Nat.lcm (p - 1) (q - 1)) < Nat.lcm (p - 1) (q - 1) := by
    rcases gc4 with ⟨-, -, x, x1, x2, x3⟩ | x
    · rw [inv_eq hgl x2 x3]
      exact x2
    · exact absurd hgl x.2
  have bd : inv e (Nat.lcm (p - 1) (q - 1)) < 2 ^ 2048 := Nat.lt_trans hdl bl
  refine v_aload_n hX 1 rfl (atL dAX6_wholeKey_0 42 rfl) ?_
  refine gf_X6_35 hX hk1 (atL dAX6_wholeKey_0 43 rfl) ?_
  refine v_aload_n hX 0 rfl (atL dAX6_wholeKey_0 44 rfl) ?_
  refine v_iconst hX (atL dAX6_wholeKey_0 45 rfl) ?_
  refine v_callV hX (As := [.int (iI ((2 : Nat) : Int))]) (rest := [.ref (w1.1 7 0)]) (c_X2_at (xl X) w1 s4 i hkv 8 _ hK4 2 (by decide)) lk_X6_211 hkv (fun _ => rfl) rfl rfl rfl (by rw [hR]; exact ⟨Nat.le_of_ble_eq_true rfl, Nat.le_of_ble_eq_true rfl⟩) (zB (18, 666) ⟨by decide, by decide⟩) rfl (Nat.le_of_ble_eq_true rfl) (atL dAX6_wholeKey_0 46 rfl) (fun r89 z89 g89 => ?_)
  obtain ⟨ga89, gb89⟩ := g89
  rw [gb89]
  subst ga89
  show V X _ w1 _ _ s4 [.ref (w1.1 3 (32 + 8 * i + 2)), .ref (w1.1 7 0)]
  refine v_aload_n hX 1 rfl (atL dAX6_wholeKey_0 47 rfl) ?_
  refine gf_X6_77 hX hk1 (atL dAX6_wholeKey_0 48 rfl) ?_
  refine v_aload_n hX 0 rfl (atL dAX6_wholeKey_0 49 rfl) ?_
  refine v_iconst hX (atL dAX6_wholeKey_0 50 rfl) ?_
  refine v_callV hX (As := [.int (iI ((5 : Nat) : Int))]) (rest := [.ref (w1.1 3 4), .ref (w1.1 3 (32 + 8 * i + 2)), .ref (w1.1 7 0)]) (c_X2_at (xl X) w1 s4 i hkv 8 _ hK4 5 (by decide)) lk_X6_211 hkv (fun _ => rfl) rfl rfl rfl (by rw [hR]; exact ⟨Nat.le_of_ble_eq_true rfl, Nat.le_of_ble_eq_true rfl⟩) (zB (18, 666) ⟨by decide, by decide⟩) rfl (Nat.le_of_ble_eq_true rfl) (atL dAX6_wholeKey_0 51 rfl) (fun r98 z98 g98 => ?_)
  obtain ⟨ga98, gb98⟩ := g98
  rw [gb98]
  subst ga98
  show V X _ w1 _ _ s4 [.ref (w1.1 3 (32 + 8 * i + 5)), .ref (w1.1 3 4), .ref (w1.1 3 (32 + 8 * i + 2)), .ref (w1.1 7 0)]
  refine v_callV hX (As := [.ref (w1.1 3 (32 + 8 * i + 2)), .ref (w1.1 3 4), .ref (w1.1 3 (32 + 8 * i + 5))]) (rest := []) (c_X0_divide (xl X) w1 s4 hT7 (32 + 8 * i + 2) (inv e (Nat.lcm (p - 1) (q - 1))) (hl3 2 (by decide)) hw4 (p2048 bd) (by omega) 4 (p - 1) (hT3 4 (by decide)) w4_4 (by omega) (p2048 bp1) (32 + 8 * i + 5) (hl3 5 (by decide)) (hD4 _) (by omega) (by omega) (by omega) (hD4 8) (hD4 9) (hD4 7)) lk_X6_304 hT7 (fun _ => rfl) rfl rfl rfl (by rw [hR]; exact ⟨Nat.le_of_ble_eq_true rfl, Nat.le_of_ble_eq_true rfl⟩) (zB (18, 666) ⟨by decide, by decide⟩) rfl (Nat.le_of_ble_eq_true rfl) (atL dAX6_wholeKey_0 52 rfl) (fun _ s5 e5 => ?_)
  have hD5 := hD4.div e5
  obtain ⟨hw5, hwq5, -, -, hf5⟩ := e5
  have hA5 := hA4.fr hf5 (by simp)
  have hG5 := hG4.fr hf5 (by simp [Hk] <;> omega)
  have hK5 := hK4.up (j := 5) (by decide) hf5 (by simp) (by simp) (fun t ht htn => ⟨by simp <;> omega, by simp <;> omega⟩) hw5
  have w5_0 := nm.fr w4_0 hf5 (by simp <;> omega) (by simp <;> omega)
  have w5_1 := nm.fr w4_1 hf5 (by simp <;> omega) (by simp <;> omega)
  have w5_2 := nm.fr w4_2 hf5 (by simp <;> omega) (by simp <;> omega)
  have w5_4 := nm.fr w4_4 hf5 (by simp <;> omega) (by simp <;> omega)
  have w5_5 := nm.fr w4_5 hf5 (by simp <;> omega) (by simp <;> omega)
  have hd5 := nm.fr hw4 hf5 (by simp <;> omega) (by simp <;> omega)
  show V X _ w1 _ _ s5 []
  refine v_aload_n hX 1 rfl (atL dAX6_wholeKey_0 53 rfl) ?_
  refine gf_X6_35 hX hk1 (atL dAX6_wholeKey_0 54 rfl) ?_
  refine v_aload_n hX 0 rfl (atL dAX6_wholeKey_0 55 rfl) ?_
  refine v_iconst hX (atL dAX6_wholeKey_0 56 rfl) ?_
  refine v_callV hX (As := [.int (iI ((2 : Nat) : Int))]) (rest := [.ref (w1.1 7 0)]) (c_X2_at (xl X) w1 s5 i hkv 8 _ hK5 2 (by decide)) lk_X6_211 hkv (fun _ => rfl) rfl rfl rfl (by rw [hR]; exact ⟨Nat.le_of_ble_eq_true rfl, Nat.le_of_ble_eq_true rfl⟩) (zB (18, 666) ⟨by decide, by decide⟩) rfl (Nat.le_of_ble_eq_true rfl) (atL dAX6_wholeKey_0 57 rfl) (fun r110 z110 g110 => ?_)
  obtain ⟨ga110, gb110⟩ := g110
  rw [gb110]
  subst ga110
  show V X _ w1 _ _ s5 [.ref (w1.1 3 (32 + 8 * i + 2)), .ref (w1.1 7 0)]
  refine v_aload_n hX 1 rfl (atL dAX6_wholeKey_0 58 rfl) ?_
  refine gf_X6_80 hX hk1 (atL dAX6_wholeKey_0 59 rfl) ?_
  refine v_aload_n hX 0 rfl (atL dAX6_wholeKey_1 0 rfl) ?_
  refine v_bipush hX (by decide +kernel) (atL dAX6_wholeKey_1 1 rfl) ?_
  refine v_callV hX (As := [.int (iI ((6 : Nat) : Int))]) (rest := [.ref (w1.1 3 5), .ref (w1.1 3 (32 + 8 * i + 2)), .ref (w1.1 7 0)]) (c_X2_at (xl X) w1 s5 i hkv 8 _ hK5 6 (by decide)) lk_X6_211 hkv (fun _ => rfl) rfl rfl rfl (by rw [hR]; exact ⟨Nat.le_of_ble_eq_true rfl, Nat.le_of_ble_eq_true rfl⟩) (zB (18, 666) ⟨by decide, by decide⟩) rfl (Nat.le_of_ble_eq_true rfl) (atL dAX6_wholeKey_1 2 rfl) (fun r120 z120 g120 => ?_)
  obtain ⟨ga120, gb120⟩ := g120
  rw [gb120]
  subst ga120
  show V X _ w1 _ _ s5 [.ref (w1.1 3 (32 + 8 * i + 6)), .ref (w1.1 3 5), .ref (w1.1 3 (32 + 8 * i + 2)), .ref (w1.1 7 0)]
  refine v_callV hX (As := [.ref (w1.1 3 (32 + 8 * i + 2)), .ref (w1.1 3 5), .ref (w1.1 3 (32 + 8 * i + 6))]) (rest := []) (c_X0_divide (xl X) w1 s5 hT7 (32 + 8 * i + 2) (inv e (Nat.lcm (p - 1) (q - 1))) (hl3 2 (by decide)) hd5 (p2048 bd) (by omega) 5 (q - 1) (hT3 5 (by decide)) w5_5 (by omega) (p2048 bq1) (32 + 8 * i + 6) (hl3 6 (by decide)) (hD5 _) (by omega) (by omega) (by omega) (hD5 8) (hD5 9) (hD5 7)) lk_X6_304 hT7 (fun _ => rfl) rfl rfl rfl (by rw [hR]; exact ⟨Nat.le_of_ble_eq_true rfl, Nat.le_of_ble_eq_true rfl⟩) (zB (18, 666) ⟨by decide, by decide⟩) rfl (Nat.le_of_ble_eq_true rfl) (atL dAX6_wholeKey_1 3 rfl) (fun _ s6 e6 => ?_)
  have hD6 := hD5.div e6
  obtain ⟨hw6, hwq6, -, -, hf6⟩ := e6
  have hA6 := hA5.fr hf6 (by simp)
  have hG6 := hG5.fr hf6 (by simp [Hk] <;> omega)
  have hK6 := hK5.up (j := 6) (by decide) hf6 (by simp) (by simp) (fun t ht htn => ⟨by simp <;> omega, by simp <;> omega⟩) hw6
  have w6_0 := nm.fr w5_0 hf6 (by simp <;> omega) (by simp <;> omega)
  have w6_1 := nm.fr w5_1 hf6 (by simp <;> omega) (by simp <;> omega)
  have w6_2 := nm.fr w5_2 hf6 (by simp <;> omega) (by simp <;> omega)
  have w6_4 := nm.fr w5_4 hf6 (by simp <;> omega) (by simp <;> omega)
  have w6_5 := nm.fr w5_5 hf6 (by simp <;> omega) (by simp <;> omega)
  have hd6 := nm.fr hd5 hf6 (by simp <;> omega) (by simp <;> omega)
  show V X _ w1 _ _ s6 []
  refine v_aload_n hX 1 rfl (atL dAX6_wholeKey_1 4 rfl) ?_
  refine gf_X6_35 hX hk1 (atL dAX6_wholeKey_1 5 rfl) ?_
  refine v_aload_n hX 1 rfl (atL dAX6_wholeKey_1 6 rfl) ?_
  refine gf_X6_68 hX hk1 (atL dAX6_wholeKey_1 7 rfl) ?_
  refine v_aload_n hX 1 rfl (atL dAX6_wholeKey_1 8 rfl) ?_
  refine gf_X6_64 hX hk1 (atL dAX6_wholeKey_1 9 rfl) ?_
  refine v_aload_n hX 0 rfl (atL dAX6_wholeKey_1 10 rfl) ?_
  refine v_bipush hX (by decide +kernel) (atL dAX6_wholeKey_1 11 rfl) ?_
  refine v_callV hX (As := [.int (iI ((7 : Nat) : Int))]) (rest := [.ref (w1.1 3 0), .ref (w1.1 3 1), .ref (w1.1 7 0)]) (c_X2_at (xl X) w1 s6 i hkv 8 _ hK6 7 (by decide)) lk_X6_211 hkv (fun _ => rfl) rfl rfl rfl (by rw [hR]; exact ⟨Nat.le_of_ble_eq_true rfl, Nat.le_of_ble_eq_true rfl⟩) (zB (18, 666) ⟨by decide, by decide⟩) rfl (Nat.le_of_ble_eq_true rfl) (atL dAX6_wholeKey_1 12 rfl) (fun r141 z141 g141 => ?_)
  obtain ⟨ga141, gb141⟩ := g141
  rw [gb141]
  subst ga141
  show V X _ w1 _ _ s6 [.ref (w1.1 3 (32 + 8 * i + 7)), .ref (w1.1 3 0), .ref (w1.1 3 1), .ref (w1.1 7 0)]
  have hgq : Nat.gcd q p = 1 := by rw [Nat.gcd_comm]; exact hg
  refine v_callV hX (As := [.ref (w1.1 3 1), .ref (w1.1 3 0), .ref (w1.1 3 (32 + 8 * i + 7))]) (rest := []) (c_X0_invert (xl X) w1 s6 hT7 1 q (hT3 1 (by decide)) w6_1 bq (by omega) 0 p (hT3 0 (by decide)) w6_0 bp (by omega) (by omega) (32 + 8 * i + 7) (hl3 7 (by decide)) (by omega) hD6) lk_X6_321 hT7 (fun _ => rfl) rfl rfl rfl (by rw [hR]; exact ⟨Nat.le_of_ble_eq_true rfl, Nat.le_of_ble_eq_true rfl⟩) (zB (18, 666) ⟨by decide, by decide⟩) rfl (Nat.le_of_ble_eq_true rfl) (atL dAX6_wholeKey_1 13 rfl) (fun r7 s7 e7 => ?_)
  obtain ⟨gc7, hD7, hf7⟩ := e7
  have hw7 : WN s7 (32 + 8 * i + 7) (inv q p) := by
    rcases gc7 with ⟨-, -, x, x1, x2, x3⟩ | x
    · rw [inv_eq hgq x2 x3]
      exact x1
    · exact absurd hgq x.2
  have hA7 := hA6.fr hf7 (by simp)
  have hG7 := hG6.fr hf7 (by simp [Hk] <;> omega)
  have hK7 := hK6.up (j := 7) (by decide) hf7 (by simp) (by simp) (fun t ht htn => ⟨by simp <;> omega, by simp <;> omega⟩) hw7
  have w7_0 := nm.fr w6_0 hf7 (by simp <;> omega) (by simp <;> omega)
  have w7_1 := nm.fr w6_1 hf7 (by simp <;> omega) (by simp <;> omega)
  have w7_2 := nm.fr w6_2 hf7 (by simp <;> omega) (by simp <;> omega)
  have w7_4 := nm.fr w6_4 hf7 (by simp <;> omega) (by simp <;> omega)
  have w7_5 := nm.fr w6_5 hf7 (by simp <;> omega) (by simp <;> omega)
  show V X _ w1 _ _ s7 [.int (iI r7)]
  refine v_pop hX rfl (atL dAX6_wholeKey_1 14 rfl) ?_
  refine v_aload_n hX 0 rfl (atL dAX6_wholeKey_1 15 rfl) ?_
  refine v_aret hX (atL dAX6_wholeKey_1 16 rfl) (hret _ _ _ ⟨⟨_, hwA, hmem⟩, rfl, hK7.congr (fun j hj => ?_), hA7, hD7, hG7⟩ _ ⟨Nat.le_refl _, Nat.le_refl _⟩)
  rcases (show j = 0 ∨ j = 1 ∨ j = 2 ∨ j = 3 ∨ j = 4 ∨ j = 5 ∨ j = 6 ∨ j = 7 by omega) with rfl | rfl | rfl | rfl | rfl | rfl | rfl | rfl <;> rfl
