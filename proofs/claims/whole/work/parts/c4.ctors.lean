/-! constructors -/
/-- only counters of objects under construction differ -/
def F21 (ks : List Nat) (σ σ' : St) : Prop := (∀ c, c ≠ 21 → σ' c = σ c) ∧ ∀ k, k ∉ ks → σ' 21 k = σ 21 k
theorem F21.rf {ks : List Nat} {σ : St} : F21 ks σ σ := ⟨fun _ _ => rfl, fun _ _ => rfl⟩
theorem F21.tr {ks ks' : List Nat} {a b c : St} (h : F21 ks a b) (g : F21 ks' b c) (hs : ∀ k ∈ ks', k ∈ ks) : F21 ks a c := ⟨fun x hx => (g.1 x hx).trans (h.1 x hx), fun k hk => (g.2 k (fun e => hk (hs k e))).trans (h.2 k hk)⟩
theorem F21.su {ks : List Nat} {σ : St} {k i : Nat} {v : Int} (h : k ∈ ks) : F21 ks σ (su σ 21 k i v) := ⟨fun c hc => su_rc hc, fun k' hk => su_ri (fun e => hk (by rw [e]; exact h))⟩
theorem F21.z {ks : List Nat} {σ σ' : St} {c i j : Nat} {v : Int} (h : F21 ks σ σ') (hc : c ≠ 21) (hz : σ c i j = v) : σ' c i j = v := by rw [h.1 c hc]; exact hz
theorem F21.n {ks : List Nat} {σ σ' : St} {k i : Nat} {v : Int} (h : F21 ks σ σ') (hc : k ∉ ks) (hz : σ 21 k i = v) : σ' 21 k i = v := by rw [h.2 k hc]; exact hz
/-- the world has these more -/
def Wad (w w' : Wl) (l : List (Nat × Nat)) : Prop := (∀ k i, w'.2 k i ↔ w.2 k i ∨ (k, i) ∈ l) ∧ ∀ k i, w.2 k i → w'.1 k i = w.1 k i
theorem Wad.rf {w : Wl} : Wad w w [] := ⟨fun k i => by simp, fun _ _ _ => rfl⟩
theorem Wad.fr {w w' : Wl} {l : List (Nat × Nat)} {k i : Nat} (h : Wad w w' l) (h0 : ¬ w.2 k i) (hl : (k, i) ∉ l) : ¬ w'.2 k i := fun e => ((h.1 k i).mp e).elim h0 hl
theorem Wad.old {w w' : Wl} {l : List (Nat × Nat)} {k i : Nat} (h : Wad w w' l) (h0 : w.2 k i) : w'.2 k i := (h.1 k i).mpr (Or.inl h0)
theorem Wad.new {w w' : Wl} {l : List (Nat × Nat)} {k i : Nat} (h : Wad w w' l) (h0 : (k, i) ∈ l) : w'.2 k i := (h.1 k i).mpr (Or.inr h0)
theorem Wad.up {w w' : Wl} {l : List (Nat × Nat)} {k i a : Nat} (h : Wad w w' l) (hf : ¬ w'.2 k i) : Wad w (wup w' k i a) ((k, i) :: l) := by
  refine ⟨fun k' i' => ?_, fun k' i' h0 => ?_⟩
  · show (w'.2 k' i' ∨ (k' = k ∧ i' = i)) ↔ _
    rw [h.1 k' i', List.mem_cons, Prod.mk.injEq]
    constructor
    · rintro ((a | b) | c)
      · exact Or.inl a
      · exact Or.inr (Or.inr b)
      · exact Or.inr (Or.inl c)
    · rintro (a | c | b)
      · exact Or.inl (Or.inl a)
      · exact Or.inr c
      · exact Or.inl (Or.inr b)
  · rw [(Wle.up hf k' i' (h.old h0)).2]
    exact h.2 k' i' h0
theorem wup_fr {w : Wl} {k i k' i' a : Nat} (h : ¬ w.2 k i) (hne : ¬ (k = k' ∧ i = i')) : ¬ (wup w k' i' a).2 k i := fun e => e.elim h hne
/-- an object under construction is done, and these are new -/
def Wto (w w' : Wl) (k i : Nat) (l : List (Nat × Nat)) : Prop := (∀ k' i', w'.2 k' i' ↔ (w.2 k' i' ∧ ¬ (k' = k + 30 ∧ i' = i)) ∨ (k', i') ∈ (k, i) :: l) ∧ (∀ k' i', w.2 k' i' → ¬ (k' = k + 30 ∧ i' = i) → w'.1 k' i' = w.1 k' i') ∧ w'.1 k i = w.1 (k + 30) i
theorem Wto.of {w w' : Wl} {l : List (Nat × Nat)} {k i : Nat} (h : Wad w w' l) (hl : w.2 (k + 30) i) (hf : ¬ w'.2 k i) (hn : (k + 30, i) ∉ l) : Wto w (wrl w' k i) k i l := by
  refine ⟨fun k' i' => ?_, fun k' i' h0 h1 => ?_, ?_⟩
  · show ((w'.2 k' i' ∧ ¬ (k' = k + 30 ∧ i' = i)) ∨ (k' = k ∧ i' = i)) ↔ _
    rw [h.1 k' i', List.mem_cons, Prod.mk.injEq]
    constructor
    · rintro (⟨a | b, c⟩ | d)
      · exact Or.inl ⟨a, c⟩
      · exact Or.inr (Or.inr b)
      · exact Or.inr (Or.inl d)
    · rintro (⟨a, c⟩ | d | b)
      · exact Or.inl ⟨Or.inl a, c⟩
      · exact Or.inr d
      · exact Or.inl ⟨Or.inr b, fun e => hn (by rw [← e.1, ← e.2]; exact b)⟩
  · rw [wrl_ne (fun e => hf (by rw [← e.1, ← e.2]; exact h.old h0))]
    exact h.2 k' i' h0
  · rw [wrl_at]
    exact h.2 _ _ hl
theorem Wad.mk {w w' w2 : Wl} {l m : List (Nat × Nat)} {k i a : Nat} (h : Wad w w' l) (hf : ¬ w'.2 (k + 30) i) (g : Wto (wup w' (k + 30) i a) w2 k i m) : Wad w w2 ((k, i) :: (m ++ l)) ∧ w2.1 k i = a := by
  refine ⟨⟨fun k' i' => ?_, fun k' i' h0 => ?_⟩, g.2.2.trans wup_at⟩
  · rw [g.1 k' i']
    show ((w'.2 k' i' ∨ (k' = k + 30 ∧ i' = i)) ∧ ¬ (k' = k + 30 ∧ i' = i)) ∨ _ ↔ _
    rw [h.1 k' i', List.mem_cons, List.mem_cons, List.mem_append]
    constructor
    · rintro (⟨(a | b) | c, d⟩ | e | f)
      · exact Or.inl a
      · exact Or.inr (Or.inr (Or.inr b))
      · exact absurd c d
      · exact Or.inr (Or.inl e)
      · exact Or.inr (Or.inr (Or.inl f))
    · rintro (a | e | f | b)
      · exact Or.inl ⟨Or.inl (Or.inl a), fun q => hf (by rw [← q.1, ← q.2]; exact h.old a)⟩
      · exact Or.inr (Or.inl e)
      · exact Or.inr (Or.inr f)
      · exact Or.inl ⟨Or.inl (Or.inr b), fun q => hf (by rw [← q.1, ← q.2]; exact h.new b)⟩
  · have h1 := h.old h0
    rw [g.2.1 k' i' (Or.inl h1) (fun q => hf (by rw [← q.1, ← q.2]; exact h1)), (Wle.up hf k' i' h1).2]
    exact h.2 k' i' h0
theorem v_eq2 {X : CX} {z : Nat × Nat} {w : Wl} {pc : Nat} {lv : List (Nat × Value)} {σ : St} {st : List Value} {a b a' b' : Nat} (h1 : a' = a) (h2 : b' = b) (kk : V X z w pc lv σ (.ref a' :: .ref b' :: st)) : V X z w pc lv σ (.ref a :: .ref b :: st) := by subst h1; subst h2; exact kk
theorem v_eq1 {X : CX} {z : Nat × Nat} {w : Wl} {pc : Nat} {lv : List (Nat × Value)} {σ : St} {st : List Value} {v : Value} {b b' : Nat} (h2 : b' = b) (kk : V X z w pc lv σ (v :: .ref b' :: st)) : V X z w pc lv σ (v :: .ref b :: st) := by subst h2; exact kk

theorem rcap_lt (i : Nat) : rcap i < 300 := by
  unfold rcap
  repeat' split
  all_goals omega
set_option maxHeartbeats 1000000 in
set_option maxRecDepth 100000 in
theorem c_X4_init (l : Launch) (w : Wl) (σ : St) {i n o : Nat} (hn : rcap i = n) (hl : w.2 31 i) (ho : w.1 31 i = o) (hf : ¬ w.2 1 i) (hg : ¬ w.2 2 i) (hc : σ 21 1 i = 0) (h0 : σ 0 i 0 = 0) (h1 : ∀ j, σ 1 i j = 0) : Cg l yX4_init cX4_init 2 none 1 13 1 n wN [.ref o, .int (iI (n : Int))] w σ (fun _ w' σ' => Wto w w' 1 i [(2, i)] ∧ F21 [1] σ σ') := by
  refine Cg.of (own := RX4) (lv := [(0, .ref o), (1, .int (iI (n : Int)))]) (by decide +kernel) rfl (Nat.le_of_ble_eq_true rfl) rfl (fun X hX hxl hR hnm hcl hret => ?_)
  subst hxl
  refine v_aload_n hX 0 rfl (atL dAX4_init_0 0 rfl) ?_
  refine oi_X4_1 hX (by rw [hR]; exact ⟨Nat.le_of_ble_eq_true rfl, Nat.le_of_ble_eq_true rfl⟩) (atL dAX4_init_0 1 rfl) ?_
  refine v_aload_n hX 0 rfl (atL dAX4_init_0 2 rfl) ?_
  have hlt := rcap_lt i
  refine v_iload_n hX 1 rfl (atL dAX4_init_0 3 rfl) ?_
  refine v_if_ge hX ⟨by omega, by omega⟩ (tgt := 13) (atL dAX4_init_0 4 rfl) (by decide) (fun h6 => ?_) (fun h6 => absurd h6 (by omega))
  refine v_iload_n hX 1 rfl (atL dAX4_init_0 7 rfl) ?_
  refine v_newA2 hX (i := i) hn rfl hg (by rw [hR]; exact ⟨Nat.le_refl _, by show 0 + n ≤ n; omega⟩) (atL dAX4_init_0 8 rfl) (fun a => ?_)
  rw [zr_id h1]
  have hw : Wad w (wup w 2 i a) [(2, i)] := Wad.rf.up hg
  have ha : (wup w 2 i a).1 2 i = a := wup_at
  refine v_eq2 ha ((hw.2 _ _ hl).trans ho) (rp_X4_7 hX hnm (hw.old hl) (hw.new (by simp)) hc (atL dAX4_init_0 9 rfl) ?_)
  have hF : F21 [1] σ (su σ 21 1 i (((0 : Nat) : Int) + 1)) := F21.su (by decide)
  refine v_aload_n hX 0 rfl (atL dAX4_init_0 10 rfl) ?_
  refine v_iconst hX (atL dAX4_init_0 11 rfl) ?_
  refine v_eq1 ((hw.2 _ _ hl).trans ho) (zp_X4_13 hX hnm (hw.old hl) su_s (atL dAX4_init_0 12 rfl) ?_)
  refine v_done (k := 1) (i := i) (by decide) (by decide) (hw.old hl) (hw.fr hf (by simp)) (fun q hq => ?_) (fun D g ad b H hb => ?_) ?_
  · show q ∈ (rawL 1 i).filterMap (fun q => if q.1.1 = 0 ∧ (q.2 : Int) < su σ 21 1 i (((0 : Nat) : Int) + 1) 21 1 i then some q.1.2 else none)
    rw [su_s]
    exact hq
  · have e : cont g ad (su σ 21 1 i (((0 : Nat) : Int) + 1)) 1 i = cont g ad (su σ 21 1 i (((0 : Nat) : Int) + 1)) 31 i := by
      show ob ad (su σ 21 1 i (((0 : Nat) : Int) + 1)) 1 i = raw ad (su σ 21 1 i (((0 : Nat) : Int) + 1)) 1 i
      unfold ob raw
      rw [su_s]
      show Sum.inr (ck 1, [fv ad (su σ 21 1 i (((0 : Nat) : Int) + 1)) i (0, 2, i), .int (iI (su σ 21 1 i (((0 : Nat) : Int) + 1) 0 i 0))]) = _
      rw [su_c (by decide), h0]
      rfl
    rw [e]
    exact hb
  · exact v_vret hX (atL dAX4_init_0 13 rfl) (hret () _ _ ⟨Wto.of hw hl (hw.fr hf (by simp)) (by simp), hF⟩ _ ⟨Nat.le_refl _, by show 0 + n ≤ n; omega⟩)

set_option maxHeartbeats 1000000 in
set_option maxRecDepth 100000 in
theorem c_X5_init (l : Launch) (w : Wl) (σ : St) {i o : Nat} (hl : w.2 33 i) (ho : w.1 33 i = o) (hf : ¬ w.2 3 i) (hg : ¬ w.2 4 i) (hc : σ 21 3 i = 0) (h0 : σ 2 i 0 = 0) (h1 : ∀ j, σ 3 i j = 0) : Cg l yX5_init cX5_init 1 none 1 13 1 80 wN [.ref o] w σ (fun _ w' σ' => Wto w w' 3 i [(4, i)] ∧ F21 [3] σ σ') := by
  refine Cg.of (own := RX5) (lv := [(0, .ref o)]) (by decide +kernel) rfl (Nat.le_of_ble_eq_true rfl) rfl (fun X hX hxl hR hnm hcl hret => ?_)
  subst hxl
  refine v_aload_n hX 0 rfl (atL dAX5_init_0 0 rfl) ?_
  refine oi_X5_3 hX (by rw [hR]; exact ⟨Nat.le_of_ble_eq_true rfl, Nat.le_of_ble_eq_true rfl⟩) (atL dAX5_init_0 1 rfl) ?_
  refine v_aload_n hX 0 rfl (atL dAX5_init_0 2 rfl) ?_
  refine v_bipush hX (by decide +kernel) (atL dAX5_init_0 3 rfl) ?_
  refine v_newA4 hX (i := i) rfl hg (by rw [hR]; exact ⟨Nat.le_of_ble_eq_true rfl, Nat.le_of_ble_eq_true rfl⟩) (atL dAX5_init_0 4 rfl) (fun a => ?_)
  rw [zr_id h1]
  have hw : Wad w (wup w 4 i a) [(4, i)] := Wad.rf.up hg
  have ha : (wup w 4 i a).1 4 i = a := wup_at
  refine v_eq2 ha ((hw.2 _ _ hl).trans ho) (rp_X5_9 hX hnm (hw.old hl) (hw.new (by simp)) hc (atL dAX5_init_0 5 rfl) ?_)
  have hF : F21 [3] σ (su σ 21 3 i (((0 : Nat) : Int) + 1)) := F21.su (by decide)
  refine v_aload_n hX 0 rfl (atL dAX5_init_0 6 rfl) ?_
  refine v_iconst hX (atL dAX5_init_0 7 rfl) ?_
  refine v_eq1 ((hw.2 _ _ hl).trans ho) (zp_X5_13 hX hnm (hw.old hl) su_s (atL dAX5_init_0 8 rfl) ?_)
  refine v_done (k := 3) (i := i) (by decide) (by decide) (hw.old hl) (hw.fr hf (by simp)) (fun q hq => ?_) (fun D g ad b H hb => ?_) ?_
  · show q ∈ (rawL 3 i).filterMap (fun q => if q.1.1 = 0 ∧ (q.2 : Int) < su σ 21 3 i (((0 : Nat) : Int) + 1) 21 3 i then some q.1.2 else none)
    rw [su_s]
    exact hq
  · have e : cont g ad (su σ 21 3 i (((0 : Nat) : Int) + 1)) 3 i = cont g ad (su σ 21 3 i (((0 : Nat) : Int) + 1)) 33 i := by
      show ob ad (su σ 21 3 i (((0 : Nat) : Int) + 1)) 3 i = raw ad (su σ 21 3 i (((0 : Nat) : Int) + 1)) 3 i
      unfold ob raw
      rw [su_s]
      show Sum.inr (ck 3, [fv ad (su σ 21 3 i (((0 : Nat) : Int) + 1)) i (0, 4, i), .int (iI (su σ 21 3 i (((0 : Nat) : Int) + 1) 2 i 0))]) = _
      rw [su_c (by decide), h0]
      rfl
    rw [e]
    exact hb
  · exact v_vret hX (atL dAX5_init_0 9 rfl) (hret () _ _ ⟨Wto.of hw hl (hw.fr hf (by simp)) (by simp), hF⟩ _ ⟨Nat.le_refl _, Nat.le_refl _⟩)

set_option maxHeartbeats 1000000 in
set_option maxRecDepth 100000 in
theorem c_X7_init (l : Launch) (w : Wl) (σ : St) {i o : Nat} (hl : w.2 44 i) (ho : w.1 44 i = o) (hf : ¬ w.2 14 i) (hg : ¬ w.2 15 i) (hc : σ 21 14 i = 0) (h0 : σ 11 i 0 = 0) (h1 : ∀ j, σ 12 i j = 0) : Cg l yX7_init cX7_init 1 none 1 13 1 270 wN [.ref o] w σ (fun _ w' σ' => Wto w w' 14 i [(15, i)] ∧ F21 [14] σ σ') := by
  refine Cg.of (own := RX7) (lv := [(0, .ref o)]) (by decide +kernel) rfl (Nat.le_of_ble_eq_true rfl) rfl (fun X hX hxl hR hnm hcl hret => ?_)
  subst hxl
  refine v_aload_n hX 0 rfl (atL dAX7_init_0 0 rfl) ?_
  refine oi_X7_1 hX (by rw [hR]; exact ⟨Nat.le_of_ble_eq_true rfl, Nat.le_of_ble_eq_true rfl⟩) (atL dAX7_init_0 1 rfl) ?_
  refine v_aload_n hX 0 rfl (atL dAX7_init_0 2 rfl) ?_
  refine v_sipush hX (by decide +kernel) (atL dAX7_init_0 3 rfl) ?_
  refine v_newA15 hX (i := i) rfl hg (by rw [hR]; exact ⟨Nat.le_of_ble_eq_true rfl, Nat.le_of_ble_eq_true rfl⟩) (atL dAX7_init_0 4 rfl) (fun a => ?_)
  rw [zr_id h1]
  have hw : Wad w (wup w 15 i a) [(15, i)] := Wad.rf.up hg
  have ha : (wup w 15 i a).1 15 i = a := wup_at
  refine v_eq2 ha ((hw.2 _ _ hl).trans ho) (rp_X7_7 hX hnm (hw.old hl) (hw.new (by simp)) hc (atL dAX7_init_0 5 rfl) ?_)
  have hF : F21 [14] σ (su σ 21 14 i (((0 : Nat) : Int) + 1)) := F21.su (by decide)
  refine v_done (k := 14) (i := i) (by decide) (by decide) (hw.old hl) (hw.fr hf (by simp)) (fun q hq => ?_) (fun D g ad b H hb => ?_) ?_
  · show q ∈ (rawL 14 i).filterMap (fun q => if q.1.1 = 0 ∧ (q.2 : Int) < su σ 21 14 i (((0 : Nat) : Int) + 1) 21 14 i then some q.1.2 else none)
    rw [su_s]
    exact hq
  · have e : cont g ad (su σ 21 14 i (((0 : Nat) : Int) + 1)) 14 i = cont g ad (su σ 21 14 i (((0 : Nat) : Int) + 1)) 44 i := by
      show ob ad (su σ 21 14 i (((0 : Nat) : Int) + 1)) 14 i = raw ad (su σ 21 14 i (((0 : Nat) : Int) + 1)) 14 i
      unfold ob raw
      rw [su_s]
      show Sum.inr (ck 14, [fv ad (su σ 21 14 i (((0 : Nat) : Int) + 1)) i (0, 15, i), .int (iI (su σ 21 14 i (((0 : Nat) : Int) + 1) 11 i 0))]) = _
      rw [su_c (by decide), h0]
      rfl
    rw [e]
    exact hb
  · exact v_vret hX (atL dAX7_init_0 6 rfl) (hret () _ _ ⟨Wto.of hw hl (hw.fr hf (by simp)) (by simp), hF⟩ _ ⟨Nat.le_refl _, Nat.le_refl _⟩)
