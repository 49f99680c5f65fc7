/-! objects in their constructors -/
abbrev rawL (k i : Nat) : List ((Nat × Nat × Nat) × Nat) := ix k i
def okSet (IX : List ((Nat × Nat × Nat) × Nat)) (n : Int) (j r : Nat) : Bool := IX.zipIdx.all (fun e => e.2 == j || e.1.1.1 != 0 || (decide ((e.1.2 : Int) < n) == decide ((e.1.2 : Int) < (r : Int) + 1)))
theorem okSet_at {IX : List ((Nat × Nat × Nat) × Nat)} {n : Int} {j r q : Nat} {e : (Nat × Nat × Nat) × Nat} (h : okSet IX n j r = true) (hq : IX[q]? = some e) (hne : q ≠ j) (h0 : e.1.1 = 0) : (e.2 : Int) < n ↔ (e.2 : Int) < (r : Int) + 1 := by
  have h1 := List.all_eq_true.mp h (e, q) (List.mem_zipIdx_iff_getElem?.mpr hq)
  simp [hne, h0] at h1
  exact h1
theorem raw_set {ad : Ly} {IX : List ((Nat × Nat × Nat) × Nat)} {n : Int} {j r kk ii : Nat} (hj : IX[j]? = some ((0, kk, ii), r)) (ho : okSet IX n j r = true) : (IX.map (fr ad n)).set j (.ref (ad kk ii)) = IX.map (fr ad ((r : Int) + 1)) := by
  apply List.ext_getElem?
  intro q
  rw [List.getElem?_set, List.length_map, List.getElem?_map, List.getElem?_map]
  have hjl : j < IX.length := (List.getElem?_eq_some_iff.mp hj).1
  by_cases c : j = q
  · subst c
    rw [if_pos rfl, if_pos hjl, hj]
    show some (Value.ref (ad kk ii)) = some (fr ad ((r : Int) + 1) ((0, kk, ii), r))
    unfold fr
    rw [if_pos rfl, if_pos (by show (r : Int) < (r : Int) + 1; omega)]
  · rw [if_neg c]
    cases hq : IX[q]? with
    | none => rfl
    | some e =>
      show some (fr ad n e) = some (fr ad ((r : Int) + 1) e)
      congr 1
      unfold fr
      by_cases h0 : e.1.1 = 0
      · have h1 := okSet_at ho hq (fun q => c q.symm) h0
        rw [if_pos h0, if_pos h0]
        by_cases h2 : (e.2 : Int) < n
        · rw [if_pos h2, if_pos (h1.mp h2)]
        · rw [if_neg h2, if_neg (fun q => h2 (h1.mpr q))]
      · rw [if_neg h0, if_neg h0]
theorem su21 {σ : St} {k i a b : Nat} {v : Int} (h : ¬ (a = k ∧ b = i)) : su σ 21 k i v 21 a b = σ 21 a b := by
  by_cases e : a = k
  · exact su_j (fun q => h ⟨e, q⟩)
  · exact su_i e
theorem cont_21 {g : Nat → ClassId} {ad : Ly} {σ : St} {k i k' i' : Nat} {v : Int} (n6 : k ≠ 6) (n11 : k ≠ 11) (h : ¬ (k' = k + 30 ∧ i' = i)) : cont g ad (su σ 21 k i v) k' i' = cont g ad σ k' i' := by
  have e6 : su σ 21 k i v 6 = σ 6 := su_rc (by decide)
  have e7 : su σ 21 k i v 7 = σ 7 := su_rc (by decide)
  unfold cont
  split
  all_goals first
    | rfl
    | (exact ob_congr (fun c hc => by rw [su_rc (fun e => by rw [e] at hc; cases hc)]))
    | (unfold raw; rw [su21 (fun e => h ⟨by have := e.1; omega, e.2⟩)])
    | (rw [e6, su21 (fun e => n6 e.1.symm)])
    | (rw [su21 (fun e => n11 e.1.symm)])
theorem mn_21 {σ : St} {k i k' i' : Nat} {v : Int} (n6 : k ≠ 6) (n11 : k ≠ 11) (h : ¬ (k' = k + 30 ∧ i' = i)) : mn (su σ 21 k i v) k' i' = mn σ k' i' := by
  have e6 : su σ 21 k i v 6 = σ 6 := su_rc (by decide)
  have e7 : su σ 21 k i v 7 = σ 7 := su_rc (by decide)
  unfold mn
  split
  all_goals first
    | rfl
    | (rw [su21 (fun e => h ⟨by have := e.1; omega, e.2⟩)]; done)
    | (rw [e6, su21 (fun e => n6 e.1.symm)]; done)
    | (rw [su21 (fun e => n11 e.1.symm)]; done)
/-- one cell of the world changes, and the store with it -/
theorem WD.cell {D : va_G} {g : Nat → ClassId} {w : Wl} {σ σ' : St} {A : Nat → Prop} {s : State} {H H1 : Heap} {locs : List Loc} {k i n : Nat} (h : WD D g w σ A s H locs) (hl : w.2 k i) (he : va_at D vwCl (w.1 k i, cont g w.1 σ' k i) H1) (hz : H1.size = H.size) (oq : ∀ q : Nat, q ≠ w.1 k i → H1[q]? = H[q]?) (hoth : ∀ k' i', w.2 k' i' → ¬ (k' = k ∧ i' = i) → cont g w.1 σ' k' i' = cont g w.1 σ k' i') (hm : ∀ k' i', w.2 k' i' → ∀ q ∈ mn σ' k' i', w.2 q.1 q.2) : WD D g w σ' A s H1 (locs ++ [⟨w.1 k i, n⟩]) := by
  refine ⟨h.1, fun k' i' hl' => ?_, ⟨h.2.2.1.1, hm⟩, h.2.2.2.1, h.2.2.2.2.1.put hz oq (h.2.2.2.1 _ _ hl), h.2.2.2.2.2⟩
  by_cases c : k' = k ∧ i' = i
  · obtain ⟨rfl, rfl⟩ := c
    exact he
  · rw [hoth k' i' hl' c]
    exact (h.2.1 k' i' hl').kept (oq _ (fun e => c (h.2.2.1.1 k' i' k i hl' hl e)))
section JR
variable {X : CX} {z : Nat × Nat} {w : Wl} {pc nx : Nat} {lv lv' : List (Nat × Value)} {σ : St} {st rest : List Value} {cc : ByteArray} {nL : Nat} {own : String} {ret : Option FieldType}
theorem v_putG (hX : okX X cc nL own ret) {k i ci N j idx : Nat} {fs : List Value} {C ref : String} {T : u_T} {v : Value} {ty0 : Nat → FieldType} (σ' : St) (hl : w.2 k i) (hc : ∀ g, cont g w.1 σ k i = .inr (ci, fs)) (hcl : vwCl[ci]? = some (C, T, N)) (hin : ∀ x ∈ u_ws C T N, x ∈ BW) (hty : ∀ k, k < N → parseFieldDescriptor (T k).2.2.1 = some (ty0 k)) (hnm : ∀ a, a < N → ∀ b, b < N → a ≠ b → (T a).2.1 ≠ (T b).2.1) (hj : j < N) (hlink : Cond.fieldLink own idx ref (T j).2.1 (T j).2.2.1 ∈ BW) (href : ref = (T j).1) (hfin : (T j).2.2.2 = false ∨ ((T j).2.2.2 = true ∧ (xM X).name = "<init>" ∧ (T j).1 = own)) {ty : FieldType} (hd : parseFieldDescriptor (T j).2.2.1 = some ty) (hn : narrow ty v = v) (hfit : fits ty v = true) (hlen : j < fs.length) (hc2 : ∀ g, cont g w.1 σ' k i = .inr (ci, fs.set j v)) (hoth : ∀ g k' i', w.2 k' i' → ¬ (k' = k ∧ i' = i) → cont g w.1 σ' k' i' = cont g w.1 σ k' i') (hm : (∀ k' i', w.2 k' i' → ∀ q ∈ mn σ k' i', w.2 q.1 q.2) → ∀ k' i', w.2 k' i' → ∀ q ∈ mn σ' k' i', w.2 q.1 q.2) (hdg : At cc pc (.putfield idx) 3 nx) (kk : V X z w nx lv σ' st) : V X z w pc lv σ (v :: .ref (w.1 k i) :: st) := by
  obtain ⟨d, rfl⟩ := hdg
  intro H locs ls hW hls
  have hts := hX.2.2.2.2.2.2
  have hK := hW.1.1
  have hap := va_apart (own := own) hts hin ty0 hty hnm hK hcl
  have h0 := hW.2.1 k i hl
  rw [hc] at h0
  obtain ⟨r, h1, cell, q1, q2, q3, q4⟩ := h0
  have hr : r = (C, T, N) := Option.some.inj (h1.symm.trans hcl)
  subst hr
  obtain ⟨hS, hfc, kC, hkC, hkind⟩ := hK.1 ci _ hcl
  obtain ⟨cf, kf, fi, f, hi, hsl⟩ := hS j hj
  have hlay := hts _ (hin _ (u_in_lay hj))
  have hst := (u_facts hfc hkC (u_lays hts hin hj) hi).1
  have hi2 : (xs X).fieldFound? ref (T j).2.1 (T j).2.2.1 = some (cf, kf, fi, f) := by rw [href]; exact hi
  rcases hfin with hfin | ⟨hfin, hin2, hdecl⟩
  · unfold u_lay at hlay
    rw [if_neg (by rw [hfin]; decide)] at hlay
    have h6 := u_store hfc hkC hkind hlay hi hd hn hfit
    refine W.putK hX.1 hX.2.1 (f := f) ⟨hX.2.2.2.2.1, hts _ hlink, ⟨_, _, _, hi2⟩, hst⟩ (by rw [q2]; exact h6) q1 q3 (by rw [hsl]; exact k2_hasslot (q4 j hj)) rfl rfl d fun H' e1 e2 e3 => ?_
    rw [hsl] at e1 ⊢
    refine kk H' _ ls (hW.cell hl ?_ e2 e3 (hoth _) (hm hW.2.2.1.2)) hls
    rw [hc2]
    exact ⟨_, hcl, t_OB.to (V := updV (vp_V fs) j v) ⟨_, e1, q2, q3, t_set q4 hap hj _⟩ (fun k _ => vp_updV_set hlen _ k)⟩
  · unfold u_lay at hlay
    rw [if_pos hfin] at hlay
    have hcf : (xm X).cls = cf := by
      obtain ⟨_, _, c', _, _, _, -, -, hf', -, -, -, hown2, -⟩ := Cond.laysFinal_spec hlay
      have e1 : c' = cf := by have := hi.symm.trans hf'; simp at this; exact this.1.symm
      rw [hdecl] at hown2
      rw [← e1]; exact Option.some.inj (hX.2.2.2.2.1.symm.trans hown2)
    have h6 := u_fits hfc hkC hkind (Or.inr hlay) hi hd hn hfit
    refine W.putFinK hX.1 hX.2.1 hX.2.2.2.2.1 (hts _ hlink) hi2 hst hcf hin2 (by rw [q2]; exact h6) q1 q3 (by rw [hsl]; exact k2_hasslot (q4 j hj)) rfl rfl d fun H' e1 e2 e3 => ?_
    rw [hsl] at e1 ⊢
    refine kk H' _ ls (hW.cell hl ?_ e2 e3 (hoth _) (hm hW.2.2.1.2)) hls
    rw [hc2]
    exact ⟨_, hcl, t_OB.to (V := updV (vp_V fs) j v) ⟨_, e1, q2, q3, t_set q4 hap hj _⟩ (fun k _ => vp_updV_set hlen _ k)⟩
/-- a reference comes into an object under construction -/
theorem v_putR (hX : okX X cc nL own ret) {k i N j idx r kk ii : Nat} {C ref : String} {T : u_T} {ty0 : Nat → FieldType} (n6 : k ≠ 6) (n11 : k ≠ 11) (hl : w.2 (k + 30) i) (hv : w.2 kk ii) (hraw : ∀ (τ : St) g (ad : Ly), cont g ad τ (k + 30) i = raw ad τ k i) (hmnr : ∀ τ : St, mn τ (k + 30) i = (rawL k i).filterMap (fun q => if q.1.1 = 0 ∧ (q.2 : Int) < τ 21 k i then some q.1.2 else none)) (hIX : (rawL k i)[j]? = some ((0, kk, ii), r)) {n : Int} (hσ : σ 21 k i = n) (ho : okSet (rawL k i) n j r = true) (hcl : vwCl[ck k]? = some (C, T, N)) (hin : ∀ x ∈ u_ws C T N, x ∈ BW) (hty : ∀ k, k < N → parseFieldDescriptor (T k).2.2.1 = some (ty0 k)) (hnm : ∀ a, a < N → ∀ b, b < N → a ≠ b → (T a).2.1 ≠ (T b).2.1) (hj : j < N) (hlink : Cond.fieldLink own idx ref (T j).2.1 (T j).2.2.1 ∈ BW) (href : ref = (T j).1) (hfin : (T j).2.2.2 = false ∨ ((T j).2.2.2 = true ∧ (xM X).name = "<init>" ∧ (T j).1 = own)) {ty : FieldType} (hd : parseFieldDescriptor (T j).2.2.1 = some ty) (hn : ∀ a : Nat, narrow ty (.ref a) = .ref a) (hfit : ∀ a : Nat, fits ty (.ref a) = true) (hdg : At cc pc (.putfield idx) 3 nx) (kk' : V X z w nx lv (su σ 21 k i ((r : Int) + 1)) st) : V X z w pc lv σ (.ref (w.1 kk ii) :: .ref (w.1 (k + 30) i) :: st) := by
  refine v_putG hX (su σ 21 k i ((r : Int) + 1)) (fs := (rawL k i).map (fr w.1 n)) hl (fun g => by rw [hraw]; unfold raw; rw [hσ]) hcl hin hty hnm hj hlink href hfin hd (hn _) (hfit _) (by rw [List.length_map]; exact (List.getElem?_eq_some_iff.mp hIX).1) (fun g => by rw [hraw, raw_set hIX ho]; unfold raw; rw [su_s]) (fun g k' i' _ hne => cont_21 n6 n11 hne) (fun hcl2 k' i' hl' q hq => ?_) hdg kk'
  by_cases c : k' = k + 30 ∧ i' = i
  · obtain ⟨rfl, rfl⟩ := c
    rw [hmnr, su_s] at hq
    obtain ⟨e, he, h2⟩ := List.mem_filterMap.mp hq
    obtain ⟨p, hp⟩ := List.mem_iff_getElem?.mp he
    by_cases c2 : p = j
    · subst c2
      rw [hIX] at hp
      cases hp
      rw [if_pos ⟨rfl, by show (r : Int) < (r : Int) + 1; omega⟩] at h2
      cases h2
      exact hv
    · by_cases h0 : e.1.1 = 0 ∧ (e.2 : Int) < (r : Int) + 1
      · rw [if_pos h0] at h2
        have h3 := (okSet_at ho hp c2 h0.1).mpr h0.2
        refine hcl2 _ _ hl' q ?_
        rw [hmnr]
        exact List.mem_filterMap.mpr ⟨e, he, by rw [if_pos ⟨h0.1, by rw [hσ]; exact h3⟩]; exact h2⟩
      · rw [if_neg h0] at h2
        cases h2
  · rw [mn_21 n6 n11 c] at hq
    exact hcl2 k' i' hl' q hq
end JR
