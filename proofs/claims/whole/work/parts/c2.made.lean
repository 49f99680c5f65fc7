/-! arrays that are made, arrays of references, and the end of a construction -/
theorem ix_lt {k i : Nat} {d : (Nat × Nat × Nat) × Nat} (h : d ∈ ix k i) (h0 : d.1.1 = 0) : d.1.2.1 < 30 ∨ d.1.2.1 = 36 ∨ d.1.2.1 = 41 := by
  have ht : (ix k i).all (fun d => d.1.1 != 0 || decide (d.1.2.1 < 30) || d.1.2.1 == 36 || d.1.2.1 == 41) = true := by
    unfold ix
    split
    · rfl
    · rfl
    · rfl
    · unfold tp
      split <;> rfl
  have := List.all_eq_true.mp ht d h
  simp [h0] at this
  omega
theorem mn_lt {σ : St} {k i : Nat} {q : Nat × Nat} (h : q ∈ mn σ k i) : q.1 < 30 ∨ q.1 = 36 ∨ q.1 = 41 := by
  have ht : ∀ k i, (tp k i).all (fun d => d.1 != 0 || decide (d.2.1 < 30)) = true := by
    intro k i
    unfold tp
    split <;> rfl
  have h1 : ∀ k i d, d ∈ tp k i → d.1 = 0 → d.2.1 < 30 := by
    intro k i d hd h0
    have := List.all_eq_true.mp (ht k i) d hd
    simpa [h0] using this
  have h2 : ∀ k i, q ∈ (tp k i).filterMap (fun d => if d.1 = 0 then some d.2 else none) → q.1 < 30 ∨ q.1 = 36 ∨ q.1 = 41 := by
    intro k i hq
    obtain ⟨d, hd, he⟩ := List.mem_filterMap.mp hq
    by_cases c : d.1 = 0
    · rw [if_pos c] at he
      rw [← Option.some.inj he]
      exact Or.inl (h1 k i d hd c)
    · rw [if_neg c] at he
      cases he
  have h3 : ∀ k i (n : Int), q ∈ (rawL k i).filterMap (fun q => if q.1.1 = 0 ∧ (q.2 : Int) < n then some q.1.2 else none) → q.1 < 30 ∨ q.1 = 36 ∨ q.1 = 41 := by
    intro k i n hq
    obtain ⟨d, hd, he⟩ := List.mem_filterMap.mp hq
    by_cases c : d.1.1 = 0 ∧ (d.2 : Int) < n
    · rw [if_pos c] at he
      rw [← Option.some.inj he]
      exact ix_lt hd c.1
    · rw [if_neg c] at he
      cases he
  unfold mn at h
  split at h
  all_goals first
    | exact h2 _ _ h
    | exact h3 _ _ _ h
    | (obtain ⟨j, -, rfl⟩ := List.mem_map.mp h; dsimp only; omega)
    | cases h
/-- an object that was under construction is done -/
def wrl (w : Wl) (k i : Nat) : Wl := (fun k' i' => if k' = k ∧ i' = i then w.1 (k + 30) i else w.1 k' i', fun k' i' => (w.2 k' i' ∧ ¬ (k' = k + 30 ∧ i' = i)) ∨ (k' = k ∧ i' = i))
theorem wrl_at {w : Wl} {k i : Nat} : (wrl w k i).1 k i = w.1 (k + 30) i := if_pos ⟨rfl, rfl⟩
theorem wrl_ne {w : Wl} {k i k' i' : Nat} (h : ¬ (k' = k ∧ i' = i)) : (wrl w k i).1 k' i' = w.1 k' i' := if_neg h
theorem WD.done {D : va_G} {g : Nat → ClassId} {w : Wl} {σ : St} {A : Nat → Prop} {s : State} {H : Heap} {locs : List Loc} {k i : Nat} (n6 : k ≠ 6) (n11 : k ≠ 11) (h : WD D g w σ A s H locs) (hl : w.2 (k + 30) i) (hf : ¬ w.2 k i) (hm : ∀ q ∈ mn σ k i, q ∈ mn σ (k + 30) i) (hat : ∀ (ad : Ly) (a : Nat), va_at D vwCl (a, cont g ad σ (k + 30) i) H → va_at D vwCl (a, cont g ad σ k i) H) : WD D g (wrl w k i) σ A s H locs := by
  obtain ⟨h1, h2, h3, h4, h5, h6⟩ := h
  have hk : ∀ k' i', w.2 k' i' → (k' < 30 ∨ k' = 36 ∨ k' = 41) → (wrl w k i).2 k' i' ∧ (wrl w k i).1 k' i' = w.1 k' i' := by
    intro k' i' a b
    exact ⟨Or.inl ⟨a, fun e => by omega⟩, wrl_ne (fun e => hf (by rw [← e.1, ← e.2]; exact a))⟩
  refine ⟨h1, ?_, ⟨?_, ?_⟩, ?_, h5, h6⟩
  · rintro k' i' (⟨a, b⟩ | ⟨rfl, rfl⟩)
    · rw [wrl_ne (fun e => hf (by rw [← e.1, ← e.2]; exact a))]
      exact at_ad (fun q hq => (hk q.1 q.2 (h3.2 k' i' a q hq) (mn_lt hq)).2) (h2 k' i' a)
    · rw [wrl_at]
      exact at_ad (fun q hq => (hk q.1 q.2 (h3.2 _ _ hl q (hm q hq)) (mn_lt hq)).2) (hat _ _ (h2 _ _ hl))
  · rintro k1 i1 k2 i2 (⟨a, a'⟩ | ⟨rfl, rfl⟩) (⟨b, b'⟩ | ⟨rfl, rfl⟩) e
    · rw [wrl_ne (fun e => hf (by rw [← e.1, ← e.2]; exact a)), wrl_ne (fun e => hf (by rw [← e.1, ← e.2]; exact b))] at e
      exact h3.1 _ _ _ _ a b e
    · rw [wrl_ne (fun e => hf (by rw [← e.1, ← e.2]; exact a)), wrl_at] at e
      exact absurd (h3.1 _ _ _ _ a hl e) a'
    · rw [wrl_at, wrl_ne (fun e => hf (by rw [← e.1, ← e.2]; exact b))] at e
      exact absurd (h3.1 _ _ _ _ b hl e.symm) b'
    · exact ⟨rfl, rfl⟩
  · rintro k' i' (⟨a, a'⟩ | ⟨rfl, rfl⟩) q hq
    · exact (hk q.1 q.2 (h3.2 k' i' a q hq) (mn_lt hq)).1
    · exact (hk q.1 q.2 (h3.2 _ _ hl q (hm q hq)) (mn_lt hq)).1
  · rintro k' i' (⟨a, a'⟩ | ⟨rfl, rfl⟩)
    · rw [wrl_ne (fun e => hf (by rw [← e.1, ← e.2]; exact a))]
      exact h4 k' i' a
    · rw [wrl_at]
      exact h4 _ _ hl
section JA
variable {X : CX} {z : Nat × Nat} {w : Wl} {pc nx : Nat} {lv lv' : List (Nat × Value)} {σ : St} {st rest : List Value} {cc : ByteArray} {nL : Nat} {own : String} {ret : Option FieldType}
theorem v_done {k i : Nat} (n6 : k ≠ 6) (n11 : k ≠ 11) (hl : w.2 (k + 30) i) (hf : ¬ w.2 k i) (hm : ∀ q ∈ mn σ k i, q ∈ mn σ (k + 30) i) (hat : ∀ (D : va_G) (g : Nat → ClassId) (ad : Ly) (a : Nat) (H : Heap), va_at D vwCl (a, cont g ad σ (k + 30) i) H → va_at D vwCl (a, cont g ad σ k i) H) (kk : V X z (wrl w k i) pc lv σ st) : V X z w pc lv σ st := by
  intro H locs ls hW hls
  exact kk H locs ls (WD.done n6 n11 hW hl hf hm (fun ad a => hat _ _ ad a H)) hls
/-- the store changes where the world has nothing -/
theorem v_alt (σ' : St) (hc : ∀ g k i, w.2 k i → cont g w.1 σ' k i = cont g w.1 σ k i) (hm : ∀ k i, w.2 k i → mn σ' k i = mn σ k i) (kk : V X z w pc lv σ' st) : V X z w pc lv σ st := by
  intro H locs ls hW hls
  obtain ⟨h1, h2, h3, h4, h5, h6⟩ := hW
  exact kk H locs ls ⟨h1, fun k i hl => by rw [hc _ k i hl]; exact h2 k i hl, ⟨h3.1, fun k i hl q hq => h3.2 k i hl q (by rw [← hm k i hl]; exact hq)⟩, h4, h5, h6⟩ hls
theorem v_zr {c i : Nat} (n6 : c ≠ 6) (n7 : c ≠ 7) (n21 : c ≠ 21) (hf : ¬ w.2 (oc c) i) (kk : V X z w pc lv (zr σ c i) st) : V X z w pc lv σ st := by
  refine v_alt (zr σ c i) (fun g k' i' hl => ?_) (fun k' i' hl => mn_congr (zr_c (Ne.symm n6)) (zr_c (Ne.symm n7)) (zr_c (Ne.symm n21))) kk
  refine cont_congr (fun c' hc => ?_) (zr_c (Ne.symm n6)) (zr_c (Ne.symm n7)) (zr_c (Ne.symm n21))
  by_cases e : c' = c
  · subst e
    exact zr_i (fun e2 => hf (by rw [← e2, hc]; exact hl))
  · rw [zr_c e]
theorem v_z21 {k i : Nat} (n6 : k ≠ 6) (n11 : k ≠ 11) (hf : ¬ w.2 (k + 30) i) (kk : V X z w pc lv (su σ 21 k i 0) st) : V X z w pc lv σ st :=
  v_alt (su σ 21 k i 0) (fun g k' i' hl => cont_21 n6 n11 (fun e => hf (by rw [← e.1, ← e.2]; exact hl))) (fun k' i' hl => mn_21 n6 n11 (fun e => hf (by rw [← e.1, ← e.2]; exact hl))) kk
/-- an array of numbers -/
theorem v_newA (hX : okX X cc nL own ret) {ty : ArrayType} {a : Int} {n k i t : Nat} (hk : Cond.arrayClass (newarray.typeOf ty) ∈ BW) (ht : ∀ g, (tysL g)[t]? = some (g t, newarray.typeOf ty)) (ha : a = (n : Int)) (hn : n < 20000) (hby : n * componentBytes (newarray.typeOf ty) ≤ 536870912) (hf : ¬ w.2 k i) (hc : ∀ (g : Nat → ClassId) (ad : Ly), ∃ a0, cont g ad σ k i = .inl (g t, a0) ∧ vp_cell (g t) a0 = arrV (g t) n (fun _ => defaultValue (newarray.typeOf ty))) (hmn : mn σ k i = []) (hz : z.1 + 1 ≤ (xR X).cells ∧ z.2 + n ≤ (xR X).slots) (hdg : At cc pc (.newarray ty) 2 nx) (kk : ∀ b : Nat, V X (z.1 + 1, z.2 + n) (wup w k i b) nx lv σ (.ref b :: st)) : V X z w pc lv σ (.int (iI a) :: st) := by
  obtain ⟨d, rfl⟩ := hdg
  intro H locs ls hW hls
  refine va_newaK (atype := ty) hX.1 hX.2.1 (hX.2.2.2.2.2.2 _ hk) rfl d rfl (n := iI a) (N := n) ?_ (ix_cl (n := 20000) ha hn (by omega)) hby hz.1 hz.2 rfl fun H1 cA e1 z1 o1 hAr hNm => ?_
  · intro q
    have := (iI_lt0 (a := a) ⟨by omega, by omega⟩).mp q
    omega
  · have hg1 : xg X t = cA := by
      have h2 := (hW.1.1.2 t _ (ht _)).2
      have h3 : (xs X).vm.findClass ("[" ++ (newarray.typeOf ty).toString) = some cA := hNm
      cases ty <;> exact Option.some.inj (h2.symm.trans h3)
    refine kk H.size H1 locs ls (hW.grow hf z1 o1 (fun _ _ _ => rfl) (fun _ _ _ => rfl) (fun q hq => by rw [hmn] at hq; cases hq) ?_) hls
    obtain ⟨a0, q1, q2⟩ := hc (xg X) (wup w k i H.size).1
    rw [q1]
    show H1[H.size]? = some (vp_cell (xg X t) a0)
    rw [q2, hg1]
    exact e1
theorem v_newA2 (hX : okX X cc nL own ret) {a : Int} {n i : Nat} (hn : rcap i = n) (ha : a = (n : Int)) (hf : ¬ w.2 2 i) (hz : z.1 + 1 ≤ (xR X).cells ∧ z.2 + n ≤ (xR X).slots) (hdg : At cc pc (.newarray .byte) 2 nx) (kk : ∀ b : Nat, V X (z.1 + 1, z.2 + n) (wup w 2 i b) nx lv (zr σ 1 i) (.ref b :: st)) : V X z w pc lv σ (.int (iI a) :: st) := by
  have hlt : n < 20000 := by rw [← hn]; unfold rcap; repeat' split
                             all_goals omega
  refine v_zr (c := 1) (i := i) (by decide) (by decide) (by decide) hf ?_
  refine v_newA hX (ty := .byte) (t := 0) wd_41 (fun _ => rfl) ha hlt (by show n * 1 ≤ 536870912; omega) hf (fun g ad => ⟨_, rfl, ?_⟩) rfl hz hdg kk
  rw [vp_cell_i, hn]
  exact arrV_ext (fun j hj => by rw [zr_s]; rfl)
theorem v_newA4 (hX : okX X cc nL own ret) {a : Int} {i : Nat} (ha : a = 80) (hf : ¬ w.2 4 i) (hz : z.1 + 1 ≤ (xR X).cells ∧ z.2 + 80 ≤ (xR X).slots) (hdg : At cc pc (.newarray .long) 2 nx) (kk : ∀ b : Nat, V X (z.1 + 1, z.2 + 80) (wup w 4 i b) nx lv (zr σ 3 i) (.ref b :: st)) : V X z w pc lv σ (.int (iI a) :: st) := by
  refine v_zr (c := 3) (i := i) (by decide) (by decide) (by decide) hf ?_
  refine v_newA hX (ty := .long) (t := 2) wd_65 (fun _ => rfl) (n := 80) ha (by omega) (by decide) hf (fun g ad => ⟨_, rfl, ?_⟩) rfl hz hdg kk
  rw [vp_cell_l]
  exact arrV_ext (fun j hj => by rw [zr_s]; rfl)
theorem v_newA18 (hX : okX X cc nL own ret) {a : Int} {i : Nat} (ha : a = 1) (hf : ¬ w.2 18 i) (hz : z.1 + 1 ≤ (xR X).cells ∧ z.2 + 1 ≤ (xR X).slots) (hdg : At cc pc (.newarray .long) 2 nx) (kk : ∀ b : Nat, V X (z.1 + 1, z.2 + 1) (wup w 18 i b) nx lv (zr σ 15 i) (.ref b :: st)) : V X z w pc lv σ (.int (iI a) :: st) := by
  refine v_zr (c := 15) (i := i) (by decide) (by decide) (by decide) hf ?_
  refine v_newA hX (ty := .long) (t := 2) wd_65 (fun _ => rfl) (n := 1) ha (by omega) (by decide) hf (fun g ad => ⟨_, rfl, ?_⟩) rfl hz hdg kk
  rw [vp_cell_l]
  exact arrV_ext (fun j hj => by rw [zr_s]; rfl)
theorem v_newA9 (hX : okX X cc nL own ret) {a : Int} {n i : Nat} (hn : dlen i = n) (ha : a = (n : Int)) (hf : ¬ w.2 9 i) (hz : z.1 + 1 ≤ (xR X).cells ∧ z.2 + n ≤ (xR X).slots) (hdg : At cc pc (.newarray .int) 2 nx) (kk : ∀ b : Nat, V X (z.1 + 1, z.2 + n) (wup w 9 i b) nx lv (zr σ 9 i) (.ref b :: st)) : V X z w pc lv σ (.int (iI a) :: st) := by
  have hlt : n < 20000 := by rw [← hn]; unfold dlen; repeat' split
                             all_goals omega
  refine v_zr (c := 9) (i := i) (by decide) (by decide) (by decide) hf ?_
  refine v_newA hX (ty := .int) (t := 1) wd_143 (fun _ => rfl) ha hlt (by show n * 4 ≤ 536870912; omega) hf (fun g ad => ⟨_, rfl, ?_⟩) rfl hz hdg kk
  rw [vp_cell_i, hn]
  exact arrV_ext (fun j hj => by rw [zr_s]; rfl)
theorem v_newA15 (hX : okX X cc nL own ret) {a : Int} {i : Nat} (ha : a = 270) (hf : ¬ w.2 15 i) (hz : z.1 + 1 ≤ (xR X).cells ∧ z.2 + 270 ≤ (xR X).slots) (hdg : At cc pc (.newarray .int) 2 nx) (kk : ∀ b : Nat, V X (z.1 + 1, z.2 + 270) (wup w 15 i b) nx lv (zr σ 12 i) (.ref b :: st)) : V X z w pc lv σ (.int (iI a) :: st) := by
  refine v_zr (c := 12) (i := i) (by decide) (by decide) (by decide) hf ?_
  refine v_newA hX (ty := .int) (t := 1) wd_143 (fun _ => rfl) (n := 270) ha (by omega) (by decide) hf (fun g ad => ⟨_, rfl, ?_⟩) rfl hz hdg kk
  rw [vp_cell_i]
  exact arrV_ext (fun j hj => by rw [zr_s]; rfl)
theorem v_newA16 (hX : okX X cc nL own ret) {a : Int} {n i : Nat} (hn : mlen i = n) (ha : a = (n : Int)) (hf : ¬ w.2 16 i) (hz : z.1 + 1 ≤ (xR X).cells ∧ z.2 + n ≤ (xR X).slots) (hdg : At cc pc (.newarray .int) 2 nx) (kk : ∀ b : Nat, V X (z.1 + 1, z.2 + n) (wup w 16 i b) nx lv (zr σ 13 i) (.ref b :: st)) : V X z w pc lv σ (.int (iI a) :: st) := by
  have hlt : n < 20000 := by rw [← hn]; unfold mlen; repeat' split
                             all_goals omega
  refine v_zr (c := 13) (i := i) (by decide) (by decide) (by decide) hf ?_
  refine v_newA hX (ty := .int) (t := 1) wd_143 (fun _ => rfl) ha hlt (by show n * 4 ≤ 536870912; omega) hf (fun g ad => ⟨_, rfl, ?_⟩) rfl hz hdg kk
  rw [vp_cell_i, hn]
  exact arrV_ext (fun j hj => by rw [zr_s]; rfl)
theorem v_newA17 (hX : okX X cc nL own ret) {a : Int} {i : Nat} (ha : a = 16) (hf : ¬ w.2 17 i) (hz : z.1 + 1 ≤ (xR X).cells ∧ z.2 + 16 ≤ (xR X).slots) (hdg : At cc pc (.newarray .boolean) 2 nx) (kk : ∀ b : Nat, V X (z.1 + 1, z.2 + 16) (wup w 17 i b) nx lv (zr σ 14 i) (.ref b :: st)) : V X z w pc lv σ (.int (iI a) :: st) := by
  refine v_zr (c := 14) (i := i) (by decide) (by decide) (by decide) hf ?_
  refine v_newA hX (ty := .boolean) (t := 3) wd_1110 (fun _ => rfl) (n := 16) ha (by omega) (by decide) hf (fun g ad => ⟨_, rfl, ?_⟩) rfl hz hdg kk
  rw [vp_cell_i]
  exact arrV_ext (fun j hj => by rw [zr_s]; rfl)
/-- an array of references -/
theorem v_newQ (hX : okX X cc nL own ret) {a : Int} {n k i t idx : Nat} {C : String} (hlink : Cond.classLink own idx C ∈ BW) (hov : Cond.arrayOver (.object C) ∈ NWL) (ht : ∀ g, (tysL g)[t]? = some (g t, .object C)) (ha : a = (n : Int)) (hn : n < 100) (hf : ¬ w.2 k i) {f : Ly → Nat → Option Nat} (hc : ∀ (g : Nat → ClassId) (ad : Ly), cont g ad σ k i = .inl (g t, n, rfs (f ad))) (hno : ∀ ad j, j < n → f ad j = none) (hmn : mn σ k i = []) (hz : z.1 + 1 ≤ (xR X).cells ∧ z.2 + n ≤ (xR X).slots) (hdg : At cc pc (.anewarray idx) 3 nx) (kk : ∀ b : Nat, V X (z.1 + 1, z.2 + n) (wup w k i b) nx lv σ (.ref b :: st)) : V X z w pc lv σ (.int (iI a) :: st) := by
  obtain ⟨d, rfl⟩ := hdg
  intro H locs ls hW hls
  have hts := hX.2.2.2.2.2.2
  have hN : (iI a).toNatClampNeg = n := ix_cl (n := 100) ha hn (by omega)
  have h0 : ¬ iI a < 0 := by
    intro q
    have := (iI_lt0 (a := a) ⟨by omega, by omega⟩).mp q
    omega
  refine W.anew hX.1 hX.2.1 hX.2.2.2.2.1 (hts _ hlink) (va_AO.use (va_AO.of (hW.1.2.1 _ hov))) rfl d rfl h0 (by rw [hN]; omega) hz.1 (by rw [hN]; exact hz.2) fun cA kA comp f1 f2 f3 f4 => ?_
  rw [hN]
  generalize hH1 : H.push ({ cls := cA, slots := Array.replicate n .null, vm := .none } : Cell) = H1
  have z1 : H1.size = H.size + 1 := by rw [← hH1, Array.size_push]
  have e1 : H1[H.size]? = some (arrV cA n (fun _ => .null)) := by rw [← hH1, Array.getElem?_push_size, ← arrV_new]
  have o1 : ∀ q : Nat, q < H.size → H1[q]? = H[q]? := fun q hq => by rw [← hH1, Array.getElem?_push, if_neg (Nat.ne_of_lt hq)]
  have hg1 : xg X t = cA := by
    obtain ⟨-, kA', comp', -, -, -, h⟩ := hW.1.1.2 t _ (ht _)
    exact Option.some.inj (h.symm.trans f1)
  refine kk H.size H1 locs ls (hW.grow hf z1 o1 (fun _ _ _ => rfl) (fun _ _ _ => rfl) (fun q hq => by rw [hmn] at hq; cases hq) ?_) hls
  rw [hc, hg1]
  show H1[H.size]? = some (arrV cA n (fun j => va_rf (f _ j)))
  rw [e1]
  congr 1
  exact arrV_ext (fun j hj => by rw [hno _ j hj]; rfl)
/-- a reference comes into an array -/
theorem v_ast (hX : okX X cc nL own ret) {a : Int} {n j k i t kv iv ci : Nat} {r : vw_C} {vs : List Value} {f f' : Ly → Nat → Option Nat} (σ' : St) (ht : ∀ g, (tysL g)[t]? = some (g t, .object r.1)) (hl : w.2 k i) (hlv : w.2 kv iv) (hc : ∀ g, cont g w.1 σ k i = .inl (g t, n, rfs (f w.1))) (hv : ∀ g, cont g w.1 σ kv iv = .inr (ci, vs)) (hr : vwCl[ci]? = some r) (ha : a = (j : Int)) (hj : j < n) (hn : n < 100) (hc2 : ∀ g, cont g w.1 σ' k i = .inl (g t, n, rfs (f' w.1))) (hf' : ∀ q, q < n → f' w.1 q = if q = j then some (w.1 kv iv) else f w.1 q) (hoth : ∀ g k' i', w.2 k' i' → ¬ (k' = k ∧ i' = i) → cont g w.1 σ' k' i' = cont g w.1 σ k' i') (hm : (∀ k' i', w.2 k' i' → ∀ q ∈ mn σ k' i', w.2 q.1 q.2) → ∀ k' i', w.2 k' i' → ∀ q ∈ mn σ' k' i', w.2 q.1 q.2) (hdg : At cc pc .aastore 1 nx) (kk : V X z w nx lv σ' st) : V X z w pc lv σ (.ref (w.1 kv iv) :: .int (iI a) :: .ref (w.1 k i) :: st) := by
  obtain ⟨d, rfl⟩ := hdg
  intro H locs ls hW hls
  have hN : (iI a).toNatClampNeg = j := ix_cl (n := 100) ha (by omega) (by omega)
  have h0 : ¬ iI a < 0 := by
    intro q
    have := (iI_lt0 (a := a) ⟨by omega, by omega⟩).mp q
    omega
  have hA := hW.2.1 k i hl
  rw [hc] at hA
  have hV := hW.2.1 kv iv hlv
  rw [hv] at hV
  obtain ⟨r', hr', cellV, g1, g2, g3, -⟩ := hV
  have hcls := (hW.1.1.1 ci r hr).2
  obtain ⟨kA, comp, k1, k2, k3, -⟩ := (hW.1.1.2 t _ (ht _)).2
  have hcomp : comp = (xD X).1 ci := Option.some.inj (k3.symm.trans hcls.1)
  subst hcomp
  obtain ⟨kC, hkC, -⟩ := hcls.2
  refine W.aast hX.1 hX.2.1 hA (fun q h => by cases h) (fun h => by cases h) k1 k2 rfl hkC ⟨h0, by show _ < (arrV _ _ _).slots.size; rw [arrV_size, hN]; exact hj⟩ g1 (fun q h => by rw [g3] at h; cases h) (by rw [g2]; exact hkC) (by rw [g2]; exact va_assign hcls) rfl rfl d fun H1 e z1 oq => ?_
  refine kk H1 _ ls (hW.cell hl ?_ z1 oq (hoth _) (hm hW.2.2.1.2)) hls
  rw [hc2]
  show H1[w.1 k i]? = some (arrV (xg X t) n (fun q => va_rf (f' w.1 q)))
  rw [e, hN]
  show some ((vp_cell (xg X t) (n, rfs (f w.1))).setSlot j (.ref (w.1 kv iv))) = _
  unfold rfs
  rw [vp_cell_q, arrV_store]
  congr 1
  refine (arrV_ext (fun q hq => ?_)).symm
  rw [hf' q hq]
  by_cases hq : q = j
  · subst hq
    simp [updV, va_rf]
  · simp [updV, hq]
end JA
