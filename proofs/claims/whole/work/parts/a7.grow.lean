/-! methods that make objects; the world grows -/
def wup (w : Wl) (k i a : Nat) : Wl := (fun k' i' => if k' = k ∧ i' = i then a else w.1 k' i', fun k' i' => w.2 k' i' ∨ (k' = k ∧ i' = i))
def Wle (w w' : Wl) : Prop := ∀ k i, w.2 k i → w'.2 k i ∧ w'.1 k i = w.1 k i
theorem Wle.rf {w : Wl} : Wle w w := fun _ _ h => ⟨h, rfl⟩
theorem Wle.tr {u v w : Wl} (h : Wle u v) (g : Wle v w) : Wle u w := fun k i q => ⟨(g k i (h k i q).1).1, (g k i (h k i q).1).2.trans (h k i q).2⟩
theorem Wle.up {w : Wl} {k i a : Nat} (h : ¬ w.2 k i) : Wle w (wup w k i a) := fun k' i' q => ⟨Or.inl q, if_neg (fun e => h (by rw [← e.1, ← e.2]; exact q))⟩
theorem wup_new {w : Wl} {k i a : Nat} : (wup w k i a).2 k i := Or.inr ⟨rfl, rfl⟩
theorem wup_at {w : Wl} {k i a : Nat} : (wup w k i a).1 k i = a := if_pos ⟨rfl, rfl⟩
theorem ob_ad {ad ad' : Ly} {σ : St} {k i : Nat} (h : ∀ q ∈ (tp k i).filterMap (fun d => if d.1 = 0 then some d.2 else none), ad' q.1 q.2 = ad q.1 q.2) : ob ad' σ k i = ob ad σ k i := by
  unfold ob
  congr 2
  apply List.map_congr_left
  intro d hd
  unfold fv
  by_cases h0 : d.1 = 0
  · rw [if_pos h0, if_pos h0, h d.2 (List.mem_filterMap.mpr ⟨d, hd, if_pos h0⟩)]
  · rw [if_neg h0, if_neg h0]
theorem raw_ad {ad ad' : Ly} {σ : St} {k i : Nat} (h : ∀ q ∈ (ix k i).filterMap (fun q => if q.1.1 = 0 ∧ (q.2 : Int) < σ 21 k i then some q.1.2 else none), ad' q.1 q.2 = ad q.1 q.2) : raw ad' σ k i = raw ad σ k i := by
  unfold raw
  congr 2
  apply List.map_congr_left
  intro d hd
  unfold fr
  by_cases h0 : d.1.1 = 0
  · by_cases h1 : (d.2 : Int) < σ 21 k i
    · rw [if_pos h0, if_pos h0, if_pos h1, if_pos h1, h d.1.2 (List.mem_filterMap.mpr ⟨d, hd, if_pos ⟨h0, h1⟩⟩)]
    · rw [if_pos h0, if_pos h0, if_neg h1, if_neg h1]
  · rw [if_neg h0, if_neg h0]
theorem arrV_ext {cA : ClassId} {n : Nat} {f f' : Nat → Value} (h : ∀ j, j < n → f' j = f j) : arrV cA n f' = arrV cA n f := by
  unfold arrV
  congr 2
  funext j
  exact h j.val j.isLt
theorem at_rfs {D : va_G} {cA : ClassId} {n a : Nat} {f f' : Nat → Option Nat} {H : Heap} (h : ∀ j, j < n → f' j = f j) (hv : va_at D vwCl (a, .inl (cA, n, rfs f)) H) : va_at D vwCl (a, .inl (cA, n, rfs f')) H := by
  have e : vp_cell cA (n, rfs f') = vp_cell cA (n, rfs f) := by
    show arrV cA n (fun j => va_rf (f' j)) = arrV cA n (fun j => va_rf (f j))
    exact arrV_ext (fun j hj => by rw [h j hj])
  show H[a]? = some (vp_cell cA (n, rfs f'))
  rw [e]
  exact hv
theorem cont_ad {g : Nat → ClassId} {ad ad' : Ly} {σ : St} {k i : Nat} (n6 : k ≠ 6) (n11 : k ≠ 11) (n12 : k ≠ 12) (n36 : k ≠ 36) (n41 : k ≠ 41) (h : ∀ q ∈ mn σ k i, ad' q.1 q.2 = ad q.1 q.2) : cont g ad' σ k i = cont g ad σ k i := by
  unfold cont
  split
  all_goals first | exact ob_ad h | exact raw_ad h | exact ob_ad (k := 99) (fun q hq => by cases hq) | exact absurd rfl n6 | exact absurd rfl n11 | exact absurd rfl n12 | exact absurd rfl n36 | exact absurd rfl n41 | rfl
theorem at_ad {D : va_G} {g : Nat → ClassId} {ad ad' : Ly} {σ : St} {k i a : Nat} {H : Heap} (h : ∀ q ∈ mn σ k i, ad' q.1 q.2 = ad q.1 q.2) (hv : va_at D vwCl (a, cont g ad σ k i) H) : va_at D vwCl (a, cont g ad' σ k i) H := by
  by_cases n6 : k = 6
  · subst n6
    refine at_rfs (cA := g 6) (n := (σ 6 i 0).toNat) (f := fun j => if (j : Int) < σ 6 i 0 then some (ad 3 (32 + 8 * i + j)) else none) (f' := fun j => if (j : Int) < σ 6 i 0 then some (ad' 3 (32 + 8 * i + j)) else none) (fun j hj => ?_) hv
    have e : ad' 3 (32 + 8 * i + j) = ad 3 (32 + 8 * i + j) := h (3, 32 + 8 * i + j) (List.mem_map.mpr ⟨j, List.mem_range.mpr hj, rfl⟩)
    show (if (j : Int) < σ 6 i 0 then some (ad' 3 (32 + 8 * i + j)) else none) = _
    rw [e]
  by_cases n11 : k = 11
  · subst n11
    refine at_rfs (cA := g 5) (n := 24) (f := fun j => some (ad 1 j)) (f' := fun j => some (ad' 1 j)) (fun j hj => ?_) hv
    have e : ad' 1 j = ad 1 j := h (1, j) (List.mem_map.mpr ⟨j, List.mem_range.mpr hj, rfl⟩)
    show some (ad' 1 j) = _
    rw [e]
  by_cases n12 : k = 12
  · subst n12
    refine at_rfs (cA := g 4) (n := 16) (f := fun j => if σ 7 0 j = 1 then some (ad 5 j) else none) (f' := fun j => if σ 7 0 j = 1 then some (ad' 5 j) else none) (fun j hj => ?_) hv
    show (if σ 7 0 j = 1 then some (ad' 5 j) else none) = if σ 7 0 j = 1 then some (ad 5 j) else none
    by_cases c : σ 7 0 j = 1
    · have e : ad' 5 j = ad 5 j := h (5, j) (List.mem_map.mpr ⟨j, List.mem_filter.mpr ⟨List.mem_range.mpr hj, decide_eq_true c⟩, rfl⟩)
      rw [e]
    · rw [if_neg c, if_neg c]
  by_cases n36 : k = 36
  · subst n36
    refine at_rfs (cA := g 6) (n := (σ 6 i 0).toNat) (f := fun j => if (j : Int) < σ 21 6 i then some (ad 3 (32 + 8 * i + j)) else none) (f' := fun j => if (j : Int) < σ 21 6 i then some (ad' 3 (32 + 8 * i + j)) else none) (fun j hj => ?_) hv
    show (if (j : Int) < σ 21 6 i then some (ad' 3 (32 + 8 * i + j)) else none) = if (j : Int) < σ 21 6 i then some (ad 3 (32 + 8 * i + j)) else none
    by_cases c : (j : Int) < σ 21 6 i
    · have e : ad' 3 (32 + 8 * i + j) = ad 3 (32 + 8 * i + j) := h (3, 32 + 8 * i + j) (List.mem_map.mpr ⟨j, List.mem_filter.mpr ⟨List.mem_range.mpr hj, decide_eq_true c⟩, rfl⟩)
      rw [e]
    · rw [if_neg c, if_neg c]
  by_cases n41 : k = 41
  · subst n41
    refine at_rfs (cA := g 5) (n := 24) (f := fun j => if (j : Int) < σ 21 11 0 then some (ad 1 j) else none) (f' := fun j => if (j : Int) < σ 21 11 0 then some (ad' 1 j) else none) (fun j hj => ?_) hv
    show (if (j : Int) < σ 21 11 0 then some (ad' 1 j) else none) = if (j : Int) < σ 21 11 0 then some (ad 1 j) else none
    by_cases c : (j : Int) < σ 21 11 0
    · have e : ad' 1 j = ad 1 j := h (1, j) (List.mem_map.mpr ⟨j, List.mem_filter.mpr ⟨List.mem_range.mpr hj, decide_eq_true c⟩, rfl⟩)
      rw [e]
    · rw [if_neg c, if_neg c]
  rw [cont_ad n6 n11 n12 n36 n41 h]
  exact hv
/-- of a larger world the smaller -/
theorem WD.less {D : va_G} {g : Nat → ClassId} {w w' : Wl} {σ : St} {A : Nat → Prop} {s : State} {H : Heap} {locs : List Loc} (h : WD D g w' σ A s H locs) (hw : Wle w w') (hc : ∀ k i, w.2 k i → ∀ q ∈ mn σ k i, w.2 q.1 q.2) : WD D g w σ A s H locs := by
  obtain ⟨h1, h2, h3, h4, h5, h6⟩ := h
  refine ⟨h1, fun k i hk => ?_, ⟨fun k i k' i' a b e => h3.1 k i k' i' (hw k i a).1 (hw k' i' b).1 (by rw [(hw k i a).2, (hw k' i' b).2]; exact e), hc⟩, fun k i hk => by rw [← (hw k i hk).2]; exact h4 k i (hw k i hk).1, h5, h6⟩
  have := h2 k i (hw k i hk).1
  rw [(hw k i hk).2] at this
  exact at_ad (fun q hq => ((hw _ _ (hc k i hk q hq)).2).symm) this
theorem RT.less {X : CX} {z : Nat × Nat} {w w' : Wl} {v : Option Value} {σ : St} (h : RT X z w v σ) (hw : Wle w w') (hc : ∀ k i, w.2 k i → ∀ q ∈ mn σ k i, w.2 q.1 q.2) : RT X z w' v σ := by
  obtain ⟨Qc, free, h1, h2⟩ := h
  exact ⟨Qc, free, h1, fun H locs hW => h2 H locs (hW.less hw hc)⟩
/-- one object more -/
theorem WD.grow {D : va_G} {g : Nat → ClassId} {w : Wl} {σ σ' : St} {A : Nat → Prop} {s : State} {H H1 : Heap} {locs : List Loc} {k i : Nat} (hW : WD D g w σ A s H locs) (hf : ¬ w.2 k i) (hz : H1.size = H.size + 1) (ho : ∀ q : Nat, q < H.size → H1[q]? = H[q]?) (hc : ∀ k' i', w.2 k' i' → cont g w.1 σ' k' i' = cont g w.1 σ k' i') (hm : ∀ k' i', w.2 k' i' → mn σ' k' i' = mn σ k' i') (hmn : ∀ q ∈ mn σ' k i, w.2 q.1 q.2) (hnew : va_at D vwCl (H.size, cont g (wup w k i H.size).1 σ' k i) H1) : WD D g (wup w k i H.size) σ' A s H1 locs := by
  obtain ⟨h1, h2, h3, h4, h5, h6⟩ := hW
  have hlt : ∀ k' i', w.2 k' i' → w.1 k' i' < H.size := fun k' i' hl => (h2 k' i' hl).lt
  have hle : Wle w (wup w k i H.size) := Wle.up hf
  refine ⟨h1, ?_, ⟨?_, ?_⟩, ?_, ⟨Nat.le_trans h5.1 (by omega), fun q a b => (ho q (Nat.lt_of_lt_of_le a h5.1)).trans (h5.2.1 q a b), h5.2.2⟩, h6⟩
  · rintro k' i' (hl | ⟨rfl, rfl⟩)
    · have h := (h2 k' i' hl).kept (ho _ (hlt k' i' hl))
      rw [← hc k' i' hl] at h
      rw [(hle k' i' hl).2]
      exact at_ad (fun q hq => (hle _ _ (h3.2 k' i' hl q (by rw [← hm k' i' hl]; exact hq))).2) h
    · rw [wup_at]
      exact hnew
  · rintro k1 i1 k2 i2 (a | ⟨rfl, rfl⟩) (b | ⟨rfl, rfl⟩) e
    · rw [(hle _ _ a).2, (hle _ _ b).2] at e
      exact h3.1 _ _ _ _ a b e
    · rw [(hle _ _ a).2, wup_at] at e
      exact absurd (hlt _ _ a) (by omega)
    · rw [(hle _ _ b).2, wup_at] at e
      exact absurd (hlt _ _ b) (by omega)
    · exact ⟨rfl, rfl⟩
  · rintro k' i' (a | ⟨rfl, rfl⟩) q hq
    · rw [hm k' i' a] at hq
      exact Or.inl (h3.2 k' i' a q hq)
    · exact Or.inl (hmn q hq)
  · rintro k' i' (a | ⟨rfl, rfl⟩)
    · rw [(hle _ _ a).2]
      exact h4 k' i' a
    · rw [wup_at]
      exact h6.1 _ h5.1
/-- a method that makes so much at most -/
def Cm {α : Type} (l : Launch) (y : MethodName) (cc : ByteArray) (nL : Nat) (ret : Option FieldType) (fr lo mc ms : Nat) (wr : α → Option Value) (args : List Value) (w : Wl) (σ : St) (post : α → St → Prop) : Prop :=
  ∀ (D : va_G) (g : Nat → ClassId) (sz : Nat), Met l y (.code y cc nL ret :: BW) { frames := fr, cells := mc, slots := ms, locals := lo } (va_Pc args (PW D g w σ sz)) (QX D g w sz wr post) mc ms (AF w sz)
theorem Cm.of {α : Type} {l : Launch} {y : MethodName} {cc : ByteArray} {nL : Nat} {ret : Option FieldType} {fr lo mc ms : Nat} {wr : α → Option Value} {args : List Value} {w : Wl} {σ : St} {post : α → St → Prop} {own : String} {lv : List (Nat × Value)}
    (hy : plainName y.cls = true) (hown : y.cls = own) (hlen : (lg_sl args).length ≤ nL) (hlv : lv_args 0 args = lv)
    (h : ∀ X : CX, okX X cc nL own ret → xl X = l → xR X = { frames := fr, cells := mc, slots := ms, locals := lo } → (∀ k i, w.2 k i → ∀ q ∈ mn σ k i, w.2 q.1 q.2) → (∀ a σ', post a σ' → ∀ z : Nat × Nat, z.1 ≤ mc ∧ z.2 ≤ ms → RT X z w (wr a) σ') → V X (0, 0) w 0 lv σ []) : Cm l y cc nL ret fr lo mc ms wr args w σ post := by
  intro D g sz
  refine Met.ofW (cc := cc) (maxL := nL) (ret := ret) hy rfl ?_
  intro p e s m args' below meth c s₁ B hml hv
  obtain ⟨rfl, hsz, hE, hSR⟩ := hv
  have hts := atoms_spec (ws := .code y cc nL ret :: BW) B.pre
  have hfc : s.vm.findClass own = some m.cls := by rw [← hown]; exact findClass_of_methodNamed B.named
  have K := h (p, l, e, { frames := fr, cells := mc, slots := ms, locals := lo }, s, m, args.toArray, below, meth, c, MQ below (QX D g w sz wr post) args.toArray s mc ms (AF w sz), AF w sz, D, g)
    ⟨B.exec, B.bytes, hml, B.returns, hfc, B.notSynchronized, fun x hx => hts x (List.mem_cons_of_mem _ hx)⟩ rfl rfl hE.2.2.2 ?_
  · rw [lg_entry_eq]
    have hl := lv_entry args (n := nL) hlen
    rw [hlv] at hl
    refine K s.heap [] _ ⟨hE.1, hE.2.1, hE.2.2, fun k i hk => Or.inl ⟨k, i, hk, rfl⟩, va_S.rf, fun q hq => Or.inr (by rw [← hsz]; exact hq), hSR⟩ ?_
    show lv_has _ c.maxLocals lv
    rw [hml]
    exact hl
  · intro a σ' hp z hz
    refine ⟨QX D g w sz wr post, AF w sz, fun H locs g k => ?_, fun H locs hW => ⟨fun t ht hWt => ⟨⟨a, σ', rfl, hp, hW.1.warm hWt, ?_, hW.2.2.1⟩, hW.2.2.2.2.1.F ht⟩, hW.2.2.2.2.1.2.2⟩⟩
    · intro T hT X0
      obtain ⟨t, a1, o, b1, b2, b3, L, b4, b5⟩ := k T hT X0
      exact ⟨t, a1, o, b1, b2, b3, L, ⟨b4.1, b4.2.1, b4.2.2.mono hz.1 hz.2⟩, b5⟩
    · rw [ht]
      exact hW.2.1
section JM
variable {X : CX} {z : Nat × Nat} {w : Wl} {pc nx : Nat} {lv lv' : List (Nat × Value)} {σ : St} {st rest : List Value} {cc : ByteArray} {nL : Nat} {own : String} {ret : Option FieldType}
theorem v_ldcw (hX : okX X cc nL own ret) {k : Nat} {v : Int32} {r : Int} (hw : Cond.constant own k v ∈ BW) (hv : v = iI r) (hdg : At cc pc (.ldc_w k) 3 nx) (kk : V X z w nx lv σ (.int (iI r) :: st)) : V X z w pc lv σ (st) := by
  obtain ⟨d, rfl⟩ := hdg
  intro H locs ls hW hl
  exact lv_ldcw hX.1 hX.2.1 hX.2.2.2.2.1 (hX.2.2.2.2.2.2 _ hw) d (by rw [hv]; exact kk H locs ls hW hl)
theorem v_runM {α : Type} {wr : α → Option Value} {post : α → St → Prop} {st0 : List Value} {mc ms : Nat} (hn : nx = pc + 3)
    (hr : ∀ H locs ls, XD X w σ H locs → ls.size = (xc X).maxLocals → va_Run (xp X) (xl X) (xe X) (xR X) (xs X) (xm X) (xa X) (xb X) (xM X) (xc X) H locs z.1 z.2 mc ms (F0 (xm X) pc ls st0) rest (QX (xD X) (xg X) w H.size wr post #[]) (AF w H.size))
    (kk : ∀ a σ', post a σ' → V X (z.1 + mc, z.2 + ms) w nx lv σ' ((wr a).toList ++ rest)) : V X z w pc lv σ st0 := by
  subst hn
  intro H locs ls hW hl T hT X0
  obtain ⟨v, st₀, t, T', L, h0, X', hL, e1, e2, ⟨⟨a, σ', hv, hp, hE⟩, hF⟩, stp⟩ := hr H locs ls hW hl.1 T hT X0
  cases hv
  obtain ⟨t2, a1, b1⟩ := kk a σ' hp T'.heap (locs ++ L) ls (hW.after h0 e1 hF hL hE.2.1 hE.2.2) hl T' rfl X'
  exact ⟨t2, stp t2 a1, b1⟩
theorem v_callVM {α : Type} (hX : okX X cc nL own ret) {y : MethodName} {b : ByteArray} {n' idx k i ci kn fr lo mc ms : Nat} {r : Option FieldType} {wr : α → Option Value} {As : List Value} {post : α → St → Prop} {q : vw_C} {fs : List Value}
    (hM : Cm (xl X) y b n' r fr lo mc ms wr (.ref (w.1 k i) :: As) w σ post) (hL : LkV own idx y b n' r kn) (hl : w.2 k i) (hc : ∀ g, cont g w.1 σ k i = .inr (ci, fs)) (hq : vwCl[ci]? = some q) (hqy : q.1 = y.cls) (hkn : As.length = kn) (hR : fr + 1 ≤ (xR X).frames ∧ 8 + (n' + 11) + lo ≤ (xR X).locals) (hz : z.1 + mc ≤ (xR X).cells ∧ z.2 + ms ≤ (xR X).slots) (hst : st = As.reverse ++ .ref (w.1 k i) :: rest) (hcat : (rest.map fun v => v.category).sum ≤ 8) (hdg : At cc pc (.invokevirtual idx) 3 nx)
    (kk : ∀ a σ', post a σ' → V X (z.1 + mc, z.2 + ms) w nx lv σ' ((wr a).toList ++ rest)) : V X z w pc lv σ st := by
  refine v_runM hdg.2 (fun H locs ls hW hls => ?_) kk
  exact va_runV (As := As) (rest := rest) ⟨hX.1, hX.2.1, rfl, hX.2.2.2.2.1, hX.2.2.2.2.2.2⟩ (hM (xD X) (xg X) H.size) (cwV kn hX.2.2.2.2.2.2 hL.1 rfl rfl rfl ⟨rfl, hL.2⟩ hR) ⟨PW.blind, by rw [← hqy]; exact rcv hW hl (hc _) hq, fun U hU hWU => ⟨rfl, hW.pw hU hWU⟩⟩ rfl hkn hls hst (by show 2 * 0 + _ ≤ 8; omega) hdg.1 hz
theorem v_callSM {α : Type} (hX : okX X cc nL own ret) {y : MethodName} {b : ByteArray} {n' idx kn fr lo mc ms : Nat} {r : Option FieldType} {wr : α → Option Value} {As : List Value} {post : α → St → Prop}
    (hM : Cm (xl X) y b n' r fr lo mc ms wr As w σ post) (hL : LkS own idx y b n' r kn) (hkn : As.length = kn) (hR : fr + 1 ≤ (xR X).frames ∧ 8 + (n' + 11) + lo ≤ (xR X).locals) (hz : z.1 + mc ≤ (xR X).cells ∧ z.2 + ms ≤ (xR X).slots) (hst : st = As.reverse ++ rest) (hcat : (rest.map fun v => v.category).sum ≤ 8) (hdg : At cc pc (.invokestatic idx) 3 nx)
    (kk : ∀ a σ', post a σ' → V X (z.1 + mc, z.2 + ms) w nx lv σ' ((wr a).toList ++ rest)) : V X z w pc lv σ st := by
  refine v_runM hdg.2 (fun H locs ls hW hls => ?_) kk
  have hts := hX.2.2.2.2.2.2
  obtain ⟨g1, g2, g3, g4, g5⟩ := hL
  exact va_runS (As := As) (rest := rest) ⟨hX.1, hX.2.1, rfl, hX.2.2.2.2.1, hts⟩ (hM (xD X) (xg X) H.size) ⟨callB_of kn hts g1 rfl rfl rfl (hts _ g4) (hts _ g2) g5 hR, hts _ g3⟩ ⟨PW.blind, fun U hU hWU => ⟨rfl, hW.pw hU hWU⟩⟩ rfl hkn hls hst (by show 2 * 0 + _ ≤ 8; omega) hdg.1 hz
/-- a new array of ints that the world has not yet -/
def zr (σ : St) (c i : Nat) : St := fun c' i' j => if c' = c ∧ i' = i then 0 else σ c' i' j
theorem zr_s {σ : St} {c i j : Nat} : zr σ c i c i j = 0 := by simp [zr]
theorem zr_i {σ : St} {c i i' : Nat} (h : i' ≠ i) : zr σ c i c i' = σ c i' := by funext j; simp [zr, h]
theorem zr_c {σ : St} {c i c' : Nat} (h : c' ≠ c) : zr σ c i c' = σ c' := by funext a b; simp [zr, h]
theorem Fr.zr {σ : St} {c i : Nat} {l : List (Nat × Nat)} (h : (c, i) ∈ l) : Fr l σ (zr σ c i) := by
  intro c' i' hn
  by_cases e : c' = c
  · subst e
    by_cases e2 : i' = i
    · subst e2
      exact absurd h hn
    · exact zr_i e2
  · rw [zr_c e]
theorem v_newI (hX : okX X cc nL own ret) {a : Int} {n i : Nat} (hi : i % 4096 = n) (ha : a = (n : Int)) (hf : ¬ w.2 19 i) (hz : z.1 + 1 ≤ (xR X).cells ∧ z.2 + n ≤ (xR X).slots) (hdg : At cc pc (.newarray .int) 2 nx) (kk : ∀ b : Nat, V X (z.1 + 1, z.2 + n) (wup w 19 i b) nx lv (zr σ 16 i) (.ref b :: st)) : V X z w pc lv σ (.int (iI a) :: st) := by
  obtain ⟨d, rfl⟩ := hdg
  intro H locs ls hW hls
  have hlt : n < 4096 := by rw [← hi]; exact Nat.mod_lt _ (by omega)
  refine va_newaK (atype := .int) hX.1 hX.2.1 (hX.2.2.2.2.2.2 _ wd_143) rfl d rfl (n := iI a) (N := n) ?_ (ix_cl (n := 4096) ha hlt (by omega)) ?_ hz.1 hz.2 rfl fun H1 cA e1 z1 o1 hAr hNm => ?_
  · intro q
    have := (iI_lt0 (a := a) ⟨by omega, by omega⟩).mp q
    omega
  · show n * 4 ≤ 536870912
    omega
  · have hg1 : xg X 1 = cA := by
      have h := (hW.1.1.2 1 _ rfl).2
      have h2 : (xs X).vm.findClass ("[" ++ FieldType.int.toString) = some (xg X 1) := h
      have h3 : (xs X).vm.findClass ("[" ++ FieldType.int.toString) = some cA := hNm
      rw [h2] at h3
      exact Option.some.inj h3
    refine kk H.size H1 locs ls (hW.grow hf z1 o1 ?_ ?_ ?_ ?_) hls
    · intro k' i' hl
      refine cont_congr (fun c hc => ?_) (zr_c (by decide)) (zr_c (by decide)) (zr_c (by decide))
      by_cases e : c = 16
      · subst e
        have hc2 : k' = 19 := hc.symm
        exact zr_i (fun e2 => hf (by rw [← e2, ← hc2]; exact hl))
      · rw [zr_c e]
    · intro k' i' hl
      exact mn_congr (zr_c (by decide)) (zr_c (by decide)) (zr_c (by decide))
    · intro q hq
      cases hq
    · show H1[H.size]? = some (vp_cell (xg X 1) (i % 4096, .inl (fun j => iI (zr σ 16 i 16 i j))))
      rw [e1, hi, ← hg1, vp_cell_i]
      congr 1
      exact arrV_ext (fun j hj => by rw [zr_s]; rfl)
end JM
