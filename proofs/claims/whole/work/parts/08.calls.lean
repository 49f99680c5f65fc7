/-! contracts and calls -/
def PW (D : va_G) (g : Nat → ClassId) (w : Wl) (σ : St) (sz : Nat) : State → Prop := fun U => U.heap.size = sz ∧ WE D g w σ U ∧ SR (AF w sz) U U.heap
/-- method y, called so in the store σ, makes nothing and returns 'wr a' with a store such as 'post' says -/
def Cn {α : Type} (l : Launch) (y : MethodName) (cc : ByteArray) (nL : Nat) (ret : Option FieldType) (fr lo : Nat) (wr : α → Option Value) (args : List Value) (w : Wl) (σ : St) (post : α → St → Prop) : Prop :=
  ∀ (D : va_G) (g : Nat → ClassId) (sz : Nat), Met l y (.code y cc nL ret :: BW) { frames := fr, cells := 0, slots := 0, locals := lo } (va_Pc args (PW D g w σ sz))
    (fun _ st oc t => (∃ (a : α) (σ' : St), oc = .returned (wr a) ∧ post a σ' ∧ WE D g w σ' t) ∧ va_F (AF w sz) st t) 0 0 (AF w sz)
abbrev wI (a : Int) : Option Value := some (.int (iI a))
abbrev wJ (a : Int) : Option Value := some (.long (jI a))
abbrev wN (_ : Unit) : Option Value := none
abbrev wT (a : Nat) : Option Value := some (.ref a)
theorem Cn.of {α : Type} {l : Launch} {y : MethodName} {cc : ByteArray} {nL : Nat} {ret : Option FieldType} {fr lo : Nat} {wr : α → Option Value} {args : List Value} {w : Wl} {σ : St} {post : α → St → Prop} {own : String} {lv : List (Nat × Value)}
    (hy : plainName y.cls = true) (hown : y.cls = own) (hlen : (lg_sl args).length ≤ nL) (hlv : lv_args 0 args = lv)
    (h : ∀ X : CX, okX X cc nL own ret → xl X = l → xR X = { frames := fr, cells := 0, slots := 0, locals := lo } → (∀ k i, w.2 k i → ∀ q ∈ mn σ k i, w.2 q.1 q.2) → (∀ a σ', post a σ' → RT X (0, 0) w (wr a) σ') → V X (0, 0) w 0 lv σ []) : Cn l y cc nL ret fr lo wr args w σ post := by
  intro D g sz
  refine Met.ofW (cc := cc) (maxL := nL) (ret := ret) hy rfl ?_
  intro p e s m args' below meth c s₁ B hml hv
  obtain ⟨rfl, hsz, hE, hSR⟩ := hv
  have hts := atoms_spec (ws := .code y cc nL ret :: BW) B.pre
  have hfc : s.vm.findClass own = some m.cls := by rw [← hown]; exact findClass_of_methodNamed B.named
  have K := h (p, l, e, { frames := fr, cells := 0, slots := 0, locals := lo }, s, m, args.toArray, below, meth, c, MQ below (fun _ st oc t => (∃ (a : α) (σ' : St), oc = .returned (wr a) ∧ post a σ' ∧ WE D g w σ' t) ∧ va_F (AF w sz) st t) args.toArray s 0 0 (AF w sz), AF w sz, D, g)
    ⟨B.exec, B.bytes, hml, B.returns, hfc, B.notSynchronized, fun x hx => hts x (List.mem_cons_of_mem _ hx)⟩ rfl rfl hE.2.2.2 ?_
  · rw [lg_entry_eq]
    have hl := lv_entry args (n := nL) hlen
    rw [hlv] at hl
    refine K s.heap [] _ ⟨hE.1, hE.2.1, hE.2.2, fun k i hk => Or.inl ⟨k, i, hk, rfl⟩, va_S.rf, fun q hq => Or.inr (by rw [← hsz]; exact hq), hSR⟩ ?_
    show lv_has _ c.maxLocals lv
    rw [hml]
    exact hl
  · intro a σ' hp
    refine ⟨fun _ st oc t => (∃ (a : α) (σ' : St), oc = .returned (wr a) ∧ post a σ' ∧ WE D g w σ' t) ∧ va_F (AF w sz) st t, AF w sz, fun H locs g k => k, fun H locs hW => ⟨fun t ht hWt => ⟨⟨a, σ', rfl, hp, hW.1.warm hWt, ?_, hW.2.2.1⟩, hW.2.2.2.2.1.F ht⟩, hW.2.2.2.2.1.2.2⟩⟩
    rw [ht]
    exact hW.2.1
theorem PW.blind {D : va_G} {g : Nat → ClassId} {w : Wl} {σ : St} {sz : Nat} {args : List Value} : FrameBlind (va_Pc args (PW D g w σ sz)) := by
  intro a U f mk h
  obtain ⟨h0, h1, h2, h3⟩ := h
  exact ⟨h0, h1, ⟨WK.same (s := U) (U := U.calling f mk a) rfl h2.1, h2.2.1, h2.2.2⟩, SR.moved (Vm.Alike.refl U.vm) h3⟩
theorem WD.pw {D : va_G} {g : Nat → ClassId} {w : Wl} {σ : St} {A : Nat → Prop} {s : State} {H : Heap} {locs : List Loc} (h : WD D g w σ A s H locs) {U : State} (hU : U.heap = H) (hW : s.WarmedH U.vm) : PW D g w σ H.size U := by
  refine ⟨by rw [hU], ⟨h.1.warm hW, by rw [hU]; exact h.2.1, h.2.2.1⟩, ?_⟩
  rw [hU]
  refine SR.moved hW.alike ((h.2.2.2.2.2.2.kept h.2.2.2.2.1.2.1).narrow ?_)
  rintro q (⟨k, i, hk, rfl⟩ | hq)
  · exact h.2.2.2.1 k i hk
  · exact h.2.2.2.2.2.1 q (Nat.le_trans h.2.2.2.2.1.1 hq)
theorem WD.af {D : va_G} {g : Nat → ClassId} {w : Wl} {σ : St} {A : Nat → Prop} {s : State} {H : Heap} {locs : List Loc} (h : WD D g w σ A s H locs) : ∀ q, AF w H.size q → A q := by
  rintro q (⟨k, i, hk, rfl⟩ | hq)
  · exact h.2.2.2.1 k i hk
  · exact h.2.2.2.2.2.1 q (Nat.le_trans h.2.2.2.2.1.1 hq)
section JC
variable {X : CX} {z : Nat × Nat} {w : Wl} {pc nx : Nat} {lv lv' : List (Nat × Value)} {σ : St} {st rest : List Value} {cc : ByteArray} {nL : Nat} {own : String} {ret : Option FieldType}
theorem v_run {α : Type} {wr : α → Option Value} {post : α → St → Prop} {st0 : List Value} (hn : nx = pc + 3)
    (hr : ∀ H locs ls, XD X w σ H locs → ls.size = (xc X).maxLocals → va_Run (xp X) (xl X) (xe X) (xR X) (xs X) (xm X) (xa X) (xb X) (xM X) (xc X) H locs z.1 z.2 0 0 (F0 (xm X) pc ls st0) rest (fun st oc t => (∃ (a : α) (σ' : St), oc = .returned (wr a) ∧ post a σ' ∧ WE (xD X) (xg X) w σ' t) ∧ va_F (AF w H.size) st t) (AF w H.size))
    (kk : ∀ a σ', post a σ' → V X z w nx lv σ' ((wr a).toList ++ rest)) : V X z w pc lv σ st0 := by
  subst hn
  intro H locs ls hW hl T hT X0
  obtain ⟨v, st₀, t, T', L, h0, X', hL, e1, e2, ⟨⟨a, σ', hv, hp, hE⟩, hz, hk⟩, stp⟩ := hr H locs ls hW hl.1 T hT X0
  cases hv
  rw [h0] at hz hk
  have hS := hW.2.2.2.2.1
  have hA := hW.af
  obtain ⟨t2, a1, b1⟩ := kk a σ' hp T'.heap (locs ++ L) ls ⟨hW.1, by rw [e1]; exact hE.2.1, hE.2.2, hW.2.2.2.1,
    ⟨Nat.le_trans hS.1 (by rw [e1]; exact hz), fun q h1 h2 => by rw [e1, hk q (Nat.lt_of_lt_of_le h1 hS.1) (fun y => h2 (hA q y))]; exact hS.2.1 q h1 h2, fun q hq => by
      rcases List.mem_append.mp hq with h | h
      · exact hS.2.2 q h
      · exact hA _ (hL q h)⟩, hW.2.2.2.2.2⟩ hl T' rfl X'
  exact ⟨t2, stp t2 a1, b1⟩
theorem gd_cons {y : MethodName} {b : ByteArray} {n : Nat} {r : Option FieldType} (h : Cond.code y b n r ∈ BW) : GoodIn BW (.code y b n r :: BW) := by
  have hb : ∀ x ∈ BW, x ∈ BW ∧ ((x.onTables && x.keeps) = true ∨ ∃ ty, x = .arrayClass ty) := fun x hx => ⟨hx, good_of_word (List.mem_filter.mp hx).2⟩
  intro x hx
  rcases List.mem_cons.mp hx with rfl | hx
  · exact hb _ h
  · exact hb _ hx
theorem gd_app {l1 l2 : List Cond} (h1 : ∀ x ∈ l1, x ∈ BW) (h2 : GoodIn BW l2) : GoodIn BW (l1 ++ l2) := by
  intro x hx
  rcases List.mem_append.mp hx with h | h
  · exact ⟨h1 x h, good_of_word (List.mem_filter.mp (h1 x h)).2⟩
  · exact h2 x h
/-- an instance method of our own can be called -/
def LkV (own : String) (idx : Nat) (y : MethodName) (b : ByteArray) (n : Nat) (r : Option FieldType) (k : Nat) : Prop :=
  GoodIn BW (wsV own idx y.cls y (.code y b n r :: BW)) ∧ y.cls ≠ "java/lang/invoke/MethodHandle" ∧ y.cls ≠ "java/lang/invoke/VarHandle" ∧ (parseMethodDescriptor y.desc).map (fun d => d.parameters.length) = some k
theorem lkV {own : String} {idx : Nat} {y : MethodName} {b : ByteArray} {n : Nat} {r : Option FieldType} {k : Nat} (h1 : Cond.methodLink own idx y ∈ BW) (h2 : Cond.instanceMethod y ∈ BW) (h3 : Cond.selects y.cls y y ∈ BW) (h4 : Cond.initialized y.cls ∈ BW) (h5 : Cond.code y b n r ∈ BW) (h6 : y.cls ≠ "java/lang/invoke/MethodHandle" ∧ y.cls ≠ "java/lang/invoke/VarHandle" ∧ (parseMethodDescriptor y.desc).map (fun d => d.parameters.length) = some k) : LkV own idx y b n r k := by
  refine ⟨gd_app ?_ (gd_cons h5), h6⟩
  intro x hx
  simp only [List.mem_cons, List.not_mem_nil, or_false] at hx
  rcases hx with rfl | rfl | rfl | rfl <;> assumption
def LkN (own : String) (idx : Nat) (y : MethodName) (b : ByteArray) (n : Nat) (r : Option FieldType) (k : Nat) : Prop :=
  GoodIn BW (.code y b n r :: BW) ∧ (Cond.methodLinkNest own idx y "SealHouseModel" ∈ NWL ∨ Cond.methodLinkNest own idx y "SealHouse" ∈ NWL) ∧ Cond.instanceMethod y ∈ BW ∧ Cond.selects y.cls y y ∈ BW ∧ Cond.initialized y.cls ∈ BW ∧ y.cls ≠ "java/lang/invoke/MethodHandle" ∧ y.cls ≠ "java/lang/invoke/VarHandle" ∧ (parseMethodDescriptor y.desc).map (fun d => d.parameters.length) = some k
def LkS (own : String) (idx : Nat) (y : MethodName) (b : ByteArray) (n : Nat) (r : Option FieldType) (k : Nat) : Prop :=
  GoodIn BW (.code y b n r :: BW) ∧ Cond.methodLink own idx y ∈ BW ∧ Cond.static y ∈ BW ∧ Cond.initialized y.cls ∈ BW ∧ y.cls ≠ "java/lang/invoke/MethodHandle" ∧ y.cls ≠ "java/lang/invoke/VarHandle" ∧ (parseMethodDescriptor y.desc).map (fun d => d.parameters.length) = some k
/-- the kinds whose objects are called, and their classes -/
theorem rcv {D : va_G} {g : Nat → ClassId} {A : Nat → Prop} {s : State} {H : Heap} {locs : List Loc} {k i ci : Nat} {q : vw_C} {fs : List Value} (hW : WD D g w σ A s H locs) (hl : w.2 k i) (hc : cont g w.1 σ k i = .inr (ci, fs)) (hq : vwCl[ci]? = some q) : ∃ cell : Cell, H[w.1 k i]? = some cell ∧ cell.vm.isStatics = false ∧ s.vm.findClass q.1 = some cell.cls := by
  have h := hW.2.1 k i hl
  rw [hc] at h
  exact va_recv (ws := [(w.1 k i, .inr (ci, fs))]) (q0 := 0) hW.1.1 (by
    intro a q hq
    have hz : a < 1 := (List.getElem?_eq_some_iff.mp hq).1
    rw [show a = 0 by omega] at hq
    cases hq
    exact h) hq rfl
theorem v_callV {α : Type} (hX : okX X cc nL own ret) {y : MethodName} {b : ByteArray} {n' idx k i ci kn fr lo : Nat} {r : Option FieldType} {wr : α → Option Value} {As : List Value} {post : α → St → Prop} {q : vw_C} {fs : List Value}
    (hM : Cn (xl X) y b n' r fr lo wr (.ref (w.1 k i) :: As) w σ post) (hL : LkV own idx y b n' r kn) (hl : w.2 k i) (hc : ∀ g, cont g w.1 σ k i = .inr (ci, fs)) (hq : vwCl[ci]? = some q) (hqy : q.1 = y.cls) (hkn : As.length = kn) (hR : fr + 1 ≤ (xR X).frames ∧ 8 + (n' + 11) + lo ≤ (xR X).locals) (hz : z.1 ≤ (xR X).cells ∧ z.2 ≤ (xR X).slots) (hst : st = As.reverse ++ .ref (w.1 k i) :: rest) (hcat : (rest.map fun v => v.category).sum ≤ 8) (hdg : At cc pc (.invokevirtual idx) 3 nx)
    (kk : ∀ a σ', post a σ' → V X z w nx lv σ' ((wr a).toList ++ rest)) : V X z w pc lv σ st := by
  refine v_run hdg.2 (fun H locs ls hW hls => ?_) kk
  exact va_runV (As := As) (rest := rest) ⟨hX.1, hX.2.1, rfl, hX.2.2.2.2.1, hX.2.2.2.2.2.2⟩ (hM (xD X) (xg X) H.size) (cwV kn hX.2.2.2.2.2.2 hL.1 rfl rfl rfl ⟨rfl, hL.2⟩ hR) ⟨PW.blind, by rw [← hqy]; exact rcv hW hl (hc _) hq, fun U hU hWU => ⟨rfl, hW.pw hU hWU⟩⟩ rfl hkn hls hst (by show 2 * 0 + _ ≤ 8; omega) hdg.1 hz
theorem v_callN {α : Type} (hX : okX X cc nL own ret) {y : MethodName} {b : ByteArray} {n' idx k i ci kn fr lo : Nat} {r : Option FieldType} {wr : α → Option Value} {As : List Value} {post : α → St → Prop} {q : vw_C} {fs : List Value}
    (hM : Cn (xl X) y b n' r fr lo wr (.ref (w.1 k i) :: As) w σ post) (hL : LkN own idx y b n' r kn) (hl : w.2 k i) (hc : ∀ g, cont g w.1 σ k i = .inr (ci, fs)) (hq : vwCl[ci]? = some q) (hqy : q.1 = y.cls) (hkn : As.length = kn) (hR : fr + 1 ≤ (xR X).frames ∧ 8 + (n' + 11) + lo ≤ (xR X).locals) (hz : z.1 ≤ (xR X).cells ∧ z.2 ≤ (xR X).slots) (hst : st = As.reverse ++ .ref (w.1 k i) :: rest) (hcat : (rest.map fun v => v.category).sum ≤ 8) (hdg : At cc pc (.invokevirtual idx) 3 nx)
    (kk : ∀ a σ', post a σ' → V X z w nx lv σ' ((wr a).toList ++ rest)) : V X z w pc lv σ st := by
  refine v_run hdg.2 (fun H locs ls hW hls => ?_) kk
  have hts := hX.2.2.2.2.2.2
  obtain ⟨g1, g2, g3, g4, g5, g6⟩ := hL
  rcases g2 with g2 | g2
  all_goals exact va_runVN (As := As) (rest := rest) ⟨hX.1, hX.2.1, rfl, hX.2.2.2.2.1, hts⟩ (hM (xD X) (xg X) H.size) ⟨va_cnB kn hts g1 rfl rfl rfl (hW.1.2.1 _ g2) (hts _ g5) g6 hR, hts _ g3, hts _ g4⟩ ⟨PW.blind, by rw [← hqy]; exact rcv hW hl (hc _) hq, fun U hU hWU => ⟨rfl, hW.pw hU hWU⟩⟩ rfl hkn hls hst (by show 2 * 0 + _ ≤ 8; omega) hdg.1 hz
theorem v_callS {α : Type} (hX : okX X cc nL own ret) {y : MethodName} {b : ByteArray} {n' idx kn fr lo : Nat} {r : Option FieldType} {wr : α → Option Value} {As : List Value} {post : α → St → Prop}
    (hM : Cn (xl X) y b n' r fr lo wr As w σ post) (hL : LkS own idx y b n' r kn) (hkn : As.length = kn) (hR : fr + 1 ≤ (xR X).frames ∧ 8 + (n' + 11) + lo ≤ (xR X).locals) (hz : z.1 ≤ (xR X).cells ∧ z.2 ≤ (xR X).slots) (hst : st = As.reverse ++ rest) (hcat : (rest.map fun v => v.category).sum ≤ 8) (hdg : At cc pc (.invokestatic idx) 3 nx)
    (kk : ∀ a σ', post a σ' → V X z w nx lv σ' ((wr a).toList ++ rest)) : V X z w pc lv σ st := by
  refine v_run hdg.2 (fun H locs ls hW hls => ?_) kk
  have hts := hX.2.2.2.2.2.2
  obtain ⟨g1, g2, g3, g4, g5⟩ := hL
  exact va_runS (As := As) (rest := rest) ⟨hX.1, hX.2.1, rfl, hX.2.2.2.2.1, hts⟩ (hM (xD X) (xg X) H.size) ⟨callB_of kn hts g1 rfl rfl rfl (hts _ g4) (hts _ g2) g5 hR, hts _ g3⟩ ⟨PW.blind, fun U hU hWU => ⟨rfl, hW.pw hU hWU⟩⟩ rfl hkn hls hst (by show 2 * 0 + _ ≤ 8; omega) hdg.1 hz
/-! arrays -/
theorem one_P {D : va_G} {H : Heap} {a : Nat} {e : va_E} (h : va_at D vwCl (a, e) H) : va_P D vwCl [(a, e)] H := by
  intro k q hq
  have hz : k < 1 := (List.getElem?_eq_some_iff.mp hq).1
  rw [show k = 0 by omega] at hq
  cases hq
  exact h
theorem ix_in {a : Int} {j n : Nat} (ha : a = (j : Int)) (hj : j < n) (hn : n < 2147483648) : vp_in (iI a) n := by rw [ha, iI_nat]; exact vp_in_nI hj (by omega)
theorem ix_cl {a : Int} {j n : Nat} (ha : a = (j : Int)) (hj : j < n) (hn : n < 2147483648) : (iI a).toNatClampNeg = j := by rw [ha, iI_nat]; exact nI_clamp (by omega)
theorem v_iald (hX : okX X cc nL own ret) {k i n : Nat} {f : Nat → Int32} {a : Int} {r : Int32} (j : Nat) (hl : w.2 k i) (hc : ∀ g, cont g w.1 σ k i = .inl (g 1, n, .inl f)) (ha : a = (j : Int)) (hj : j < n) (hn : n < 2147483648) (hr : f j = r) (hdg : At cc pc .iaload 1 nx) (kk : V X z w nx lv σ (.int r :: st)) : V X z w pc lv σ (.int (iI a) :: .ref (w.1 k i) :: st) := by
  obtain ⟨d, rfl⟩ := hdg
  intro H locs ls hW hls
  have h := hW.2.1 k i hl
  rw [hc] at h
  refine va_iald hX.1 hX.2.1 hW.1.1 (one_P h) 0 1 rfl rfl (ix_in ha hj hn) d ?_
  rw [ix_cl ha hj hn, hr]
  exact kk H locs ls hW hls
theorem v_bald (hX : okX X cc nL own ret) {k i n : Nat} {f : Nat → Int32} {a : Int} {r : Int32} (j : Nat) (hl : w.2 k i) (hc : ∀ g, cont g w.1 σ k i = .inl (g 0, n, .inl f)) (ha : a = (j : Int)) (hj : j < n) (hn : n < 2147483648) (hr : f j = r) (hdg : At cc pc .baload 1 nx) (kk : V X z w nx lv σ (.int r :: st)) : V X z w pc lv σ (.int (iI a) :: .ref (w.1 k i) :: st) := by
  obtain ⟨d, rfl⟩ := hdg
  intro H locs ls hW hls
  have h := hW.2.1 k i hl
  rw [hc] at h
  refine va_bald hX.1 hX.2.1 hW.1.1 (one_P h) 0 0 rfl rfl (ix_in ha hj hn) d ?_
  rw [ix_cl ha hj hn, hr]
  exact kk H locs ls hW hls
theorem v_lald (hX : okX X cc nL own ret) {k i n : Nat} {f : Nat → Int64} {a : Int} {r : Int64} (j : Nat) (hl : w.2 k i) (hc : ∀ g, cont g w.1 σ k i = .inl (g 2, n, .inr (.inl f))) (ha : a = (j : Int)) (hj : j < n) (hn : n < 2147483648) (hr : f j = r) (hdg : At cc pc .laload 1 nx) (kk : V X z w nx lv σ (.long r :: st)) : V X z w pc lv σ (.int (iI a) :: .ref (w.1 k i) :: st) := by
  obtain ⟨d, rfl⟩ := hdg
  intro H locs ls hW hls
  have h := hW.2.1 k i hl
  rw [hc] at h
  refine va_lald hX.1 hX.2.1 hW.1.1 (one_P h) 0 2 rfl rfl (ix_in ha hj hn) d ?_
  rw [ix_cl ha hj hn, hr]
  exact kk H locs ls hW hls
theorem v_alen (hX : okX X cc nL own ret) {k i n t : Nat} {f : (Nat → Int32) ⊕ (Nat → Int64) ⊕ (Nat → UInt32) ⊕ (Nat → UInt64) ⊕ (Nat → Option Nat)} {ty : FieldType} (hl : w.2 k i) (hc : ∀ g, cont g w.1 σ k i = .inl (g t, n, f)) (ht : ∀ g, (tysL g)[t]? = some (g t, ty)) (hdg : At cc pc .arraylength 1 nx) (kk : V X z w nx lv σ (.int (iI (n : Int)) :: st)) : V X z w pc lv σ (.ref (w.1 k i) :: st) := by
  obtain ⟨d, rfl⟩ := hdg
  intro H locs ls hW hls
  have h := hW.2.1 k i hl
  rw [hc] at h
  exact va_alen hX.1 hX.2.1 hW.1.1 (one_P h) 0 t rfl (ht _) (iI_nat n).symm d (kk H locs ls hW hls)
/-- a store into an array of ints, of component c -/
theorem v_iast (hX : okX X cc nL own ret) {c i n : Nat} {a v : Int} (j : Nat) (hl : w.2 (oc c) i) (hoc : oc c < 30) (hc : ∀ (σ : St) g, cont g w.1 σ (oc c) i = .inl (g 1, n, .inl (fun j => iI (σ c i j)))) (ha : a = (j : Int)) (hj : j < n) (hn : n < 2147483648) (hdg : At cc pc .iastore 1 nx) (kk : V X z w nx lv (su σ c i j v) st) : V X z w pc lv σ (.int (iI v) :: .int (iI a) :: .ref (w.1 (oc c) i) :: st) := by
  obtain ⟨d, rfl⟩ := hdg
  intro H locs ls hW hls
  have h := hW.2.1 (oc c) i hl
  rw [hc] at h
  refine W.iast hX.1 hX.2.1 h ((hW.1.1.2 1 _ rfl).1 n (fun j => .int (iI (σ c i j)))) (fun q => by cases q) (by show ¬ (iI a < 0 ∨ (arrV _ _ _).slots.size ≤ _); rw [arrV_size]; exact ix_in ha hj hn) rfl rfl d fun H1 e zz oq => ?_
  refine kk H1 _ ls (hW.su hoc hl ?_ zz oq) hls
  rw [hc]
  show H1[_]? = some (vp_cell _ _)
  rw [e]
  rw [vp_cell_i, vp_cell_i, arrV_store, ix_cl ha hj hn]
  congr 2
  funext q
  by_cases hq : q = j
  · subst hq
    simp [updV, su_s]
  · simp [updV, hq, su_j hq]
theorem v_last (hX : okX X cc nL own ret) {c i n : Nat} {a v : Int} (j : Nat) (hl : w.2 (oc c) i) (hoc : oc c < 30) (hc : ∀ (σ : St) g, cont g w.1 σ (oc c) i = .inl (g 2, n, .inr (.inl (fun j => jI (σ c i j))))) (ha : a = (j : Int)) (hj : j < n) (hn : n < 2147483648) (hdg : At cc pc .lastore 1 nx) (kk : V X z w nx lv (su σ c i j v) st) : V X z w pc lv σ (.long (jI v) :: .int (iI a) :: .ref (w.1 (oc c) i) :: st) := by
  obtain ⟨d, rfl⟩ := hdg
  intro H locs ls hW hls
  have h := hW.2.1 (oc c) i hl
  rw [hc] at h
  refine W.last hX.1 hX.2.1 h ((hW.1.1.2 2 _ rfl).1 n (fun j => .long (jI (σ c i j)))) (fun q => by cases q) (by show ¬ (iI a < 0 ∨ (arrV _ _ _).slots.size ≤ _); rw [arrV_size]; exact ix_in ha hj hn) rfl rfl d fun H1 e zz oq => ?_
  refine kk H1 _ ls (hW.su hoc hl ?_ zz oq) hls
  rw [hc]
  show H1[_]? = some (vp_cell _ _)
  rw [e]
  rw [vp_cell_l, vp_cell_l, arrV_store, ix_cl ha hj hn]
  congr 2
  funext q
  by_cases hq : q = j
  · subst hq
    simp [updV, su_s]
  · simp [updV, hq, su_j hq]
theorem v_bast (hX : okX X cc nL own ret) {c i n : Nat} {a v : Int} (j : Nat) (hl : w.2 (oc c) i) (hoc : oc c < 30) (hc : ∀ (σ : St) g, cont g w.1 σ (oc c) i = .inl (g 0, n, .inl (fun j => bI (σ c i j)))) (ha : a = (j : Int)) (hj : j < n) (hn : n < 2147483648) (hdg : At cc pc .bastore 1 nx) (kk : V X z w nx lv (su σ c i j v) st) : V X z w pc lv σ (.int (bI v) :: .int (iI a) :: .ref (w.1 (oc c) i) :: st) := by
  obtain ⟨d, rfl⟩ := hdg
  intro H locs ls hW hls
  have h := hW.2.1 (oc c) i hl
  rw [hc] at h
  refine W.bast hX.1 hX.2.1 h ((hW.1.1.2 0 _ rfl).1 n (fun j => .int (bI (σ c i j)))) (fun q => by cases q) (by show ¬ (iI a < 0 ∨ (arrV _ _ _).slots.size ≤ _); rw [arrV_size]; exact ix_in ha hj hn) rfl rfl d fun H1 e zz oq => ?_
  refine kk H1 _ ls (hW.su hoc hl ?_ zz oq) hls
  rw [hc]
  show H1[_]? = some (vp_cell _ _)
  rw [e]
  rw [vp_cell_i, vp_cell_i, arrV_store, ix_cl ha hj hn]
  congr 2
  funext q
  by_cases hq : q = j
  · subst hq
    simp only [updV, if_true, su_s]
    exact congrArg Value.int (bI_nar v)
  · simp [updV, hq, su_j hq]
/-- an array of references -/
theorem v_aald (hX : okX X cc nL own ret) {k i n t x : Nat} {f : Nat → Option Nat} {a : Int} {C : String} (j : Nat) (hl : w.2 k i) (hc : ∀ g, cont g w.1 σ k i = .inl (g t, n, rfs f)) (ht : ∀ g, (tysL g)[t]? = some (g t, .object C)) (ha : a = (j : Int)) (hj : j < n) (hn : n < 2147483648) (hr : f j = some x) (hdg : At cc pc .aaload 1 nx) (kk : V X z w nx lv σ (.ref x :: st)) : V X z w pc lv σ (.int (iI a) :: .ref (w.1 k i) :: st) := by
  obtain ⟨d, rfl⟩ := hdg
  intro H locs ls hW hls
  have h := hW.2.1 k i hl
  rw [hc] at h
  refine va_aldq hX.1 hX.2.1 hW.1.1 (one_P h) 0 t (f := f) rfl (ht _) (ix_in ha hj hn) d ?_
  rw [ix_cl ha hj hn, hr]
  exact kk H locs ls hW hls
theorem v_aaldN (hX : okX X cc nL own ret) {k i n t : Nat} {f : Nat → Option Nat} {a : Int} {C : String} (j : Nat) (hl : w.2 k i) (hc : ∀ g, cont g w.1 σ k i = .inl (g t, n, rfs f)) (ht : ∀ g, (tysL g)[t]? = some (g t, .object C)) (ha : a = (j : Int)) (hj : j < n) (hn : n < 2147483648) (hr : f j = none) (hdg : At cc pc .aaload 1 nx) (kk : V X z w nx lv σ (.null :: st)) : V X z w pc lv σ (.int (iI a) :: .ref (w.1 k i) :: st) := by
  obtain ⟨d, rfl⟩ := hdg
  intro H locs ls hW hls
  have h := hW.2.1 k i hl
  rw [hc] at h
  refine va_aldq hX.1 hX.2.1 hW.1.1 (one_P h) 0 t (f := f) rfl (ht _) (ix_in ha hj hn) d ?_
  rw [ix_cl ha hj hn, hr]
  exact kk H locs ls hW hls
/-- the class's own tables -/
theorem v_gets (hX : okX X cc nL own ret) {idx : Nat} {ref : String} (j : Nat) (hj : j < 6) (hlink : Cond.fieldLink own idx ref (sN j) "[I" ∈ BW) (href : ref = sC j) (hdg : At cc pc (.getstatic idx) 3 nx) (kk : ∀ t : Nat, va_T .int t (sT j).length (fun i => .int (iI ((sT j).getD i 0))) (xA X) (xs X) (xs X).heap → V X z w nx lv σ (.ref t :: st)) : V X z w pc lv σ st := by
  obtain ⟨d, rfl⟩ := hdg
  intro H locs ls hW hls
  obtain ⟨t, h1, h2⟩ := hW.2.2.2.2.2.2.1 j hj
  exact va_gets hX.1 hX.2.1 h1 hW.2.2.2.2.1 hX.2.2.2.2.1 (hX.2.2.2.2.2.2 _ hlink) (by rw [href]; exact fun _ h => h) d (kk t h2 H locs ls hW hls)
theorem v_sald (hX : okX X cc nL own ret) {t n : Nat} {f : Nat → Value} {a : Int} {r : Value} (j : Nat) (hT : va_T .int t n f (xA X) (xs X) (xs X).heap) (ha : a = (j : Int)) (hj : j < n) (hn : n < 2147483648) (hr : f j = r) (hdg : At cc pc .iaload 1 nx) (kk : V X z w nx lv σ (r :: st)) : V X z w pc lv σ (.int (iI a) :: .ref t :: st) := by
  obtain ⟨d, rfl⟩ := hdg
  intro H locs ls hW hls
  exact va_ti hX.1 hX.2.1 hT hW.2.2.2.2.1 (ix_in ha hj hn) (by rw [ix_cl ha hj hn]; exact hr) d (kk H locs ls hW hls)
theorem v_slen (hX : okX X cc nL own ret) {t n : Nat} {f : Nat → Value} (hT : va_T .int t n f (xA X) (xs X) (xs X).heap) (hdg : At cc pc .arraylength 1 nx) (kk : V X z w nx lv σ (.int (iI (n : Int)) :: st)) : V X z w pc lv σ (.ref t :: st) := by
  obtain ⟨d, rfl⟩ := hdg
  intro H locs ls hW hls
  exact va_tlen hX.1 hX.2.1 hT hW.2.2.2.2.1 (iI_nat n).symm d (kk H locs ls hW hls)
end JC
