/-! contracts of methods that may throw: the store is then as it was -/
def QX {α : Type} (D : va_G) (g : Nat → ClassId) (w : Wl) (sz : Nat) (wr : α → Option Value) (post : α → St → Prop) : Array Value → State → Outcome → State → Prop :=
  fun _ st oc t => (∃ (a : α) (σ' : St), oc = .returned (wr a) ∧ post a σ' ∧ WE D g w σ' t) ∧ va_F (AF w sz) st t
def XX (D : va_G) (g : Nat → ClassId) (w : Wl) (sz : Nat) (σ : St) (postX : String → Prop) : String → State → State → Prop :=
  fun E st t => (postX E ∧ WP D g w σ t.heap ∧ WI w σ) ∧ va_F (AF w sz) st t
def Cx {α : Type} (l : Launch) (y : MethodName) (cc : ByteArray) (nL : Nat) (ret : Option FieldType) (fr lo mc ms : Nat) (wr : α → Option Value) (args : List Value) (w : Wl) (σ : St) (post : α → St → Prop) (postX : String → Prop) : Prop :=
  ∀ (D : va_G) (g : Nat → ClassId) (sz : Nat), vx_Met l y (.code y cc nL ret :: BW) { frames := fr, cells := mc, slots := ms, locals := lo } (va_Pc args (PW D g w σ sz)) (QX D g w sz wr post) (XX D g w sz σ postX) mc ms (AF w sz)
/-- a throw of E in the store σ, which nothing catches here, meets the goal -/
def XO (X : CX) (z : Nat × Nat) (w : Wl) (E : String) (σ : St) : Prop :=
  ∃ (Qc : Array Value → State → Outcome → State → Prop) (XC : String → State → State → Prop) (mc ms : Nat) (free : Addr → Prop), xQ X = vx_MQ (xb X) Qc XC (xa X) (xs X) mc ms free ∧ z.1 ≤ mc ∧ z.2 ≤ ms ∧ (∀ x ∈ (xc X).exceptionTable.toList, False) ∧
    ∀ H locs, XD X w σ H locs → (∀ q ∈ locs, free q.base) ∧ ∀ t : State, t.heap = H → XC E (xs X) t
theorem WD.grown {D : va_G} {g : Nat → ClassId} {w : Wl} {σ : St} {A : Nat → Prop} {s : State} {H H1 : Heap} {locs : List Loc} (h : WD D g w σ A s H locs) (hz : H.size ≤ H1.size) (hk : ∀ q : Nat, q < H.size → H1[q]? = H[q]?) : WD D g w σ A s H1 locs := by
  obtain ⟨h1, h2, h3, h4, h5, h6⟩ := h
  refine ⟨h1, fun k i hl => (h2 k i hl).kept (hk _ ?_), h3, h4, ⟨Nat.le_trans h5.1 hz, fun q a b => by rw [hk q (Nat.lt_of_lt_of_le a h5.1)]; exact h5.2.1 q a b, h5.2.2⟩, h6⟩
  exact (h2 k i hl).lt
theorem at_of {own : String} {ic : Nat} {cls : String} {names : List String} (hg : ∀ w ∈ vx_atS own ic cls names, vx_ot w = true) (h1 : ∀ w ∈ (vx_atS own ic cls names).filter goodWord, w ∈ lw_tbl) (h2 : ∀ w ∈ (vx_atS own ic cls names).filter (fun w => !goodWord w), w ∈ NWL) {args : Array Value} {s : State} (hB : ∀ w ∈ BW, w.before args s = true) (hN : ∀ w ∈ NWL, va_Nw w s) : ∀ w ∈ vx_atS own ic cls names, w.before args s = true := by
  intro w hw
  by_cases c : goodWord w = true
  · exact hB w (List.mem_filter.mpr ⟨h1 w (List.mem_filter.mpr ⟨hw, c⟩), c⟩)
  · exact vx_ot_at (args := #[]) (State.WarmedH.refl s) rfl (hg w hw) (hN w (h2 w (List.mem_filter.mpr ⟨hw, by simp [c]⟩)))
abbrev eI : String := "java/lang/IndexOutOfBoundsException"
abbrev eA : String := "java/lang/IllegalArgumentException"
abbrev eN : List String := ["java/lang/RuntimeException", "java/lang/Exception"]
theorem xg_I : ∀ w ∈ vx_atS RX6 281 eI eN, vx_ot w = true := by decide +kernel
theorem xg_A : ∀ w ∈ vx_atS RX6 100 eA eN, vx_ot w = true := by decide +kernel
theorem xl_I : ∀ w ∈ (vx_atS RX6 281 eI eN).filter goodWord, w ∈ lw_tbl := by decide +kernel
theorem xl_A : ∀ w ∈ (vx_atS RX6 100 eA eN).filter goodWord, w ∈ lw_tbl := by decide +kernel
theorem xn_I : ∀ w ∈ (vx_atS RX6 281 eI eN).filter (fun w => !goodWord w), w ∈ NWL := by decide +kernel
theorem xn_A : ∀ w ∈ (vx_atS RX6 100 eA eN).filter (fun w => !goodWord w), w ∈ NWL := by decide +kernel
theorem xi_I : Cond.initialized eI ∈ BW := List.mem_filter.mpr ⟨by decide +kernel, by decide +kernel⟩
theorem xi_A : Cond.initialized eA ∈ BW := List.mem_filter.mpr ⟨by decide +kernel, by decide +kernel⟩
theorem WD.after {D : va_G} {g : Nat → ClassId} {w : Wl} {σ σ' : St} {A : Nat → Prop} {s : State} {H : Heap} {locs L : List Loc} {st₀ t T' : State} (hW : WD D g w σ A s H locs) (h0 : st₀.heap = H) (e1 : T'.heap = t.heap) (hF : va_F (AF w H.size) st₀ t) (hL : ∀ q ∈ L, AF w H.size q.base) (h1 : WP D g w σ' t.heap) (h2 : WI w σ') : WD D g w σ' A s T'.heap (locs ++ L) := by
  obtain ⟨hz, hk⟩ := hF
  rw [h0] at hz hk
  have hS := hW.2.2.2.2.1
  have hA := hW.af
  exact ⟨hW.1, by rw [e1]; exact h1, h2, hW.2.2.2.1,
    ⟨Nat.le_trans hS.1 (by rw [e1]; exact hz), fun q h1 h2 => by rw [e1, hk q (Nat.lt_of_lt_of_le h1 hS.1) (fun y => h2 (hA q y))]; exact hS.2.1 q h1 h2, fun q hq => by
      rcases List.mem_append.mp hq with h | h
      · exact hS.2.2 q h
      · exact hA _ (hL q h)⟩, hW.2.2.2.2.2⟩
theorem Cx.of {α : Type} {l : Launch} {y : MethodName} {cc : ByteArray} {nL : Nat} {ret : Option FieldType} {fr lo mc ms : Nat} {wr : α → Option Value} {args : List Value} {w : Wl} {σ : St} {post : α → St → Prop} {postX : String → Prop} {own : String} {lv : List (Nat × Value)}
    (hy : plainName y.cls = true) (hown : y.cls = own) (hlen : (lg_sl args).length ≤ nL) (hlv : lv_args 0 args = lv)
    (h : ∀ X : CX, okX X cc nL own ret → xl X = l → xR X = { frames := fr, cells := mc, slots := ms, locals := lo } → (∀ k i, w.2 k i → ∀ q ∈ mn σ k i, w.2 q.1 q.2) → (∀ a σ', post a σ' → ∀ z : Nat × Nat, z.1 ≤ mc → z.2 ≤ ms → RT X z w (wr a) σ') → (∀ E, postX E → ∀ z : Nat × Nat, z.1 ≤ mc → z.2 ≤ ms → XO X z w E σ) → V X (0, 0) w 0 lv σ []) : Cx l y cc nL ret fr lo mc ms wr args w σ post postX := by
  intro D g sz
  refine vx_ofW (cc := cc) (maxL := nL) (ret := ret) hy rfl ?_
  intro p e s m args' below meth c s₁ B hml htab hv
  obtain ⟨rfl, hsz, hE, hSR⟩ := hv
  have hts := atoms_spec (ws := .code y cc nL ret :: BW) B.pre
  have hfc : s.vm.findClass own = some m.cls := by rw [← hown]; exact findClass_of_methodNamed B.named
  have K := h (p, l, e, { frames := fr, cells := mc, slots := ms, locals := lo }, s, m, args.toArray, below, meth, c, vx_MQ below (QX D g w sz wr post) (XX D g w sz σ postX) args.toArray s mc ms (AF w sz), AF w sz, D, g)
    ⟨B.exec, B.bytes, hml, B.returns, hfc, B.notSynchronized, fun x hx => hts x (List.mem_cons_of_mem _ hx)⟩ rfl rfl hE.2.2.2 ?_ ?_
  · rw [lg_entry_eq]
    have hl := lv_entry args (n := nL) hlen
    rw [hlv] at hl
    refine K s.heap [] _ ⟨hE.1, hE.2.1, hE.2.2, fun k i hk => Or.inl ⟨k, i, hk, rfl⟩, va_S.rf, fun q hq => Or.inr (by rw [← hsz]; exact hq), hSR⟩ ?_
    show lv_has _ c.maxLocals lv
    rw [hml]
    exact hl
  · intro a σ' hp z hz1 hz2
    refine ⟨QX D g w sz wr post, AF w sz, fun H locs g k => ?_, fun H locs hW => ⟨fun t ht hWt => ⟨⟨a, σ', rfl, hp, hW.1.warm hWt, ?_, hW.2.2.1⟩, hW.2.2.2.2.1.F ht⟩, hW.2.2.2.2.1.2.2⟩⟩
    · refine vx_ret ?_
      intro T hT X0
      obtain ⟨t, a1, o, b1, b2, b3, L, b4, b5⟩ := k T hT X0
      exact ⟨t, a1, o, b1, b2, b3, L, ⟨b4.1, b4.2.1, b4.2.2.mono hz1 hz2⟩, b5⟩
    · rw [ht]
      exact hW.2.1
  · intro E hp z hz1 hz2
    refine ⟨QX D g w sz wr post, XX D g w sz σ postX, mc, ms, AF w sz, rfl, hz1, hz2, htab, fun H locs hW => ⟨hW.2.2.2.2.1.2.2, fun t ht => ⟨⟨hp, ?_, hW.2.2.1⟩, hW.2.2.2.2.1.F ht⟩⟩⟩
    rw [ht]
    exact hW.2.1
section JX
variable {X : CX} {z : Nat × Nat} {w : Wl} {pc nx : Nat} {lv lv' : List (Nat × Value)} {σ : St} {st rest : List Value} {cc : ByteArray} {nL : Nat} {own : String} {ret : Option FieldType}
theorem v_runX {α : Type} {wr : α → Option Value} {post : α → St → Prop} {postX : String → Prop} {mc ms : Nat} {st0 : List Value} (hX : okX X cc nL own ret) (hn : nx = pc + 3)
    (hr : ∀ H locs ls, XD X w σ H locs → ls.size = (xc X).maxLocals → vx_Run (xp X) (xl X) (xe X) (xR X) (xs X) (xm X) (xa X) (xb X) (xM X) (xc X) H locs z.1 z.2 mc ms (F0 (xm X) pc ls st0) rest (fun st oc t => QX (xD X) (xg X) w H.size wr post #[] st oc t) (XX (xD X) (xg X) w H.size σ postX) (AF w H.size))
    (kx : ∀ E, postX E → XO X (z.1 + mc, z.2 + ms) w E σ)
    (kk : ∀ a σ', post a σ' → V X (z.1 + mc, z.2 + ms) w nx lv σ' ((wr a).toList ++ rest)) : V X z w pc lv σ st0 := by
  subst hn
  intro H locs ls hW hl T hT X0
  rcases hr H locs ls hW hl.1 T hT X0 with ⟨v, st₀, t, T', L, h0, X', hL, e1, e2, ⟨⟨a, σ', hv, hp, hE⟩, hF⟩, stp⟩ | ⟨q, st₀, t, T', L, E, ce, h0, X', hL, e1, e2, ⟨⟨hp, hE1, hE2⟩, hF⟩, hce, hcv, hcl, stp⟩
  · cases hv
    obtain ⟨t2, a1, b1⟩ := kk a σ' hp T'.heap (locs ++ L) ls (hW.after h0 e1 hF hL hE.2.1 hE.2.2) hl T' rfl X'
    exact ⟨t2, stp t2 a1, b1⟩
  · obtain ⟨Qc, XC, mc', ms', free, hQ, hz1, hz2, htab, hx⟩ := kx E hp
    obtain ⟨x1, x2⟩ := hx T'.heap (locs ++ L) (hW.after h0 e1 hF hL hE1 hE2)
    obtain ⟨t2, a1, b1⟩ := vx_out (Qc := Qc) (XC := XC) (free := free) (mc := mc') (ms := ms') (pc := pc) (ls := ls) (rest := rest) (p := xp X) (l := xl X) (e := xe X) (R := xR X) (args := xa X) (below := xb X) (meth := xM X) (fun x hx => absurd hx (htab x)) hX.2.2.2.2.2.1 (by rw [e1]; exact hce) hcv hcl (fun t' ht' _ => x2 t' ht') x1 hz1 hz2 T' rfl X'
    refine ⟨t2, stp.trans a1, ?_⟩
    rw [hQ]
    exact b1
theorem v_callVX {α : Type} (hX : okX X cc nL own ret) {y : MethodName} {b : ByteArray} {n' idx k i ci kn fr lo mc ms : Nat} {r : Option FieldType} {wr : α → Option Value} {As : List Value} {post : α → St → Prop} {postX : String → Prop} {q : vw_C} {fs : List Value}
    (hM : Cx (xl X) y b n' r fr lo mc ms wr (.ref (w.1 k i) :: As) w σ post postX) (hL : LkV own idx y b n' r kn) (hl : w.2 k i) (hc : ∀ g, cont g w.1 σ k i = .inr (ci, fs)) (hq : vwCl[ci]? = some q) (hqy : q.1 = y.cls) (hkn : As.length = kn) (hR : fr + 1 ≤ (xR X).frames ∧ 8 + (n' + 11) + lo ≤ (xR X).locals) (hz : z.1 + mc ≤ (xR X).cells ∧ z.2 + ms ≤ (xR X).slots) (hst : st = As.reverse ++ .ref (w.1 k i) :: rest) (hcat : (rest.map fun v => v.category).sum ≤ 8) (hdg : At cc pc (.invokevirtual idx) 3 nx)
    (kx : ∀ E, postX E → XO X (z.1 + mc, z.2 + ms) w E σ)
    (kk : ∀ a σ', post a σ' → V X (z.1 + mc, z.2 + ms) w nx lv σ' ((wr a).toList ++ rest)) : V X z w pc lv σ st := by
  refine v_runX hX hdg.2 (fun H locs ls hW hls => ?_) kx kk
  exact vx_runV (As := As) (rest := rest) ⟨hX.1, hX.2.1, rfl, hX.2.2.2.2.1, hX.2.2.2.2.2.2⟩ (hM (xD X) (xg X) H.size) (cwV kn hX.2.2.2.2.2.2 hL.1 rfl rfl rfl ⟨rfl, hL.2⟩ hR) ⟨PW.blind, by rw [← hqy]; exact rcv hW hl (hc _) hq, fun U hU hWU => ⟨rfl, hW.pw hU hWU⟩⟩ rfl hkn hls hst (by show 2 * 0 + _ ≤ 8; omega) hdg.1 hz
theorem v_throwSW (hX : okX X cc nL RX6 ret) (hl : (xl X).stackTraces = false) {cls text : String} {ik is ic n1 n2 n3 n4 n5 : Nat} (hk : Cond.classLink RX6 ik cls ∈ BW) (hini : Cond.initialized cls ∈ BW) (hstr : (is, text) ∈ strL) (hg : ∀ w ∈ vx_atS RX6 ic cls eN, vx_ot w = true) (h1 : ∀ w ∈ (vx_atS RX6 ic cls eN).filter goodWord, w ∈ lw_tbl) (h2 : ∀ w ∈ (vx_atS RX6 ic cls eN).filter (fun w => !goodWord w), w ∈ NWL) (hcls : Bundle.fit cls = true)
    (d0 : At cc pc (.new ik) 3 n1) (d3 : At cc n1 .dup 1 n2) (d4 : At cc n2 (.ldc_w is) 3 n3) (d7 : At cc n3 (.invokespecial ic) 3 n4) (d10 : At cc n4 .athrow 1 n5) (hR : 5 < (xR X).frames ∧ (st.map fun v => v.category).sum + 82 ≤ (xR X).locals) (hz : z.1 + 1 ≤ (xR X).cells ∧ z.2 + 6 ≤ (xR X).slots)
    (ko : XO X (z.1 + 1, z.2 + 6) w cls σ) : V X z w pc lv σ st := by
  obtain ⟨d0, rfl⟩ := d0
  obtain ⟨d3, rfl⟩ := d3
  obtain ⟨d4, rfl⟩ := d4
  obtain ⟨d7, rfl⟩ := d7
  obtain ⟨d10, -⟩ := d10
  intro H locs ls hW hls
  obtain ⟨Qc, XC, mc, ms, free, hQ, hz1, hz2, htab, hx⟩ := ko
  have hts := hX.2.2.2.2.2.2
  obtain ⟨sa, hsa⟩ := hW.1.2.2 _ hstr
  have hot : ∀ x ∈ BW, vx_ot x = true := fun x hx => by unfold vx_ot; rw [(List.mem_filter.mp hx).2]; simp
  unfold XW
  rw [hQ]
  refine vx_throwSW (A := xA X) (names := eN) (rest := st) hX.1 hX.2.1 hl hX.2.2.2.2.1 hcls (by decide +kernel) (hts _ hk) (hts _ hini) hsa (at_of hg h1 h2 hts hW.1.2.1) ?_ hW.2.2.2.2.2.2.2.1 hW.2.2.2.2.2.2.2.2 hW.2.2.2.2.1 hls.1 d0 d3 d4 d7 d10 (fun x hx => absurd hx (htab x)) hR.1 (by show _ + (13 * (2 + 1) + 43) ≤ _; exact hR.2) hz.1 hz.2 hX.2.2.2.2.2.1 ?_ ?_ hz1 hz2
  · intro x hx
    rcases List.mem_cons.mp hx with rfl | hx
    · exact hot _ hk
    · rcases List.mem_cons.mp hx with rfl | hx
      · exact hot _ hini
      · exact hg x hx
  · intro t _ hz' hk'
    exact (hx t.heap locs (hW.grown hz' hk')).2 t rfl
  · exact (hx H locs hW).1
theorem v_throwS (hX : okX X cc nL RX6 ret) (hl : (xl X).stackTraces = false) {cls text : String} {ik is ic n1 n2 n3 n4 n5 : Nat} (hk : Cond.classLink RX6 ik cls ∈ BW) (hini : Cond.initialized cls ∈ BW) (hstr : (is, text) ∈ strL) (hg : ∀ w ∈ vx_atS RX6 ic cls eN, vx_ot w = true) (h1 : ∀ w ∈ (vx_atS RX6 ic cls eN).filter goodWord, w ∈ lw_tbl) (h2 : ∀ w ∈ (vx_atS RX6 ic cls eN).filter (fun w => !goodWord w), w ∈ NWL) (hcls : Bundle.fit cls = true)
    (d0 : At cc pc (.new ik) 3 n1) (d3 : At cc n1 .dup 1 n2) (d4 : At cc n2 (.ldc is) 2 n3) (d7 : At cc n3 (.invokespecial ic) 3 n4) (d10 : At cc n4 .athrow 1 n5) (hR : 5 < (xR X).frames ∧ (st.map fun v => v.category).sum + 82 ≤ (xR X).locals) (hz : z.1 + 1 ≤ (xR X).cells ∧ z.2 + 6 ≤ (xR X).slots)
    (ko : XO X (z.1 + 1, z.2 + 6) w cls σ) : V X z w pc lv σ st := by
  obtain ⟨d0, rfl⟩ := d0
  obtain ⟨d3, rfl⟩ := d3
  obtain ⟨d4, rfl⟩ := d4
  obtain ⟨d7, rfl⟩ := d7
  obtain ⟨d10, -⟩ := d10
  intro H locs ls hW hls
  obtain ⟨Qc, XC, mc, ms, free, hQ, hz1, hz2, htab, hx⟩ := ko
  have hts := hX.2.2.2.2.2.2
  obtain ⟨sa, hsa⟩ := hW.1.2.2 _ hstr
  have hot : ∀ x ∈ BW, vx_ot x = true := fun x hx => by unfold vx_ot; rw [(List.mem_filter.mp hx).2]; simp
  unfold XW
  rw [hQ]
  refine vx_throwS (A := xA X) (names := eN) (rest := st) hX.1 hX.2.1 hl hX.2.2.2.2.1 hcls (by decide +kernel) (hts _ hk) (hts _ hini) hsa (at_of hg h1 h2 hts hW.1.2.1) ?_ hW.2.2.2.2.2.2.2.1 hW.2.2.2.2.2.2.2.2 hW.2.2.2.2.1 hls.1 d0 d3 d4 d7 d10 (fun x hx => absurd hx (htab x)) hR.1 (by show _ + (13 * (2 + 1) + 43) ≤ _; exact hR.2) hz.1 hz.2 hX.2.2.2.2.2.1 ?_ ?_ hz1 hz2
  · intro x hx
    rcases List.mem_cons.mp hx with rfl | hx
    · exact hot _ hk
    · rcases List.mem_cons.mp hx with rfl | hx
      · exact hot _ hini
      · exact hg x hx
  · intro t _ hz' hk'
    exact (hx t.heap locs (hW.grown hz' hk')).2 t rfl
  · exact (hx H locs hW).1
end JX
