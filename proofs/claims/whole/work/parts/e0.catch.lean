/-! the law's helpers: they catch what the house throws -/
def PWh (D : va_G) (g : Nat → ClassId) (w : Wl) (σ : St) (sz : Nat) : State → Prop := fun U => PW D g w σ sz U ∧ va_Nc eA eI U
theorem PWh.blind {D : va_G} {g : Nat → ClassId} {w : Wl} {σ : St} {sz : Nat} {args : List Value} : FrameBlind (va_Pc args (PWh D g w σ sz)) := by
  intro a U f mk h
  obtain ⟨h0, h1, h2⟩ := h
  exact ⟨h0, (PW.blind (args := args) a U f mk ⟨h0, h1⟩).2, va_Nc.moved (Vm.Alike.refl U.vm) h2⟩
def Ch {α : Type} (l : Launch) (y : MethodName) (cc : ByteArray) (nL : Nat) (ret : Option FieldType) (hh : List (Nat × Nat × Nat × Nat)) (fr lo mc ms : Nat) (wr : α → Option Value) (args : List Value) (w : Wl) (σ : St) (post : α → Wl → St → Prop) : Prop :=
  ∀ (D : va_G) (g : Nat → ClassId) (sz : Nat), vx_Met l y (.codeWith y cc nL ret hh :: BW) { frames := fr, cells := mc, slots := ms, locals := lo } (va_Pc args (PWh D g w σ sz)) (QG D g w sz wr post) (fun _ _ _ => False) mc ms (AF w sz)
theorem Ch.of {α : Type} {l : Launch} {y : MethodName} {cc : ByteArray} {nL : Nat} {ret : Option FieldType} {hh : List (Nat × Nat × Nat × Nat)} {fr lo mc ms : Nat} {wr : α → Option Value} {args : List Value} {w : Wl} {σ : St} {post : α → Wl → St → Prop} {own : String} {lv : List (Nat × Value)}
    (hy : plainName y.cls = true) (hown : y.cls = own) (hlen : (lg_sl args).length ≤ nL) (hlv : lv_args 0 args = lv)
    (h : ∀ X : CX, okX X cc nL own ret → xl X = l → xR X = { frames := fr, cells := mc, slots := ms, locals := lo } → (xc X).exceptionTable.toList = tableOf hh → va_Nc eA eI (xs X) → (∀ k i, w.2 k i → ∀ q ∈ mn σ k i, w.2 q.1 q.2) → (∀ a w' σ', post a w' σ' → ∀ z : Nat × Nat, z.1 ≤ mc → z.2 ≤ ms → RT X z w' (wr a) σ') → V X (0, 0) w 0 lv σ []) : Ch l y cc nL ret hh fr lo mc ms wr args w σ post := by
  intro D g sz
  refine vx_ofWH (cc := cc) (maxL := nL) (ret := ret) (hh := hh) hy rfl ?_
  intro p e s m args' below meth c s₁ B hml hv
  obtain ⟨rfl, ⟨hsz, hE, hSR⟩, hN⟩ := hv
  have hts := atoms_spec (ws := .codeWith y cc nL ret hh :: BW) B.pre
  have htab := vx_table (x := y) B (hts _ List.mem_cons_self)
  have hfc : s.vm.findClass own = some m.cls := by rw [← hown]; exact findClass_of_methodNamed B.named
  have K := h (p, l, e, { frames := fr, cells := mc, slots := ms, locals := lo }, s, m, args.toArray, below, meth, c, vx_MQ below (QG D g w sz wr post) (fun _ _ _ => False) args.toArray s mc ms (AF w sz), AF w sz, D, g)
    ⟨B.exec, B.bytes, hml, B.returns, hfc, B.notSynchronized, fun x hx => hts x (List.mem_cons_of_mem _ hx)⟩ rfl rfl htab hN hE.2.2.2 ?_
  · rw [lg_entry_eq]
    have hl := lv_entry args (n := nL) hlen
    rw [hlv] at hl
    refine K s.heap [] _ ⟨hE.1, hE.2.1, hE.2.2, fun k i hk => Or.inl ⟨k, i, hk, rfl⟩, va_S.rf, fun q hq => Or.inr (by rw [← hsz]; exact hq), hSR⟩ ?_
    show lv_has _ c.maxLocals lv
    rw [hml]
    exact hl
  · intro a w' σ' hp z hz1 hz2
    refine ⟨QG D g w sz wr post, AF w sz, fun H locs g k => ?_, fun H locs hW => ⟨fun t ht hWt => ⟨⟨a, w', σ', rfl, hp, ⟨hW.1.warm hWt, ?_, hW.2.2.1⟩, hW.2.2.2.1⟩, hW.2.2.2.2.1.F ht⟩, hW.2.2.2.2.1.2.2⟩⟩
    · refine vx_ret ?_
      intro T hT X0
      obtain ⟨t, a1, o, b1, b2, b3, L, b4, b5⟩ := k T hT X0
      exact ⟨t, a1, o, b1, b2, b3, L, ⟨b4.1, b4.2.1, b4.2.2.mono hz1 hz2⟩, b5⟩
    · rw [ht]
      exact hW.2.1
/-- a throw of E at pc is caught here, at hp -/
def HC (X : CX) (pc : Nat) (own E : String) (hp : Nat) : Prop := ∃ (pre : List ExceptionTableEntry) (x : ExceptionTableEntry) (suf : List ExceptionTableEntry) (name : String), (xc X).exceptionTable.toList = pre ++ x :: suf ∧ (∀ z ∈ pre, covers z pc = false ∨ (z.catchType ≠ 0 ∧ ∃ nm : String, (Cond.classLink own z.catchType nm).before (xa X) (xs X) = true ∧ va_Nc E nm (xs X))) ∧ covers x pc = true ∧ x.catchType ≠ 0 ∧ Cond.classLink own x.catchType name ∈ BW ∧ Cond.castable E name ∈ NWL ∧ x.handlerPc = hp
theorem link_I : Cond.classLink RL 13 eI ∈ BW := List.mem_filter.mpr ⟨by decide +kernel, by decide +kernel⟩
theorem link_A : Cond.classLink RL 15 eA ∈ BW := List.mem_filter.mpr ⟨by decide +kernel, by decide +kernel⟩
theorem cast_I : Cond.castable eI eI ∈ NWL := by decide +kernel
theorem cast_A : Cond.castable eA eA ∈ NWL := by decide +kernel
theorem hc_I {X : CX} {pc a b h : Nat} {r : List (Nat × Nat × Nat × Nat)} (ht : (xc X).exceptionTable.toList = tableOf ((a, b, h, 13) :: r)) (h1 : a ≤ pc) (h2 : pc < b) : HC X pc RL eI h :=
  ⟨[], ⟨a, b, h, 13⟩, tableOf r, eI, ht, (fun z hz => absurd hz List.not_mem_nil), (by show (decide (a ≤ pc) && decide (pc < b)) = true; simp [h1, h2]), (by show (13 : Nat) ≠ 0; decide), link_I, cast_I, rfl⟩
theorem hc_A {X : CX} {cc : ByteArray} {nL : Nat} {own : String} {ret : Option FieldType} (hX : okX X cc nL own ret) {pc a b h a2 b2 h2 : Nat} {r : List (Nat × Nat × Nat × Nat)} (ht : (xc X).exceptionTable.toList = tableOf ((a, b, h, 13) :: (a2, b2, h2, 15) :: r)) (hN : va_Nc eA eI (xs X)) (h1 : a2 ≤ pc) (h3 : pc < b2) : HC X pc RL eA h2 :=
  ⟨[⟨a, b, h, 13⟩], ⟨a2, b2, h2, 15⟩, tableOf r, eA, ht, (fun z hz => by
    rw [List.mem_singleton.mp hz]
    exact Or.inr ⟨(by show (13 : Nat) ≠ 0; decide), eI, hX.2.2.2.2.2.2 _ link_I, hN⟩), (by show (decide (a2 ≤ pc) && decide (pc < b2)) = true; simp [h1, h3]), (by show (15 : Nat) ≠ 0; decide), link_A, cast_A, rfl⟩
section JT
variable {X : CX} {z : Nat × Nat} {w : Wl} {pc nx : Nat} {lv lv' : List (Nat × Value)} {σ : St} {st rest : List Value} {cc : ByteArray} {nL : Nat} {own : String} {ret : Option FieldType}
theorem v_caught (hX : okX X cc nL own ret) {E : String} {hp q : Nat} {ce : Cell} {H : Heap} {locs : List Loc} {ls : Array Slot} (hc : HC X pc own E hp) (hW : XD X w σ H locs) (hl : lv_has ls (xc X).maxLocals lv) (hce : H[q]? = some ce) (hcv : ce.vm = .none) (hcl : (xs X).vm.findClass E = some ce.cls) (kk : V X z w hp lv σ [.ref q]) : vx_W (xp X) (xl X) (xe X) (xR X) (xs X) (xm X) (xa X) (xb X) (xM X) (xc X) H locs z.1 z.2 (xQ X) (F0 (xm X) pc ls rest) q := by
  obtain ⟨pre, x, suf, name, h1, h2, h3, h4, h5, h6, rfl⟩ := hc
  exact vx_catch (own := own) (E := E) hX.2.2.2.2.1 pre x suf h1 h2 h3 h4 (hX.2.2.2.2.2.2 _ h5) (vx_ot_at (args := #[]) (State.WarmedH.refl _) rfl (by unfold vx_ot; simp [Cond.onTables]) (hW.1.2.1 _ h6)) hce hcv hcl (kk H locs ls hW hl)
/-- a call that may throw, and is caught here -/
theorem v_callVTx {α : Type} (hX : okX X cc nL own ret) {y : MethodName} {b : ByteArray} {n' idx k i ci kn fr lo mc ms : Nat} {r : Option FieldType} {wr : α → Option Value} {As : List Value} {post : α → St → Prop} {postX : String → Prop} {q : vw_C} {fs : List Value}
    (hM : Cx (xl X) y b n' r fr lo mc ms wr (.ref (w.1 k i) :: As) w σ post postX) (hL : LkV own idx y b n' r kn) (hl : w.2 k i) (hc : ∀ g, cont g w.1 σ k i = .inr (ci, fs)) (hq : vwCl[ci]? = some q) (hqy : q.1 = y.cls) (hkn : As.length = kn) (hR : fr + 1 ≤ (xR X).frames ∧ 8 + (n' + 11) + lo ≤ (xR X).locals) (hz : z.1 + mc ≤ (xR X).cells ∧ z.2 + ms ≤ (xR X).slots) (hst : st = As.reverse ++ .ref (w.1 k i) :: rest) (hcat : (rest.map fun v => v.category).sum ≤ 8) (hdg : At cc pc (.invokevirtual idx) 3 nx)
    (kx : ∀ E, postX E → ∃ hp, HC X pc own E hp ∧ ∀ q, V X (z.1 + mc, z.2 + ms) w hp lv σ [.ref q])
    (kk : ∀ a σ', post a σ' → V X (z.1 + mc, z.2 + ms) w nx lv σ' ((wr a).toList ++ rest)) : V X z w pc lv σ st := by
  obtain ⟨hd, rfl⟩ := hdg
  intro H locs ls hW hls T hT X0
  have hr : vx_Run (xp X) (xl X) (xe X) (xR X) (xs X) (xm X) (xa X) (xb X) (xM X) (xc X) H locs z.1 z.2 mc ms (F0 (xm X) pc ls st) rest (fun st oc t => QX (xD X) (xg X) w H.size wr post #[] st oc t) (XX (xD X) (xg X) w H.size σ postX) (AF w H.size) :=
    vx_runV (As := As) (rest := rest) ⟨hX.1, hX.2.1, rfl, hX.2.2.2.2.1, hX.2.2.2.2.2.2⟩ (hM (xD X) (xg X) H.size) (cwV kn hX.2.2.2.2.2.2 hL.1 rfl rfl rfl ⟨rfl, hL.2⟩ hR) ⟨PW.blind, by rw [← hqy]; exact rcv hW hl (hc _) hq, fun U hU hWU => ⟨rfl, hW.pw hU hWU⟩⟩ rfl hkn hls.1 hst (by show 2 * 0 + _ ≤ 8; omega) hd hz
  rcases hr T hT X0 with ⟨v, st₀, t, T', L, h0, X', hL, e1, e2, ⟨⟨a, σ', hv, hp, hE⟩, hF⟩, stp⟩ | ⟨q, st₀, t, T', L, E, ce, h0, X', hL, e1, e2, ⟨⟨hp, hE1, hE2⟩, hF⟩, hce, hcv, hcl, stp⟩
  · cases hv
    obtain ⟨t2, a1, b1⟩ := kk a σ' hp T'.heap (locs ++ L) ls (hW.after h0 e1 hF hL hE.2.1 hE.2.2) hls T' rfl X'
    exact ⟨t2, stp t2 a1, b1⟩
  · obtain ⟨hpc, hcc, kv⟩ := kx E hp
    obtain ⟨t2, a1, b1⟩ := v_caught (rest := rest) hX hcc (hW.after h0 e1 hF hL hE1 hE2) hls (by rw [e1]; exact hce) hcv hcl (kv q) T' rfl X'
    exact ⟨t2, stp.trans a1, b1⟩
theorem v_callVTy {α : Type} (hX : okX X cc nL own ret) {y : MethodName} {b : ByteArray} {n' idx k i ci kn fr lo mc ms : Nat} {r : Option FieldType} {wr : α → Option Value} {As : List Value} {post : α → Wl → St → Prop} {postX : String → Prop} {q : vw_C} {fs : List Value}
    (hM : Cy (xl X) y b n' r fr lo mc ms wr (.ref (w.1 k i) :: As) w σ post postX) (hL : LkV own idx y b n' r kn) (hl : w.2 k i) (hc : ∀ g, cont g w.1 σ k i = .inr (ci, fs)) (hq : vwCl[ci]? = some q) (hqy : q.1 = y.cls) (hkn : As.length = kn) (hR : fr + 1 ≤ (xR X).frames ∧ 8 + (n' + 11) + lo ≤ (xR X).locals) (hz : z.1 + mc ≤ (xR X).cells ∧ z.2 + ms ≤ (xR X).slots) (hst : st = As.reverse ++ .ref (w.1 k i) :: rest) (hcat : (rest.map fun v => v.category).sum ≤ 8) (hdg : At cc pc (.invokevirtual idx) 3 nx)
    (kx : ∀ E, postX E → ∃ hp, HC X pc own E hp ∧ ∀ q, V X (z.1 + mc, z.2 + ms) w hp lv σ [.ref q])
    (kk : ∀ a w' σ', post a w' σ' → V X (z.1 + mc, z.2 + ms) w' nx lv σ' ((wr a).toList ++ rest)) : V X z w pc lv σ st := by
  obtain ⟨hd, rfl⟩ := hdg
  intro H locs ls hW hls T hT X0
  have hr : vx_Run (xp X) (xl X) (xe X) (xR X) (xs X) (xm X) (xa X) (xb X) (xM X) (xc X) H locs z.1 z.2 mc ms (F0 (xm X) pc ls st) rest (fun st oc t => QG (xD X) (xg X) w H.size wr post #[] st oc t) (XX (xD X) (xg X) w H.size σ postX) (AF w H.size) :=
    vx_runV (As := As) (rest := rest) ⟨hX.1, hX.2.1, rfl, hX.2.2.2.2.1, hX.2.2.2.2.2.2⟩ (hM (xD X) (xg X) H.size) (cwV kn hX.2.2.2.2.2.2 hL.1 rfl rfl rfl ⟨rfl, hL.2⟩ hR) ⟨PW.blind, by rw [← hqy]; exact rcv hW hl (hc _) hq, fun U hU hWU => ⟨rfl, hW.pw hU hWU⟩⟩ rfl hkn hls.1 hst (by show 2 * 0 + _ ≤ 8; omega) hd hz
  rcases hr T hT X0 with ⟨v, st₀, t, T', L, h0, X', hL, e1, e2, ⟨⟨a, w', σ', hv, hp, hE, hA⟩, hF⟩, stp⟩ | ⟨q, st₀, t, T', L, E, ce, h0, X', hL, e1, e2, ⟨⟨hp, hE1, hE2⟩, hF⟩, hce, hcv, hcl, stp⟩
  · cases hv
    obtain ⟨t2, a1, b1⟩ := kk a w' σ' hp T'.heap (locs ++ L) ls (hW.afterG h0 e1 hF hL hE.2.1 hE.2.2 hA) hls T' rfl X'
    exact ⟨t2, stp t2 a1, b1⟩
  · obtain ⟨hpc, hcc, kv⟩ := kx E hp
    obtain ⟨t2, a1, b1⟩ := v_caught (rest := rest) hX hcc (hW.after h0 e1 hF hL hE1 hE2) hls (by rw [e1]; exact hce) hcv hcl (kv q) T' rfl X'
    exact ⟨t2, stp.trans a1, b1⟩
/-- a helper's call -/
def LkH (idx : Nat) (y : MethodName) (b : ByteArray) (n : Nat) (r : Option FieldType) (hh : List (Nat × Nat × Nat × Nat)) (k : Nat) : Prop :=
  GoodIn BW (va_wsS RL idx y (.codeWith y b n r hh :: BW)) ∧ y.cls ≠ "java/lang/invoke/MethodHandle" ∧ y.cls ≠ "java/lang/invoke/VarHandle" ∧ (parseMethodDescriptor y.desc).map (fun d => d.parameters.length) = some k
theorem v_callSH {α : Type} (hX : okX X cc nL RL ret) {y : MethodName} {b : ByteArray} {n' idx kn fr lo mc ms : Nat} {r : Option FieldType} {hh : List (Nat × Nat × Nat × Nat)} {wr : α → Option Value} {As : List Value} {post : α → Wl → St → Prop}
    (hM : Ch (xl X) y b n' r hh fr lo mc ms wr As w σ post) (hN : va_Nc eA eI (xs X)) (hL : LkH idx y b n' r hh kn) (hkn : As.length = kn) (hR : fr + 1 ≤ (xR X).frames ∧ 8 + (n' + 11) + lo ≤ (xR X).locals) (hz : z.1 + mc ≤ (xR X).cells ∧ z.2 + ms ≤ (xR X).slots) (hst : st = As.reverse ++ rest) (hcat : (rest.map fun v => v.category).sum ≤ 8) (hdg : At cc pc (.invokestatic idx) 3 nx)
    (kk : ∀ a w' σ', post a w' σ' → V X (z.1 + mc, z.2 + ms) w' nx lv σ' ((wr a).toList ++ rest)) : V X z w pc lv σ st := by
  obtain ⟨hd, rfl⟩ := hdg
  intro H locs ls hW hls T hT X0
  have hr : vx_Run (xp X) (xl X) (xe X) (xR X) (xs X) (xm X) (xa X) (xb X) (xM X) (xc X) H locs z.1 z.2 mc ms (F0 (xm X) pc ls st) rest (fun st oc t => QG (xD X) (xg X) w H.size wr post #[] st oc t) (fun _ _ _ => False) (AF w H.size) :=
    vx_runSX (hh := hh) (As := As) (rest := rest) ⟨hX.1, hX.2.1, rfl, hX.2.2.2.2.1, hX.2.2.2.2.2.2⟩ (hM (xD X) (xg X) H.size) (vx_cwSW kn hX.2.2.2.2.2.2 hL.1 rfl rfl rfl hL.2 hR) ⟨PWh.blind, fun U hU hWU => ⟨rfl, hW.pw hU hWU, va_Nc.moved hWU.alike hN⟩⟩ rfl hkn hls.1 hst (by show 2 * 0 + _ ≤ 8; omega) hd hz
  rcases hr T hT X0 with ⟨v, st₀, t, T', L, h0, X', hL, e1, e2, ⟨⟨a, w', σ', hv, hp, hE, hA⟩, hF⟩, stp⟩ | ⟨q, st₀, t, T', L, E, ce, h0, X', hL, e1, e2, hf, hce, hcv, hcl, stp⟩
  · cases hv
    obtain ⟨t2, a1, b1⟩ := kk a w' σ' hp T'.heap (locs ++ L) ls (hW.afterG h0 e1 hF hL hE.2.1 hE.2.2 hA) hls T' rfl X'
    exact ⟨t2, stp t2 a1, b1⟩
  · exact hf.elim
end JT
