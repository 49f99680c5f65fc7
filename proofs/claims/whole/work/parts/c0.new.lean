/-! methods that make the world larger -/
def QG {α : Type} (D : va_G) (g : Nat → ClassId) (w : Wl) (sz : Nat) (wr : α → Option Value) (post : α → Wl → St → Prop) : Array Value → State → Outcome → State → Prop :=
  fun _ st oc t => (∃ (a : α) (w' : Wl) (σ' : St), oc = .returned (wr a) ∧ post a w' σ' ∧ WE D g w' σ' t ∧ ∀ k i, w'.2 k i → AF w sz (w'.1 k i)) ∧ va_F (AF w sz) st t
def Cg {α : Type} (l : Launch) (y : MethodName) (cc : ByteArray) (nL : Nat) (ret : Option FieldType) (fr lo mc ms : Nat) (wr : α → Option Value) (args : List Value) (w : Wl) (σ : St) (post : α → Wl → St → Prop) : Prop :=
  ∀ (D : va_G) (g : Nat → ClassId) (sz : Nat), Met l y (.code y cc nL ret :: BW) { frames := fr, cells := mc, slots := ms, locals := lo } (va_Pc args (PW D g w σ sz)) (QG D g w sz wr post) mc ms (AF w sz)
theorem Cg.of {α : Type} {l : Launch} {y : MethodName} {cc : ByteArray} {nL : Nat} {ret : Option FieldType} {fr lo mc ms : Nat} {wr : α → Option Value} {args : List Value} {w : Wl} {σ : St} {post : α → Wl → St → Prop} {own : String} {lv : List (Nat × Value)}
    (hy : plainName y.cls = true) (hown : y.cls = own) (hlen : (lg_sl args).length ≤ nL) (hlv : lv_args 0 args = lv)
    (h : ∀ X : CX, okX X cc nL own ret → xl X = l → xR X = { frames := fr, cells := mc, slots := ms, locals := lo } → (xM X).name = y.name → (∀ k i, w.2 k i → ∀ q ∈ mn σ k i, w.2 q.1 q.2) → (∀ a w' σ', post a w' σ' → ∀ z : Nat × Nat, z.1 ≤ mc ∧ z.2 ≤ ms → RT X z w' (wr a) σ') → V X (0, 0) w 0 lv σ []) : Cg l y cc nL ret fr lo mc ms wr args w σ post := by
  intro D g sz
  refine Met.ofW (cc := cc) (maxL := nL) (ret := ret) hy rfl ?_
  intro p e s m args' below meth c s₁ B hml hv
  obtain ⟨rfl, hsz, hE, hSR⟩ := hv
  have hts := atoms_spec (ws := .code y cc nL ret :: BW) B.pre
  have hfc : s.vm.findClass own = some m.cls := by rw [← hown]; exact findClass_of_methodNamed B.named
  have K := h (p, l, e, { frames := fr, cells := mc, slots := ms, locals := lo }, s, m, args.toArray, below, meth, c, MQ below (QG D g w sz wr post) args.toArray s mc ms (AF w sz), AF w sz, D, g)
    ⟨B.exec, B.bytes, hml, B.returns, hfc, B.notSynchronized, fun x hx => hts x (List.mem_cons_of_mem _ hx)⟩ rfl rfl (name_of_methodNamed B.named B.method).1 hE.2.2.2 ?_
  · rw [lg_entry_eq]
    have hl := lv_entry args (n := nL) hlen
    rw [hlv] at hl
    refine K s.heap [] _ ⟨hE.1, hE.2.1, hE.2.2, fun k i hk => Or.inl ⟨k, i, hk, rfl⟩, va_S.rf, fun q hq => Or.inr (by rw [← hsz]; exact hq), hSR⟩ ?_
    show lv_has _ c.maxLocals lv
    rw [hml]
    exact hl
  · intro a w' σ' hp z hz
    refine ⟨QG D g w sz wr post, AF w sz, fun H locs g k => ?_, fun H locs hW => ⟨fun t ht hWt => ⟨⟨a, w', σ', rfl, hp, ⟨hW.1.warm hWt, ?_, hW.2.2.1⟩, hW.2.2.2.1⟩, hW.2.2.2.2.1.F ht⟩, hW.2.2.2.2.1.2.2⟩⟩
    · intro T hT X0
      obtain ⟨t, a1, o, b1, b2, b3, L, b4, b5⟩ := k T hT X0
      exact ⟨t, a1, o, b1, b2, b3, L, ⟨b4.1, b4.2.1, b4.2.2.mono hz.1 hz.2⟩, b5⟩
    · rw [ht]
      exact hW.2.1
theorem WD.afterG {D : va_G} {g : Nat → ClassId} {w w' : Wl} {σ σ' : St} {A : Nat → Prop} {s : State} {H : Heap} {locs L : List Loc} {st₀ t T' : State} (hW : WD D g w σ A s H locs) (h0 : st₀.heap = H) (e1 : T'.heap = t.heap) (hF : va_F (AF w H.size) st₀ t) (hL : ∀ q ∈ L, AF w H.size q.base) (h1 : WP D g w' σ' t.heap) (h2 : WI w' σ') (h3 : ∀ k i, w'.2 k i → AF w H.size (w'.1 k i)) : WD D g w' σ' A s T'.heap (locs ++ L) := by
  obtain ⟨hz, hk⟩ := hF
  rw [h0] at hz hk
  have hS := hW.2.2.2.2.1
  have hA := hW.af
  exact ⟨hW.1, by rw [e1]; exact h1, h2, fun k i hki => hA _ (h3 k i hki),
    ⟨Nat.le_trans hS.1 (by rw [e1]; exact hz), fun q h1 h2 => by rw [e1, hk q (Nat.lt_of_lt_of_le h1 hS.1) (fun y => h2 (hA q y))]; exact hS.2.1 q h1 h2, fun q hq => by
      rcases List.mem_append.mp hq with h | h
      · exact hS.2.2 q h
      · exact hA _ (hL q h)⟩, hW.2.2.2.2.2⟩
def LkI (own : String) (idx : Nat) (y : MethodName) (b : ByteArray) (n : Nat) (k : Nat) : Prop :=
  GoodIn BW (.code y b n none :: BW) ∧ Cond.methodLink own idx y ∈ BW ∧ Cond.instanceMethod y ∈ BW ∧ Cond.initialized y.cls ∈ BW ∧ y.name = "<init>" ∧ y.cls ≠ "java/lang/invoke/MethodHandle" ∧ y.cls ≠ "java/lang/invoke/VarHandle" ∧ (parseMethodDescriptor y.desc).map (fun d => d.parameters.length) = some k
def LkIN (own : String) (idx : Nat) (y : MethodName) (b : ByteArray) (n : Nat) (k : Nat) : Prop :=
  GoodIn BW (.code y b n none :: BW) ∧ (Cond.methodLinkNest own idx y "SealHouseModel" ∈ NWL ∨ Cond.methodLinkNest own idx y "SealHouse" ∈ NWL) ∧ Cond.instanceMethod y ∈ BW ∧ Cond.initialized y.cls ∈ BW ∧ y.name = "<init>" ∧ y.cls ≠ "java/lang/invoke/MethodHandle" ∧ y.cls ≠ "java/lang/invoke/VarHandle" ∧ (parseMethodDescriptor y.desc).map (fun d => d.parameters.length) = some k
section JG
variable {X : CX} {z : Nat × Nat} {w : Wl} {pc nx : Nat} {lv lv' : List (Nat × Value)} {σ : St} {st rest : List Value} {cc : ByteArray} {nL : Nat} {own : String} {ret : Option FieldType}
theorem v_runG {α : Type} {wr : α → Option Value} {post : α → Wl → St → Prop} {st0 : List Value} {mc ms : Nat} (hn : nx = pc + 3)
    (hr : ∀ H locs ls, XD X w σ H locs → ls.size = (xc X).maxLocals → va_Run (xp X) (xl X) (xe X) (xR X) (xs X) (xm X) (xa X) (xb X) (xM X) (xc X) H locs z.1 z.2 mc ms (F0 (xm X) pc ls st0) rest (QG (xD X) (xg X) w H.size wr post #[]) (AF w H.size))
    (kk : ∀ a w' σ', post a w' σ' → V X (z.1 + mc, z.2 + ms) w' nx lv σ' ((wr a).toList ++ rest)) : V X z w pc lv σ st0 := by
  subst hn
  intro H locs ls hW hl T hT X0
  obtain ⟨v, st₀, t, T', L, h0, X', hL, e1, e2, ⟨⟨a, w', σ', hv, hp, hE, hA⟩, hF⟩, stp⟩ := hr H locs ls hW hl.1 T hT X0
  cases hv
  obtain ⟨t2, a1, b1⟩ := kk a w' σ' hp T'.heap (locs ++ L) ls (hW.afterG h0 e1 hF hL hE.2.1 hE.2.2 hA) hl T' rfl X'
  exact ⟨t2, stp t2 a1, b1⟩
theorem v_callVG {α : Type} (hX : okX X cc nL own ret) {y : MethodName} {b : ByteArray} {n' idx k i ci kn fr lo mc ms : Nat} {r : Option FieldType} {wr : α → Option Value} {As : List Value} {post : α → Wl → St → Prop} {q : vw_C} {fs : List Value}
    (hM : Cg (xl X) y b n' r fr lo mc ms wr (.ref (w.1 k i) :: As) w σ post) (hL : LkV own idx y b n' r kn) (hl : w.2 k i) (hc : ∀ g, cont g w.1 σ k i = .inr (ci, fs)) (hq : vwCl[ci]? = some q) (hqy : q.1 = y.cls) (hkn : As.length = kn) (hR : fr + 1 ≤ (xR X).frames ∧ 8 + (n' + 11) + lo ≤ (xR X).locals) (hz : z.1 + mc ≤ (xR X).cells ∧ z.2 + ms ≤ (xR X).slots) (hst : st = As.reverse ++ .ref (w.1 k i) :: rest) (hcat : (rest.map fun v => v.category).sum ≤ 8) (hdg : At cc pc (.invokevirtual idx) 3 nx)
    (kk : ∀ a w' σ', post a w' σ' → V X (z.1 + mc, z.2 + ms) w' nx lv σ' ((wr a).toList ++ rest)) : V X z w pc lv σ st := by
  refine v_runG hdg.2 (fun H locs ls hW hls => ?_) kk
  exact va_runV (As := As) (rest := rest) ⟨hX.1, hX.2.1, rfl, hX.2.2.2.2.1, hX.2.2.2.2.2.2⟩ (hM (xD X) (xg X) H.size) (cwV kn hX.2.2.2.2.2.2 hL.1 rfl rfl rfl ⟨rfl, hL.2⟩ hR) ⟨PW.blind, by rw [← hqy]; exact rcv hW hl (hc _) hq, fun U hU hWU => ⟨rfl, hW.pw hU hWU⟩⟩ rfl hkn hls hst (by show 2 * 0 + _ ≤ 8; omega) hdg.1 hz
/-- a constructor -/
theorem v_callI {α : Type} (hX : okX X cc nL own ret) {y : MethodName} {b : ByteArray} {n' idx o kn fr lo mc ms : Nat} {wr : α → Option Value} {As : List Value} {post : α → Wl → St → Prop}
    (hM : Cg (xl X) y b n' none fr lo mc ms wr (.ref o :: As) w σ post) (hL : LkI own idx y b n' kn) (hkn : As.length = kn) (hR : fr + 1 ≤ (xR X).frames ∧ 8 + (n' + 11) + lo ≤ (xR X).locals) (hz : z.1 + mc ≤ (xR X).cells ∧ z.2 + ms ≤ (xR X).slots) (hst : st = As.reverse ++ .ref o :: rest) (hcat : (rest.map fun v => v.category).sum ≤ 8) (hdg : At cc pc (.invokespecial idx) 3 nx)
    (kk : ∀ a w' σ', post a w' σ' → V X (z.1 + mc, z.2 + ms) w' nx lv σ' ((wr a).toList ++ rest)) : V X z w pc lv σ st := by
  refine v_runG hdg.2 (fun H locs ls hW hls => ?_) kk
  have hts := hX.2.2.2.2.2.2
  obtain ⟨g1, g2, g3, g4, g5, g6⟩ := hL
  exact va_runI (As := As) (rest := rest) ⟨hX.1, hX.2.1, rfl, hX.2.2.2.2.1, hts⟩ (hM (xD X) (xg X) H.size) (cwI kn hts g1 rfl rfl rfl (hts _ g4) (hts _ g2) (hts _ g3) g5 g6 hR) ⟨PW.blind, fun U hU hWU => ⟨rfl, hW.pw hU hWU⟩⟩ rfl hkn hls hst (by show 2 * 0 + _ ≤ 8; omega) hdg.1 hz
theorem v_callIN {α : Type} (hX : okX X cc nL own ret) {y : MethodName} {b : ByteArray} {n' idx o kn fr lo mc ms : Nat} {wr : α → Option Value} {As : List Value} {post : α → Wl → St → Prop}
    (hM : Cg (xl X) y b n' none fr lo mc ms wr (.ref o :: As) w σ post) (hL : LkIN own idx y b n' kn) (hkn : As.length = kn) (hR : fr + 1 ≤ (xR X).frames ∧ 8 + (n' + 11) + lo ≤ (xR X).locals) (hz : z.1 + mc ≤ (xR X).cells ∧ z.2 + ms ≤ (xR X).slots) (hst : st = As.reverse ++ .ref o :: rest) (hcat : (rest.map fun v => v.category).sum ≤ 8) (hdg : At cc pc (.invokespecial idx) 3 nx)
    (kk : ∀ a w' σ', post a w' σ' → V X (z.1 + mc, z.2 + ms) w' nx lv σ' ((wr a).toList ++ rest)) : V X z w pc lv σ st := by
  refine v_runG hdg.2 (fun H locs ls hW hls => ?_) kk
  have hts := hX.2.2.2.2.2.2
  obtain ⟨g1, g2, g3, g5, g4, g6⟩ := hL
  rcases g2 with g2 | g2
  all_goals exact va_runIN (As := As) (rest := rest) ⟨hX.1, hX.2.1, rfl, hX.2.2.2.2.1, hts⟩ (hM (xD X) (xg X) H.size) ⟨va_cnB kn hts g1 rfl rfl rfl (hW.1.2.1 _ g2) (hts _ g5) g6 hR, g4, hts _ g3⟩ ⟨PW.blind, fun U hU hWU => ⟨rfl, hW.pw hU hWU⟩⟩ rfl hkn hls hst (by show 2 * 0 + _ ≤ 8; omega) hdg.1 hz
/-- Object.<init> -/
theorem v_objI (hX : okX X cc nL own ret) {idx a : Nat} (hl : Cond.methodLink own idx Lib.objectInit ∈ BW) (hR : 1 ≤ (xR X).frames ∧ (st.map fun v => v.category).sum + 12 ≤ (xR X).locals) (hdg : At cc pc (.invokespecial idx) 3 nx) (kk : V X z w nx lv σ st) : V X z w pc lv σ (.ref a :: st) := by
  obtain ⟨d, rfl⟩ := hdg
  intro H locs ls hW hls
  exact W.objInit hX.1 hX.2.1 hX.2.2.2.2.1 (hX.2.2.2.2.2.2 _ hl) (hX.2.2.2.2.2.2 _ wd_21) (hX.2.2.2.2.2.2 _ wd_22) rfl hls.1 rfl d hR.1 (by show 2 * 0 + _ + 12 ≤ _; omega) (kk H locs ls hW hls)
/-- a new object, nothing of it set -/
theorem v_newO (hX : okX X cc nL own ret) {k i ci N idx : Nat} {C : String} {T : u_T} {fs : List Value} (ty : Nat → FieldType) (hcl : vwCl[ci]? = some (C, T, N)) (hin : ∀ x ∈ u_ws C T N, x ∈ BW) (hty : ∀ j, j < N → parseFieldDescriptor (T j).2.2.1 = some (ty j)) (hlink : Cond.classLink own idx C ∈ BW) (hinst : Cond.instantiable C N ∈ BW) (hini : Cond.initialized C ∈ BW) (hf : ¬ w.2 k i) (hc : ∀ g (a : Nat), cont g (wup w k i a).1 σ k i = .inr (ci, fs)) (hmn : mn σ k i = []) (hfs : ∀ j, j < N → defaultValue (ty j) = vp_V fs j) (hz : z.1 + 1 ≤ (xR X).cells ∧ z.2 + N ≤ (xR X).slots) (hdg : At cc pc (.new idx) 3 nx) (kk : ∀ a : Nat, V X (z.1 + 1, z.2 + N) (wup w k i a) nx lv σ (.ref a :: st)) : V X z w pc lv σ st := by
  obtain ⟨d, rfl⟩ := hdg
  intro H locs ls hW hls
  have hts := hX.2.2.2.2.2.2
  have hKn := hW.1.1.1 ci _ hcl
  refine W.newcK hX.1 hX.2.1 hX.2.2.2.2.1 (hts _ hlink) (hts _ hinst) (hts _ hini) rfl d hz.1 hz.2 hKn.2.1 rfl fun H1 kC hkC e1 z1 o1 => ?_
  refine kk H.size H1 locs ls (hW.grow hf z1 o1 (fun _ _ _ => rfl) (fun _ _ _ => rfl) (fun q hq => by rw [hmn] at hq; cases hq) ?_) hls
  rw [hc]
  exact ⟨_, hcl, (u_born ty hts hin hKn hkC e1 hty).to hfs⟩
end JG
