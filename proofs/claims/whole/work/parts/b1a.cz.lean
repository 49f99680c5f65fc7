/-! a method that makes the constants at most, and if it does they are made -/
def Bd (st t : State) (c n : Nat) : Prop := t.heap.size ≤ st.heap.size + c ∧ ((t.heap.toList.drop st.heap.size).map (·.slots.size)).sum ≤ n ∧ ∀ (a : Nat) (x : Cell), st.heap[a]? = some x → ∃ x', t.heap[a]? = some x' ∧ x'.slots.size = x.slots.size
def QZ {α : Type} (D : va_G) (g : Nat → ClassId) (w : Wl) (sz : Nat) (σ : St) (wr : α → Option Value) (post : α → St → Prop) : Array Value → State → Outcome → State → Prop :=
  fun _ st oc t => (∃ (a : α) (σ' : St), oc = .returned (wr a) ∧ post a σ' ∧ WE D g w σ' t ∧ Bd st t (kap σ * 10360 - kap σ' * 10360) (kap σ * 103600 - kap σ' * 103600) ∧ kap σ' ≤ kap σ) ∧ va_F (AF w sz) st t
def Cz {α : Type} (l : Launch) (y : MethodName) (cc : ByteArray) (nL : Nat) (ret : Option FieldType) (fr lo mc ms : Nat) (wr : α → Option Value) (args : List Value) (w : Wl) (σ : St) (post : α → St → Prop) : Prop :=
  ∀ (D : va_G) (g : Nat → ClassId) (sz : Nat), Met l y (.code y cc nL ret :: BW) { frames := fr, cells := mc, slots := ms, locals := lo } (va_Pc args (PW D g w σ sz)) (QZ D g w sz σ wr post) mc ms (AF w sz)
theorem Cz.of {α : Type} {l : Launch} {y : MethodName} {cc : ByteArray} {nL : Nat} {ret : Option FieldType} {fr lo : Nat} {wr : α → Option Value} {args : List Value} {w : Wl} {σ : St} {post : α → St → Prop} {own : String} {lv : List (Nat × Value)}
    (hy : plainName y.cls = true) (hown : y.cls = own) (hlen : (lg_sl args).length ≤ nL) (hlv : lv_args 0 args = lv)
    (h : ∀ X : CX, okX X cc nL own ret → xl X = l → xR X = { frames := fr, cells := kap σ * 10360, slots := kap σ * 103600, locals := lo } → (∀ k i, w.2 k i → ∀ q ∈ mn σ k i, w.2 q.1 q.2) → (∀ a σ', post a σ' → ∀ z : Nat × Nat, ZI (kap σ) z σ' → RT X z w (wr a) σ') → V X (0, 0) w 0 lv σ []) : Cz l y cc nL ret fr lo (kap σ * 10360) (kap σ * 103600) wr args w σ post := by
  intro D g sz
  refine Met.ofW (cc := cc) (maxL := nL) (ret := ret) hy rfl ?_
  intro p e s m args' below meth c s₁ B hml hv
  obtain ⟨rfl, hsz, hE, hSR⟩ := hv
  have hts := atoms_spec (ws := .code y cc nL ret :: BW) B.pre
  have hfc : s.vm.findClass own = some m.cls := by rw [← hown]; exact findClass_of_methodNamed B.named
  have K := h (p, l, e, { frames := fr, cells := kap σ * 10360, slots := kap σ * 103600, locals := lo }, s, m, args.toArray, below, meth, c, MQ below (QZ D g w sz σ wr post) args.toArray s (kap σ * 10360) (kap σ * 103600) (AF w sz), AF w sz, D, g)
    ⟨B.exec, B.bytes, hml, B.returns, hfc, B.notSynchronized, fun x hx => hts x (List.mem_cons_of_mem _ hx)⟩ rfl rfl hE.2.2.2 ?_
  · rw [lg_entry_eq]
    have hl := lv_entry args (n := nL) hlen
    rw [hlv] at hl
    refine K s.heap [] _ ⟨hE.1, hE.2.1, hE.2.2, fun k i hk => Or.inl ⟨k, i, hk, rfl⟩, va_S.rf, fun q hq => Or.inr (by rw [← hsz]; exact hq), hSR⟩ ?_
    show lv_has _ c.maxLocals lv
    rw [hml]
    exact hl
  · intro a σ' hp z hz
    refine ⟨fun _ st oc t => (oc = .returned (wr a) ∧ WE D g w σ' t) ∧ va_F (AF w sz) st t, AF w sz, fun H locs g' k => ?_, fun H locs hW => ⟨fun t ht hWt => ⟨⟨rfl, hW.1.warm hWt, ?_, hW.2.2.1⟩, hW.2.2.2.2.1.F ht⟩, hW.2.2.2.2.1.2.2⟩⟩
    · intro T hT X0
      obtain ⟨t, a1, o, b1, b2, ⟨b3, b3'⟩, L, b4, b5⟩ := k T hT X0
      have hb := b4.2.2
      have h1 : t.heap.size ≤ s.heap.size + z.1 := hb.2.2.1
      have h2 : ((t.heap.toList.drop s.heap.size).map (·.slots.size)).sum ≤ z.2 := hb.2.2.2.2.1
      have z1 := hz.1
      have z2 := hz.2
      refine ⟨t, a1, o, b1, b2, ⟨⟨a, σ', b3.1, hp, b3.2, ⟨by omega, by omega, fun a x hx => ?_⟩, by omega⟩, b3'⟩, L, ⟨b4.1, b4.2.1, hb.mono (by omega) (by omega)⟩, b5⟩
      obtain ⟨x', q1, -, q2, -⟩ := hb.2.2.2.2.2 a x hx
      exact ⟨x', q1, q2⟩
    · rw [ht]
      exact hW.2.1
theorem narrowS {p : Program} {l : Launch} {e : Env} {R : Room} {s : State} {m : MethodId} {args : Array Value} {below : List Frame} {meth : Method} {c : Code} {T T' : State} {locs locs' : List Loc} {c1 n1 c2 n2 d1 d2 : Nat} (X0 : Stand p l e R s m args below meth c T locs c1 n1) (X : Stand p l e R s m args below meth c T' locs' c2 n2) (h1 : T'.heap.size ≤ T.heap.size + d1) (h2 : ((T'.heap.toList.drop T.heap.size).map (·.slots.size)).sum ≤ d2) (hk : ∀ (a : Nat) (x : Cell), T.heap[a]? = some x → ∃ x', T'.heap[a]? = some x' ∧ x'.slots.size = x.slots.size) : Stand p l e R s m args below meth c T' locs' (c1 + d1) (n1 + d2) := by
  have e1 : T.heap.size ≤ s.heap.size + c1 := X0.same.2.2.1
  have e2 : ((T.heap.toList.drop s.heap.size).map (·.slots.size)).sum ≤ n1 := X0.same.2.2.2.2.1
  have e3 : s.heap.size ≤ T.heap.size := X0.same.2.1
  have hm : ((T'.heap.toList.drop s.heap.size).take (T.heap.size - s.heap.size)).map (·.slots.size) = (T.heap.toList.drop s.heap.size).map (·.slots.size) := by
    apply List.ext_getElem?
    intro i
    rw [List.getElem?_map, List.getElem?_map, List.getElem?_take, List.getElem?_drop, List.getElem?_drop, Array.getElem?_toList, Array.getElem?_toList]
    by_cases c : i < T.heap.size - s.heap.size
    · rw [if_pos c]
      have hlt : s.heap.size + i < T.heap.size := by omega
      obtain ⟨x', q1, q2⟩ := hk (s.heap.size + i) _ (Array.getElem?_eq_getElem hlt)
      rw [q1, Array.getElem?_eq_getElem hlt]
      simp [q2]
    · rw [if_neg c, Array.getElem?_eq_none (by omega)]
  have hs : ((T'.heap.toList.drop s.heap.size).map (·.slots.size)).sum ≤ n1 + d2 := by
    rw [← List.take_append_drop (T.heap.size - s.heap.size) (T'.heap.toList.drop s.heap.size), List.map_append, List.sum_append, hm, List.drop_drop, show s.heap.size + (T.heap.size - s.heap.size) = T.heap.size by omega]
    omega
  have hsz : T'.heap.size ≤ s.heap.size + (c1 + d1) := by omega
  exact { X with same := ⟨X.same.1, X.same.2.1, hsz, X.same.2.2.2.1, hs, X.same.2.2.2.2.2⟩ }
section JZ
variable {X : CX} {z : Nat × Nat} {w : Wl} {pc nx : Nat} {lv lv' : List (Nat × Value)} {σ : St} {st rest : List Value} {cc : ByteArray} {nL : Nat} {own : String} {ret : Option FieldType}
theorem v_callVZ {α : Type} (hX : okX X cc nL own ret) {y : MethodName} {b : ByteArray} {n' idx k i ci kn fr lo mc ms : Nat} {r : Option FieldType} {wr : α → Option Value} {As : List Value} {post : α → St → Prop} {q : vw_C} {fs : List Value}
    (hM : Cz (xl X) y b n' r fr lo mc ms wr (.ref (w.1 k i) :: As) w σ post) (hL : LkV own idx y b n' r kn) (hl : w.2 k i) (hc : ∀ g, cont g w.1 σ k i = .inr (ci, fs)) (hq : vwCl[ci]? = some q) (hqy : q.1 = y.cls) (hkn : As.length = kn) (hR : fr + 1 ≤ (xR X).frames ∧ 8 + (n' + 11) + lo ≤ (xR X).locals) (hz : z.1 + mc ≤ (xR X).cells ∧ z.2 + ms ≤ (xR X).slots) (hst : st = As.reverse ++ .ref (w.1 k i) :: rest) (hcat : (rest.map fun v => v.category).sum ≤ 8) (hdg : At cc pc (.invokevirtual idx) 3 nx)
    (kk : ∀ a σ', post a σ' → kap σ' ≤ kap σ → V X (z.1 + (kap σ * 10360 - kap σ' * 10360), z.2 + (kap σ * 103600 - kap σ' * 103600)) w nx lv σ' ((wr a).toList ++ rest)) : V X z w pc lv σ st := by
  obtain ⟨hd, rfl⟩ := hdg
  intro H locs ls hW hls T hT X0
  have hr : va_Run (xp X) (xl X) (xe X) (xR X) (xs X) (xm X) (xa X) (xb X) (xM X) (xc X) H locs z.1 z.2 mc ms (F0 (xm X) pc ls st) rest (QZ (xD X) (xg X) w H.size σ wr post #[]) (AF w H.size) :=
    va_runV (As := As) (rest := rest) ⟨hX.1, hX.2.1, rfl, hX.2.2.2.2.1, hX.2.2.2.2.2.2⟩ (hM (xD X) (xg X) H.size) (cwV kn hX.2.2.2.2.2.2 hL.1 rfl rfl rfl ⟨rfl, hL.2⟩ hR) ⟨PW.blind, by rw [← hqy]; exact rcv hW hl (hc _) hq, fun U hU hWU => ⟨rfl, hW.pw hU hWU⟩⟩ rfl hkn hls.1 hst (by show 2 * 0 + _ ≤ 8; omega) hd hz
  obtain ⟨v, st₀, t, T', L, h0, X', hL', e1, e2, ⟨⟨a, σ', hv, hp, hE, hB, hkk⟩, hF⟩, stp⟩ := hr T hT X0
  cases hv
  have h9 : st₀.heap = T.heap := h0.trans hT.symm
  obtain ⟨k1, k2, k3⟩ := hB
  rw [h9, ← e1] at k1 k2 k3
  obtain ⟨t2, a1, b1⟩ := kk a σ' hp hkk T'.heap (locs ++ L) ls (hW.after h0 e1 hF hL' hE.2.1 hE.2.2) hls T' rfl (narrowS X0 X' k1 k2 k3)
  exact ⟨t2, stp t2 a1, b1⟩
end JZ
def gh1 : Gh := ⟨fun _ => 1⟩
theorem HM.up1 [Gh] {s : St} {A : Ab} (h : HM s A) (e : s 10 0 4 = 1) : @HM gh1 s A := by
  obtain ⟨h1, h2, h3, h4⟩ := h
  refine ⟨h1, h2, h3, ?_⟩
  rcases h4 with h4 | h4
  · rw [e] at h4
    exact absurd h4.1 (by decide)
  · exact Or.inr h4
theorem HM.dn [Gh] {s : St} {A : Ab} (h : @HM gh1 s A) : HM s A := by
  obtain ⟨h1, h2, h3, h4⟩ := h
  refine ⟨h1, h2, h3, ?_⟩
  rcases h4 with h4 | h4
  · exact absurd h4.2 (by decide)
  · exact Or.inr h4
theorem HM.c1 {s : St} {A : Ab} (h : @HM gh1 s A) : s 10 0 4 = 1 := by
  obtain ⟨h1, h2, h3, h4⟩ := h
  rcases h4 with h4 | h4
  · exact absurd h4.2 (by decide)
  · exact h4.1
