/-! THE CLAIM OUT OF ONE WALK OF THE LAW'S BODY. Your part is whole_start (and what it stands on); all else here is the same for every law, but numbers. -/
def R_law : String := "SealHouseLaw"
def lw_P (b : Addr) (xs : List Int32) (args : Array Value) (s : State) : Prop := args = #[.ref b] ∧ s.IntsAt b xs ∧ xs.length ≤ 3584 ∧ (Jvm.Cond.and given_1 narrow_1).before args s = true
def lw_Q (_ : Array Value) (s : State) (o : Outcome) (t : State) : Prop := o = .returned (some (.int 1)) ∧ Framed s o t [] 601024 7293034
def lw_Z (below : List Frame) (a : Array Value) (s : State) : State → Prop := fun t => ∃ o, t.status = .running ∧ Ended t below o ∧ lw_Q a s o t
/-- the law's own end, with 1 on the stack, nothing written that was there before, its room as the claim has it -/
theorem lw_ret {p : Program} {l : Launch} {e : Env} {s : State} {m : MethodId} {below : List Frame} {meth : Method} {c : Code} {b : Nat} (hx : p.tables.exec = Jvm.exec) (hb : c.code = code) (hr : meth.sig.returnType = ret) (hlocks : meth.locks = false) {pc : Nat} {H : Heap} {ls : Array Slot} (hdg : decode code pc = .ok (.ireturn, 1)) : W p l e room_1 s m #[Value.ref b] below meth c H [] 601024 7293034 (lw_Z below #[Value.ref b] s) (F0 m pc ls [.int 1]) := by
  intro T hT X
  obtain ⟨fs, hret, hrun, hended, hW, hframe⟩ := X.leave (v := some (.int 1)) (hlocks := hlocks) (fun h => by rw [hr] at h; cases h)
  have hmeth' : T.vm.method? m = some meth := X.method'
  refine ⟨T.setFrames fs, ?_, .returned (some (.int 1)), hrun, hended, rfl, ⟨_, rfl⟩, hW, hframe⟩
  jvm_step X.here [X.here.top, hx, hb, hdg, hmeth', hr, ret, narrow_b1]
  (try refine ⟨rfl, ?_⟩); (try refine ⟨rfl, ?_⟩)
  first | (intro acts; rw [hret _ acts rfl rfl rfl]) | rw [hret _ _ rfl rfl rfl]
  exact Steps.refl _
/-- what holds at the law's entry: the machine, the code, the tables' words (any of lw_tbl by 'hts w (by decide +kernel)'), the script of L ints xs at the cell b, what the Statement gives of the start (any of its parts by flat_of_before) -/
def lw_At (p : Program) (s : State) (m : MethodId) (meth : Method) (c : Code) (b L : Nat) (xs : Nat → Int32) : Prop :=
  p.tables.exec = Jvm.exec ∧ c.code = code ∧ meth.sig.returnType = ret ∧ c.maxLocals = 7 ∧ s.vm.findClass R_law = some m.cls ∧ (∀ w ∈ lw_tbl, w.before #[Value.ref b] s = true) ∧ va_X b L xs s s.heap ∧ b < s.heap.size ∧ meth.locks = false ∧ (Jvm.Cond.and given_1 narrow_1).before #[Value.ref b] s = true
/-- the script, where the law finds it -/
def XS (X : CX) (b L : Nat) (sc : Nat → Int32) : Prop := va_X b L sc (xs X) (xs X).heap ∧ b < (xs X).heap.size ∧ ¬ xA X b
section JL
variable {X : CX} {z : Nat × Nat} {w : Wl} {pc nx : Nat} {lv lv' : List (Nat × Value)} {σ : St} {st rest : List Value} {cc : ByteArray} {nL : Nat} {own : String} {ret : Option FieldType}
theorem v_scld (hX : okX X cc nL own ret) {b L : Nat} {sc : Nat → Int32} (hS : XS X b L sc) {a : Int} (j : Nat) (ha : a = (j : Int)) (hj : j < L) (hL : L ≤ 3584) (hdg : At cc pc .iaload 1 nx) (kk : V X z w nx lv σ (.int (iI ((sc j).toInt)) :: st)) : V X z w pc lv σ (.int (iI a) :: .ref b :: st) := by
  obtain ⟨d, rfl⟩ := hdg
  intro H locs ls hW hls
  refine va_sld hX.1 hX.2.1 hS.1 hS.2.1 hS.2.2 hW.2.2.2.2.1 (i := iI a) (ix_in ha hj (by omega)) d ?_
  rw [ix_cl ha hj (by omega)]
  have h := kk H locs ls hW hls
  rw [iI_of] at h
  exact h
theorem v_sclen (hX : okX X cc nL own ret) {b L : Nat} {sc : Nat → Int32} (hS : XS X b L sc) (hdg : At cc pc .arraylength 1 nx) (kk : V X z w nx lv σ (.int (iI (L : Int)) :: st)) : V X z w pc lv σ (.ref b :: st) := by
  obtain ⟨d, rfl⟩ := hdg
  intro H locs ls hW hls
  refine va_slen hX.1 hX.2.1 hS.1 hS.2.1 hS.2.2 hW.2.2.2.2.1 d ?_
  have h := kk H locs ls hW hls
  rw [iI_nat] at h
  exact h
end JL
/-- the law's own place -/
abbrev lawX (p : Program) (l : Launch) (e : Env) (s : State) (m : MethodId) (below : List Frame) (meth : Method) (c : Code) (b : Nat) (D : va_G) (g : Nat → ClassId) : CX := (p, l, e, room_1, s, m, #[Value.ref b], below, meth, c, lw_Z below #[Value.ref b] s, (fun q => s.heap.size ≤ q), D, g)
theorem v_lawret {p : Program} {l : Launch} {e : Env} {s : State} {m : MethodId} {below : List Frame} {meth : Method} {c : Code} {b : Nat} {D : va_G} {g : Nat → ClassId} {z : Nat × Nat} {w : Wl} {pc nx : Nat} {lv : List (Nat × Value)} {σ : St} (hX : okX (lawX p l e s m below meth c b D g) code 7 RL ret) (hz : z.1 ≤ 601024 ∧ z.2 ≤ 7293034) (hdg : At code pc .ireturn 1 nx) : V (lawX p l e s m below meth c b D g) z w pc lv σ [.int (iI 1)] := by
  intro H locs ls hW hls
  have e1 : iI 1 = 1 := by decide +kernel
  rw [e1]
  show W p l e room_1 s m #[Value.ref b] below meth c H locs z.1 z.2 (lw_Z below #[Value.ref b] s) (F0 m pc ls [.int 1])
  refine va_forget (fun q hq => hW.2.2.2.2.1.2.2 q hq) ?_
  refine W.widen (k := 601024) (n := 7293034) hz.1 hz.2 ?_
  exact lw_ret hX.1 hX.2.1 hX.2.2.2.1 hX.2.2.2.2.2.1 hdg.1
/-- the law between two calls -/
def LwS [Gh] (w : Wl) (σ : St) (A : Ab) : Prop := HS σ A ∧ HM σ A ∧ KW w A.2.1 ∧ w.2 0 0 ∧ w.2 13 0 ∧ w.2 18 0 ∧ ∀ q, ¬ w.2 19 q
def ZB [Gh] (n : Nat) (z : Nat × Nat) : Prop := z.1 + (1 - ghk) * 10360 ≤ 11000 + n * 30 ∧ z.2 + (1 - ghk) * 103600 ≤ 150000 + n * 700
abbrev lvw (w : Wl) (b n : Nat) : List (Nat × Value) := [(4, .int (iI (7 * (n : Int)))), (3, .ref (w.1 18 0)), (2, .ref (w.1 13 0)), (1, .ref (w.1 0 0)), (0, .ref b)]
/-- the loop's head is met again -/
def NX (X : CX) (b n : Nat) : Prop := ∀ (G : Gh) (z : Nat × Nat) (w : Wl) (σ : St) (A : Ab), (@ghk G = 0 ∨ @ghk G = 1) → @LwS G w σ A → @ZB G n z → V X z w 23 (lvw w b n) σ []
theorem cn_next [G : Gh] {X : CX} {b n mc ms : Nat} {z : Nat × Nat} {w : Wl} {σ : St} {A : Ab} (hN : NX X b (n + 1)) (hG : ghk = 0 ∨ ghk = 1) (hZ : ZB n z) (hmc : mc ≤ 30) (hms : ms ≤ 700) (hI : LwS w σ A) : V X (z.1 + mc, z.2 + ms) w 23 (lvw w b (n + 1)) σ [] := by
  refine hN G _ w σ A hG hI ⟨?_, ?_⟩
  · have := hZ.1
    show z.1 + mc + (1 - ghk) * 10360 ≤ 11000 + (n + 1) * 30
    omega
  · have := hZ.2
    show z.2 + ms + (1 - ghk) * 103600 ≤ 150000 + (n + 1) * 700
    omega
theorem cz_next [G : Gh] {X : CX} {b n mc ms : Nat} {z : Nat × Nat} {w : Wl} {s1 s2 : St} {A0 A : Ab} (hN : NX X b (n + 1)) (hG : ghk = 0 ∨ ghk = 1) (hZ : ZB n z) (hmc : mc ≤ 30) (hms : ms ≤ 700) (h1 : HM s1 A0) (hI : LwS w s2 A) : V X (z.1 + mc + (kap s1 * 10360 - kap s2 * 10360), z.2 + ms + (kap s1 * 103600 - kap s2 * 103600)) w 23 (lvw w b (n + 1)) s2 [] := by
  have z1 := hZ.1
  have z2 := hZ.2
  rcases hG with hk | hk
  · rcases hI.2.1.c01 with h4 | h4
    · have hk2 := kap_1 h4
      have hk1 := kap_le (s := s1)
      refine hN G _ w s2 A (Or.inl hk) hI ⟨?_, ?_⟩
      · show z.1 + mc + (kap s1 * 10360 - kap s2 * 10360) + (1 - ghk) * 10360 ≤ 11000 + (n + 1) * 30
        omega
      · show z.2 + ms + (kap s1 * 103600 - kap s2 * 103600) + (1 - ghk) * 103600 ≤ 150000 + (n + 1) * 700
        omega
    · have hk2 := kap_0 h4
      have hk1 := kap_le (s := s1)
      obtain ⟨i1, i2, i3⟩ := hI
      refine hN gh1 _ w s2 A (Or.inr rfl) ⟨i1, i2.up1 h4, i3⟩ ⟨?_, ?_⟩
      · show z.1 + mc + (kap s1 * 10360 - kap s2 * 10360) + (1 - 1) * 10360 ≤ 11000 + (n + 1) * 30
        omega
      · show z.2 + ms + (kap s1 * 103600 - kap s2 * 103600) + (1 - 1) * 103600 ≤ 150000 + (n + 1) * 700
        omega
  · have hk1 := kap_0 (h1.k1 hk)
    refine hN G _ w s2 A (Or.inr hk) hI ⟨?_, ?_⟩
    · show z.1 + mc + (kap s1 * 10360 - kap s2 * 10360) + (1 - ghk) * 10360 ≤ 11000 + (n + 1) * 30
      omega
    · show z.2 + ms + (kap s1 * 103600 - kap s2 * 103600) + (1 - ghk) * 103600 ≤ 150000 + (n + 1) * 700
      omega
theorem v_fin {X : CX} (hX : okX X code 7 RL ret) {z : Nat × Nat} {w : Wl} {σ : St} {b n : Nat} (kk : V X z w 23 (lvw w b (n + 1)) σ []) : V X z w 2311 (lvw w b n) σ [] := by
  refine v_iinc hX (lv' := [(4, .int (iI (7 * (n : Int) + 7))), (3, .ref (w.1 18 0)), (2, .ref (w.1 13 0)), (1, .ref (w.1 0 0)), (0, .ref b)]) 0 rfl (iI_add _ _) (Nat.le_of_ble_eq_true rfl) rfl (atL dAL_law_25 14 rfl) ?_
  refine v_goto hX (tgt := 23) (atL dAL_law_25 15 rfl) (by decide) ?_
  rw [show 7 * (n : Int) + 7 = 7 * ((n + 1 : Nat) : Int) by omega]
  exact kk
