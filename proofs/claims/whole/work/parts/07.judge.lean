/-! the judgement V: the machine at pc with these locals, this store and this stack comes to its goal -/
abbrev CX : Type := Program × Launch × Env × Room × State × MethodId × Array Value × List Frame × Method × Code × (State → Prop) × (Nat → Prop) × va_G × (Nat → ClassId)
abbrev xp (X : CX) : Program := X.1
abbrev xl (X : CX) : Launch := X.2.1
abbrev xe (X : CX) : Env := X.2.2.1
abbrev xR (X : CX) : Room := X.2.2.2.1
abbrev xs (X : CX) : State := X.2.2.2.2.1
abbrev xm (X : CX) : MethodId := X.2.2.2.2.2.1
abbrev xa (X : CX) : Array Value := X.2.2.2.2.2.2.1
abbrev xb (X : CX) : List Frame := X.2.2.2.2.2.2.2.1
abbrev xM (X : CX) : Method := X.2.2.2.2.2.2.2.2.1
abbrev xc (X : CX) : Code := X.2.2.2.2.2.2.2.2.2.1
abbrev xQ (X : CX) : State → Prop := X.2.2.2.2.2.2.2.2.2.2.1
abbrev xA (X : CX) : Nat → Prop := X.2.2.2.2.2.2.2.2.2.2.2.1
abbrev xD (X : CX) : va_G := X.2.2.2.2.2.2.2.2.2.2.2.2.1
abbrev xg (X : CX) : Nat → ClassId := X.2.2.2.2.2.2.2.2.2.2.2.2.2
abbrev XW (X : CX) (z : Nat × Nat) (H : Heap) (locs : List Loc) (g : JFrame) : Prop := W (xp X) (xl X) (xe X) (xR X) (xs X) (xm X) (xa X) (xb X) (xM X) (xc X) H locs z.1 z.2 (xQ X) g
abbrev XD (X : CX) (w : Wl) (σ : St) (H : Heap) (locs : List Loc) : Prop := WD (xD X) (xg X) w σ (xA X) (xs X) H locs
def V (X : CX) (z : Nat × Nat) (w : Wl) (pc : Nat) (lv : List (Nat × Value)) (σ : St) (st : List Value) : Prop :=
  ∀ (H : Heap) (locs : List Loc) (ls : Array Slot), XD X w σ H locs → lv_has ls (xc X).maxLocals lv → XW X z H locs (F0 (xm X) pc ls st)
def okX (X : CX) (cc : ByteArray) (nL : Nat) (own : String) (ret : Option FieldType) : Prop :=
  (xp X).tables.exec = Jvm.exec ∧ (xc X).code = cc ∧ (xc X).maxLocals = nL ∧ (xM X).sig.returnType = ret ∧ (xs X).vm.findClass own = some (xm X).cls ∧ (xM X).locks = false ∧ ∀ w ∈ BW, w.before (xa X) (xs X) = true
def At (cc : ByteArray) (pc : Nat) (ins : Instr) (n nx : Nat) : Prop := decode cc pc = .ok (ins, n) ∧ nx = pc + n
theorem atL {cc : ByteArray} {l : List (Nat × Instr × Nat × Nat)} (h : l.all (fun q => decide (decode cc q.1 = .ok (q.2.1, q.2.2.1)) && q.2.2.2 == q.1 + q.2.2.1) = true) (i : Nat) {pc : Nat} {ins : Instr} {n nx : Nat} (hi : l[i]? = some (pc, ins, n, nx)) : At cc pc ins n nx := by
  have h1 := List.all_eq_true.mp h _ (List.mem_of_getElem? hi)
  simp only [Bool.and_eq_true, decide_eq_true_eq, beq_iff_eq] at h1
  exact h1
/-- a return of v in the store σ meets the goal -/
def RT (X : CX) (z : Nat × Nat) (w : Wl) (v : Option Value) (σ : St) : Prop :=
  ∃ (Qc : Array Value → State → Outcome → State → Prop) (free : Addr → Prop), (∀ H locs g, W (xp X) (xl X) (xe X) (xR X) (xs X) (xm X) (xa X) (xb X) (xM X) (xc X) H locs z.1 z.2 (MQ (xb X) Qc (xa X) (xs X) z.1 z.2 free) g → XW X z H locs g) ∧
    ∀ H locs, XD X w σ H locs → (∀ t : State, t.heap = H → (xs X).WarmedH t.vm → Qc (xa X) (xs X) (.returned v) t) ∧ ∀ q ∈ locs, free q.base
section JV
variable {X : CX} {z : Nat × Nat} {w : Wl} {pc nx : Nat} {lv lv' : List (Nat × Value)} {σ : St} {st : List Value} {cc : ByteArray} {nL : Nat} {own : String} {ret : Option FieldType}
theorem v_iload_n (hX : okX X cc nL own ret) {q : Fin 4} {x : Int32} (k : Nat) (hk : lv[k]? = some (q.val, .int x)) (hdg : At cc pc (.iload_n q) 1 nx) (kk : V X z w nx lv σ (.int x :: st)) : V X z w pc lv σ (st) := by
  obtain ⟨d, rfl⟩ := hdg
  intro H locs ls hW hl
  exact lv_iload_n hX.1 hX.2.1 d rfl (lv_at hl k hk) (kk H locs ls hW hl)
theorem v_iload (hX : okX X cc nL own ret) {q : Nat} {x : Int32} (k : Nat) (hk : lv[k]? = some (q, .int x)) (hdg : At cc pc (.iload q) 2 nx) (kk : V X z w nx lv σ (.int x :: st)) : V X z w pc lv σ (st) := by
  obtain ⟨d, rfl⟩ := hdg
  intro H locs ls hW hl
  exact lv_iload hX.1 hX.2.1 d (lv_at hl k hk) (kk H locs ls hW hl)
theorem v_lload_n (hX : okX X cc nL own ret) {q : Fin 4} {x : Int64} (k : Nat) (hk : lv[k]? = some (q.val, .long x)) (hdg : At cc pc (.lload_n q) 1 nx) (kk : V X z w nx lv σ (.long x :: st)) : V X z w pc lv σ (st) := by
  obtain ⟨d, rfl⟩ := hdg
  intro H locs ls hW hl
  exact lv_lload_n hX.1 hX.2.1 d rfl (lv_at hl k hk) (kk H locs ls hW hl)
theorem v_lload (hX : okX X cc nL own ret) {q : Nat} {x : Int64} (k : Nat) (hk : lv[k]? = some (q, .long x)) (hdg : At cc pc (.lload q) 2 nx) (kk : V X z w nx lv σ (.long x :: st)) : V X z w pc lv σ (st) := by
  obtain ⟨d, rfl⟩ := hdg
  intro H locs ls hW hl
  exact lv_lload hX.1 hX.2.1 d (lv_at hl k hk) (kk H locs ls hW hl)
theorem v_aload_n (hX : okX X cc nL own ret) {q : Fin 4} {x : Nat} (k : Nat) (hk : lv[k]? = some (q.val, .ref x)) (hdg : At cc pc (.aload_n q) 1 nx) (kk : V X z w nx lv σ (.ref x :: st)) : V X z w pc lv σ (st) := by
  obtain ⟨d, rfl⟩ := hdg
  intro H locs ls hW hl
  exact lv_aload_n hX.1 hX.2.1 d rfl (lv_at hl k hk) (kk H locs ls hW hl)
theorem v_aload (hX : okX X cc nL own ret) {q : Nat} {x : Nat} (k : Nat) (hk : lv[k]? = some (q, .ref x)) (hdg : At cc pc (.aload q) 2 nx) (kk : V X z w nx lv σ (.ref x :: st)) : V X z w pc lv σ (st) := by
  obtain ⟨d, rfl⟩ := hdg
  intro H locs ls hW hl
  exact lv_aload hX.1 hX.2.1 d (lv_at hl k hk) (kk H locs ls hW hl)
theorem v_istore_n (hX : okX X cc nL own ret) {q : Fin 4} {i : Nat} (hi : q.val = i) {x : Int32} (hn : i < nL) (hl : (i, Value.int x) :: lv.filter (fun q => !(q.1 == i) && !(q.1 + 1 == i && q.2.category == 2)) = lv') (hdg : At cc pc (.istore_n q) 1 nx) (kk : V X z w nx lv' σ st) : V X z w pc lv σ (.int x :: st) := by
  obtain ⟨d, rfl⟩ := hdg
  intro H locs ls hW hls
  exact lv_istore_n hX.1 hX.2.1 d hi hls (by rw [hX.2.2.1]; exact hn) hl (fun ls' hl' => kk H locs ls' hW hl')
theorem v_istore (hX : okX X cc nL own ret) {i : Nat} {x : Int32} (hn : i < nL) (hl : (i, Value.int x) :: lv.filter (fun q => !(q.1 == i) && !(q.1 + 1 == i && q.2.category == 2)) = lv') (hdg : At cc pc (.istore i) 2 nx) (kk : V X z w nx lv' σ st) : V X z w pc lv σ (.int x :: st) := by
  obtain ⟨d, rfl⟩ := hdg
  intro H locs ls hW hls
  exact lv_istore hX.1 hX.2.1 d hls (by rw [hX.2.2.1]; exact hn) hl (fun ls' hl' => kk H locs ls' hW hl')
theorem v_astore_n (hX : okX X cc nL own ret) {q : Fin 4} {i : Nat} (hi : q.val = i) {x : Nat} (hn : i < nL) (hl : (i, Value.ref x) :: lv.filter (fun q => !(q.1 == i) && !(q.1 + 1 == i && q.2.category == 2)) = lv') (hdg : At cc pc (.astore_n q) 1 nx) (kk : V X z w nx lv' σ st) : V X z w pc lv σ (.ref x :: st) := by
  obtain ⟨d, rfl⟩ := hdg
  intro H locs ls hW hls
  exact lv_astore_n hX.1 hX.2.1 d hi hls (by rw [hX.2.2.1]; exact hn) hl (fun ls' hl' => kk H locs ls' hW hl')
theorem v_astore (hX : okX X cc nL own ret) {i : Nat} {x : Nat} (hn : i < nL) (hl : (i, Value.ref x) :: lv.filter (fun q => !(q.1 == i) && !(q.1 + 1 == i && q.2.category == 2)) = lv') (hdg : At cc pc (.astore i) 2 nx) (kk : V X z w nx lv' σ st) : V X z w pc lv σ (.ref x :: st) := by
  obtain ⟨d, rfl⟩ := hdg
  intro H locs ls hW hls
  exact lv_astore hX.1 hX.2.1 d hls (by rw [hX.2.2.1]; exact hn) hl (fun ls' hl' => kk H locs ls' hW hl')
theorem v_lstore_n (hX : okX X cc nL own ret) {q : Fin 4} {i : Nat} (hi : q.val = i) {x : Int64} (hn : i + 1 < nL) (hl : (i, Value.long x) :: lv.filter (fun q => !(q.1 == i) && (!(q.1 == i + 1) && !(q.1 + 1 == i && q.2.category == 2))) = lv') (hdg : At cc pc (.lstore_n q) 1 nx) (kk : V X z w nx lv' σ st) : V X z w pc lv σ (.long x :: st) := by
  obtain ⟨d, rfl⟩ := hdg
  intro H locs ls hW hls
  exact lv_lstore_n hX.1 hX.2.1 d hi hls (by rw [hX.2.2.1]; exact hn) hl (fun ls' hl' => kk H locs ls' hW hl')
theorem v_lstore (hX : okX X cc nL own ret) {i : Nat} {x : Int64} (hn : i + 1 < nL) (hl : (i, Value.long x) :: lv.filter (fun q => !(q.1 == i) && (!(q.1 == i + 1) && !(q.1 + 1 == i && q.2.category == 2))) = lv') (hdg : At cc pc (.lstore i) 2 nx) (kk : V X z w nx lv' σ st) : V X z w pc lv σ (.long x :: st) := by
  obtain ⟨d, rfl⟩ := hdg
  intro H locs ls hW hls
  exact lv_lstore hX.1 hX.2.1 d hls (by rw [hX.2.2.1]; exact hn) hl (fun ls' hl' => kk H locs ls' hW hl')
theorem v_iinc (hX : okX X cc nL own ret) {i : Nat} {n : Int} {x v : Int32} (k : Nat) (hk : lv[k]? = some (i, .int x)) (hv : x + Int32.ofInt n = v) (hn : i < nL) (hl : (i, Value.int v) :: lv.filter (fun q => !(q.1 == i) && !(q.1 + 1 == i && q.2.category == 2)) = lv') (hdg : At cc pc (.iinc i n) 3 nx) (kk : V X z w nx lv' σ st) : V X z w pc lv σ st := by
  obtain ⟨d, rfl⟩ := hdg
  intro H locs ls hW hls
  exact lv_iinc hX.1 hX.2.1 d hls hk hv (by rw [hX.2.2.1]; exact hn) hl (fun ls' hl' => kk H locs ls' hW hl')
theorem v_iconst (hX : okX X cc nL own ret) {n : Int} (hdg : At cc pc (.iconst n) 1 nx) (kk : V X z w nx lv σ (.int (iI n) :: st)) : V X z w pc lv σ (st) := by
  obtain ⟨d, rfl⟩ := hdg
  intro H locs ls hW hl
  exact lv_iconst hX.1 hX.2.1 d rfl (kk H locs ls hW hl)
theorem v_bipush (hX : okX X cc nL own ret) {n : Int} (hv : (Int8.ofInt n).toInt32 = iI n) (hdg : At cc pc (.bipush n) 2 nx) (kk : V X z w nx lv σ (.int (iI n) :: st)) : V X z w pc lv σ (st) := by
  obtain ⟨d, rfl⟩ := hdg
  intro H locs ls hW hl
  exact lv_bipush hX.1 hX.2.1 d hv (kk H locs ls hW hl)
theorem v_sipush (hX : okX X cc nL own ret) {n : Int} (hv : (Int16.ofInt n).toInt32 = iI n) (hdg : At cc pc (.sipush n) 3 nx) (kk : V X z w nx lv σ (.int (iI n) :: st)) : V X z w pc lv σ (st) := by
  obtain ⟨d, rfl⟩ := hdg
  intro H locs ls hW hl
  exact lv_sipush hX.1 hX.2.1 d hv (kk H locs ls hW hl)
theorem v_lconst (hX : okX X cc nL own ret) {n : Fin 2} (hdg : At cc pc (.lconst n) 1 nx) (kk : V X z w nx lv σ (.long (jI ((n.val : Nat) : Int)) :: st)) : V X z w pc lv σ (st) := by
  obtain ⟨d, rfl⟩ := hdg
  intro H locs ls hW hl
  exact lv_lconst hX.1 hX.2.1 d (jI_nat n.val).symm (kk H locs ls hW hl)
theorem v_ldc (hX : okX X cc nL own ret) {k : Nat} {v : Int32} {r : Int} (hw : Cond.constant own k v ∈ BW) (hv : v = iI r) (hdg : At cc pc (.ldc k) 2 nx) (kk : V X z w nx lv σ (.int (iI r) :: st)) : V X z w pc lv σ (st) := by
  obtain ⟨d, rfl⟩ := hdg
  intro H locs ls hW hl
  exact lv_ldc hX.1 hX.2.1 hX.2.2.2.2.1 (hX.2.2.2.2.2.2 _ hw) d (by rw [hv]; exact kk H locs ls hW hl)
theorem v_ldc2 (hX : okX X cc nL own ret) {k : Nat} {v : Int64} {r : Int} (hw : Cond.constantLong own k v ∈ BW) (hv : v = jI r) (hdg : At cc pc (.ldc2_w k) 3 nx) (kk : V X z w nx lv σ (.long (jI r) :: st)) : V X z w pc lv σ (st) := by
  obtain ⟨d, rfl⟩ := hdg
  intro H locs ls hW hl
  exact lv_ldc2 hX.1 hX.2.1 hX.2.2.2.2.1 (hX.2.2.2.2.2.2 _ hw) d (by rw [hv]; exact kk H locs ls hW hl)
theorem v_iadd (hX : okX X cc nL own ret) {x y r : Int32} (h : x + y = r) (hdg : At cc pc .iadd 1 nx) (kk : V X z w nx lv σ (.int r :: st)) : V X z w pc lv σ (.int y :: .int x :: st) := by
  obtain ⟨d, rfl⟩ := hdg
  intro H locs ls hW hl
  exact lv_iadd hX.1 hX.2.1 d (by rw [h]; exact kk H locs ls hW hl)
theorem v_isub (hX : okX X cc nL own ret) {x y r : Int32} (h : x - y = r) (hdg : At cc pc .isub 1 nx) (kk : V X z w nx lv σ (.int r :: st)) : V X z w pc lv σ (.int y :: .int x :: st) := by
  obtain ⟨d, rfl⟩ := hdg
  intro H locs ls hW hl
  exact lv_isub hX.1 hX.2.1 d (by rw [h]; exact kk H locs ls hW hl)
theorem v_imul (hX : okX X cc nL own ret) {x y r : Int32} (h : x * y = r) (hdg : At cc pc .imul 1 nx) (kk : V X z w nx lv σ (.int r :: st)) : V X z w pc lv σ (.int y :: .int x :: st) := by
  obtain ⟨d, rfl⟩ := hdg
  intro H locs ls hW hl
  exact lv_imul hX.1 hX.2.1 d (by rw [h]; exact kk H locs ls hW hl)
theorem v_iand (hX : okX X cc nL own ret) {x y r : Int32} (h : x &&& y = r) (hdg : At cc pc .iand 1 nx) (kk : V X z w nx lv σ (.int r :: st)) : V X z w pc lv σ (.int y :: .int x :: st) := by
  obtain ⟨d, rfl⟩ := hdg
  intro H locs ls hW hl
  exact lv_iand hX.1 hX.2.1 d (by rw [h]; exact kk H locs ls hW hl)
theorem v_ior (hX : okX X cc nL own ret) {x y r : Int32} (h : x ||| y = r) (hdg : At cc pc .ior 1 nx) (kk : V X z w nx lv σ (.int r :: st)) : V X z w pc lv σ (.int y :: .int x :: st) := by
  obtain ⟨d, rfl⟩ := hdg
  intro H locs ls hW hl
  exact lv_ior hX.1 hX.2.1 d (by rw [h]; exact kk H locs ls hW hl)
theorem v_ixor (hX : okX X cc nL own ret) {x y r : Int32} (h : x ^^^ y = r) (hdg : At cc pc .ixor 1 nx) (kk : V X z w nx lv σ (.int r :: st)) : V X z w pc lv σ (.int y :: .int x :: st) := by
  obtain ⟨d, rfl⟩ := hdg
  intro H locs ls hW hl
  exact lv_ixor hX.1 hX.2.1 d (by rw [h]; exact kk H locs ls hW hl)
theorem v_ishl (hX : okX X cc nL own ret) {x y r : Int32} (h : x <<< (y &&& 31) = r) (hdg : At cc pc .ishl 1 nx) (kk : V X z w nx lv σ (.int r :: st)) : V X z w pc lv σ (.int y :: .int x :: st) := by
  obtain ⟨d, rfl⟩ := hdg
  intro H locs ls hW hl
  exact lv_ishl hX.1 hX.2.1 d (by rw [h]; exact kk H locs ls hW hl)
theorem v_ishr (hX : okX X cc nL own ret) {x y r : Int32} (h : x >>> (y &&& 31) = r) (hdg : At cc pc .ishr 1 nx) (kk : V X z w nx lv σ (.int r :: st)) : V X z w pc lv σ (.int y :: .int x :: st) := by
  obtain ⟨d, rfl⟩ := hdg
  intro H locs ls hW hl
  exact lv_ishr hX.1 hX.2.1 d (by rw [h]; exact kk H locs ls hW hl)
theorem v_iushr (hX : okX X cc nL own ret) {x y r : Int32} (h : (x.toUInt32 >>> (y.toUInt32 &&& Int32.toUInt32 31)).toInt32 = r) (hdg : At cc pc .iushr 1 nx) (kk : V X z w nx lv σ (.int r :: st)) : V X z w pc lv σ (.int y :: .int x :: st) := by
  obtain ⟨d, rfl⟩ := hdg
  intro H locs ls hW hl
  exact lv_iushr hX.1 hX.2.1 d h (kk H locs ls hW hl)
theorem v_idiv (hX : okX X cc nL own ret) {x y r : Int32} (hne : ¬ y = 0) (h : x / y = r) (hdg : At cc pc .idiv 1 nx) (kk : V X z w nx lv σ (.int r :: st)) : V X z w pc lv σ (.int y :: .int x :: st) := by
  obtain ⟨d, rfl⟩ := hdg
  intro H locs ls hW hl
  exact lv_idiv hX.1 hX.2.1 d hne (by rw [h]; exact kk H locs ls hW hl)
theorem v_irem (hX : okX X cc nL own ret) {x y r : Int32} (hne : ¬ y = 0) (h : x - x / y * y = r) (hdg : At cc pc .irem 1 nx) (kk : V X z w nx lv σ (.int r :: st)) : V X z w pc lv σ (.int y :: .int x :: st) := by
  obtain ⟨d, rfl⟩ := hdg
  intro H locs ls hW hl
  exact lv_irem hX.1 hX.2.1 d hne (by rw [h]; exact kk H locs ls hW hl)
theorem v_ladd (hX : okX X cc nL own ret) {x y r : Int64} (h : x + y = r) (hdg : At cc pc .ladd 1 nx) (kk : V X z w nx lv σ (.long r :: st)) : V X z w pc lv σ (.long y :: .long x :: st) := by
  obtain ⟨d, rfl⟩ := hdg
  intro H locs ls hW hl
  exact lv_ladd hX.1 hX.2.1 d (by rw [h]; exact kk H locs ls hW hl)
theorem v_lsub (hX : okX X cc nL own ret) {x y r : Int64} (h : x - y = r) (hdg : At cc pc .lsub 1 nx) (kk : V X z w nx lv σ (.long r :: st)) : V X z w pc lv σ (.long y :: .long x :: st) := by
  obtain ⟨d, rfl⟩ := hdg
  intro H locs ls hW hl
  exact lv_lsub hX.1 hX.2.1 d (by rw [h]; exact kk H locs ls hW hl)
theorem v_lmul (hX : okX X cc nL own ret) {x y r : Int64} (h : x * y = r) (hdg : At cc pc .lmul 1 nx) (kk : V X z w nx lv σ (.long r :: st)) : V X z w pc lv σ (.long y :: .long x :: st) := by
  obtain ⟨d, rfl⟩ := hdg
  intro H locs ls hW hl
  exact lv_lmul hX.1 hX.2.1 d (by rw [h]; exact kk H locs ls hW hl)
theorem v_land (hX : okX X cc nL own ret) {x y r : Int64} (h : x &&& y = r) (hdg : At cc pc .land 1 nx) (kk : V X z w nx lv σ (.long r :: st)) : V X z w pc lv σ (.long y :: .long x :: st) := by
  obtain ⟨d, rfl⟩ := hdg
  intro H locs ls hW hl
  exact lv_land hX.1 hX.2.1 d (by rw [h]; exact kk H locs ls hW hl)
theorem v_lor (hX : okX X cc nL own ret) {x y r : Int64} (h : x ||| y = r) (hdg : At cc pc .lor 1 nx) (kk : V X z w nx lv σ (.long r :: st)) : V X z w pc lv σ (.long y :: .long x :: st) := by
  obtain ⟨d, rfl⟩ := hdg
  intro H locs ls hW hl
  exact lv_lor hX.1 hX.2.1 d (by rw [h]; exact kk H locs ls hW hl)
theorem v_ldiv (hX : okX X cc nL own ret) {x y r : Int64} (hne : ¬ y = 0) (h : x / y = r) (hdg : At cc pc .ldiv 1 nx) (kk : V X z w nx lv σ (.long r :: st)) : V X z w pc lv σ (.long y :: .long x :: st) := by
  obtain ⟨d, rfl⟩ := hdg
  intro H locs ls hW hl
  exact lv_ldiv hX.1 hX.2.1 d hne (by rw [h]; exact kk H locs ls hW hl)
theorem v_lrem (hX : okX X cc nL own ret) {x y r : Int64} (hne : ¬ y = 0) (h : x - x / y * y = r) (hdg : At cc pc .lrem 1 nx) (kk : V X z w nx lv σ (.long r :: st)) : V X z w pc lv σ (.long y :: .long x :: st) := by
  obtain ⟨d, rfl⟩ := hdg
  intro H locs ls hW hl
  exact lv_lrem hX.1 hX.2.1 d hne (by rw [h]; exact kk H locs ls hW hl)
theorem v_lshl (hX : okX X cc nL own ret) {x r : Int64} {y : Int32} (h : x <<< (y.toInt64 &&& 63) = r) (hdg : At cc pc .lshl 1 nx) (kk : V X z w nx lv σ (.long r :: st)) : V X z w pc lv σ (.int y :: .long x :: st) := by
  obtain ⟨d, rfl⟩ := hdg
  intro H locs ls hW hl
  exact lv_lshl hX.1 hX.2.1 d h (kk H locs ls hW hl)
theorem v_lshr (hX : okX X cc nL own ret) {x r : Int64} {y : Int32} (h : x >>> (y.toInt64 &&& 63) = r) (hdg : At cc pc .lshr 1 nx) (kk : V X z w nx lv σ (.long r :: st)) : V X z w pc lv σ (.int y :: .long x :: st) := by
  obtain ⟨d, rfl⟩ := hdg
  intro H locs ls hW hl
  exact lv_lshr hX.1 hX.2.1 d h (kk H locs ls hW hl)
theorem v_lushr (hX : okX X cc nL own ret) {x r : Int64} {y : Int32} (h : (x.toUInt64 >>> (y.toInt64.toUInt64 &&& Int64.toUInt64 63)).toInt64 = r) (hdg : At cc pc .lushr 1 nx) (kk : V X z w nx lv σ (.long r :: st)) : V X z w pc lv σ (.int y :: .long x :: st) := by
  obtain ⟨d, rfl⟩ := hdg
  intro H locs ls hW hl
  exact lv_lushr hX.1 hX.2.1 d h (kk H locs ls hW hl)
theorem v_i2l (hX : okX X cc nL own ret) {x : Int32} {r : Int64} (h : x.toInt64 = r) (hdg : At cc pc .i2l 1 nx) (kk : V X z w nx lv σ (.long r :: st)) : V X z w pc lv σ (.int x :: st) := by
  obtain ⟨d, rfl⟩ := hdg
  intro H locs ls hW hl
  exact lv_i2l hX.1 hX.2.1 d h (kk H locs ls hW hl)
theorem v_l2i (hX : okX X cc nL own ret) {x : Int64} {r : Int32} (h : x.toInt32 = r) (hdg : At cc pc .l2i 1 nx) (kk : V X z w nx lv σ (.int r :: st)) : V X z w pc lv σ (.long x :: st) := by
  obtain ⟨d, rfl⟩ := hdg
  intro H locs ls hW hl
  exact lv_l2i hX.1 hX.2.1 d h (kk H locs ls hW hl)
theorem v_i2b (hX : okX X cc nL own ret) {x r : Int32} (h : x.toInt8.toInt32 = r) (hdg : At cc pc .i2b 1 nx) (kk : V X z w nx lv σ (.int r :: st)) : V X z w pc lv σ (.int x :: st) := by
  obtain ⟨d, rfl⟩ := hdg
  intro H locs ls hW hl
  exact lv_i2b hX.1 hX.2.1 d h (kk H locs ls hW hl)
theorem v_dup (hX : okX X cc nL own ret) {v : Value} (h : v.category = 1) (hdg : At cc pc .dup 1 nx) (kk : V X z w nx lv σ (v :: v :: st)) : V X z w pc lv σ (v :: st) := by
  obtain ⟨d, rfl⟩ := hdg
  intro H locs ls hW hl
  exact lv_dup hX.1 hX.2.1 d h (kk H locs ls hW hl)
theorem v_pop (hX : okX X cc nL own ret) {v : Value} (h : v.category = 1) (hdg : At cc pc .pop 1 nx) (kk : V X z w nx lv σ (st)) : V X z w pc lv σ (v :: st) := by
  obtain ⟨d, rfl⟩ := hdg
  intro H locs ls hW hl
  exact lv_pop hX.1 hX.2.1 d h (kk H locs ls hW hl)
theorem v_dup2 (hX : okX X cc nL own ret) {v u : Value} (h : v.category = 1) (h2 : u.category = 1) (hdg : At cc pc .dup2 1 nx) (kk : V X z w nx lv σ (v :: u :: v :: u :: st)) : V X z w pc lv σ (v :: u :: st) := by
  obtain ⟨d, rfl⟩ := hdg
  intro H locs ls hW hl
  exact lv_dup2_11 hX.1 hX.2.1 d h h2 (kk H locs ls hW hl)
theorem v_goto (hX : okX X cc nL own ret) {off : Int} {tgt : Nat} (hdg : At cc pc (.goto off) 3 nx) (ht : (pc : Int) + off = (tgt : Int)) (kk : V X z w tgt lv σ st) : V X z w pc lv σ st := by
  intro H locs ls hW hl
  exact lv_goto hX.1 hX.2.1 hdg.1 ht (kk H locs ls hW hl)
theorem v_icmp_eq (hX : okX X cc nL own ret) {a b : Int} {off : Int} {tgt : Nat} (ha : rI a) (hb : rI b) (hdg : At cc pc (.if_icmp .eq off) 3 nx) (ht : (pc : Int) + off = (tgt : Int)) (kt : a = b → V X z w tgt lv σ st) (kf : a ≠ b → V X z w nx lv σ st) : V X z w pc lv σ (.int (iI b) :: .int (iI a) :: st) := by
  obtain ⟨d, rfl⟩ := hdg
  intro H locs ls hW hl
  exact lv_icmp_eq hX.1 hX.2.1 d ht (fun h => kt ((iI_eq ha hb).mp h) H locs ls hW hl) (fun h => kf (fun e => h ((iI_eq ha hb).mpr e)) H locs ls hW hl)
theorem v_icmp_ne (hX : okX X cc nL own ret) {a b : Int} {off : Int} {tgt : Nat} (ha : rI a) (hb : rI b) (hdg : At cc pc (.if_icmp .ne off) 3 nx) (ht : (pc : Int) + off = (tgt : Int)) (kt : a ≠ b → V X z w tgt lv σ st) (kf : a = b → V X z w nx lv σ st) : V X z w pc lv σ (.int (iI b) :: .int (iI a) :: st) := by
  obtain ⟨d, rfl⟩ := hdg
  intro H locs ls hW hl
  exact lv_icmp_ne hX.1 hX.2.1 d ht (fun h => kt (fun e => h ((iI_eq ha hb).mpr e)) H locs ls hW hl) (fun h => kf ((iI_eq ha hb).mp h) H locs ls hW hl)
theorem v_icmp_lt (hX : okX X cc nL own ret) {a b : Int} {off : Int} {tgt : Nat} (ha : rI a) (hb : rI b) (hdg : At cc pc (.if_icmp .lt off) 3 nx) (ht : (pc : Int) + off = (tgt : Int)) (kt : a < b → V X z w tgt lv σ st) (kf : b ≤ a → V X z w nx lv σ st) : V X z w pc lv σ (.int (iI b) :: .int (iI a) :: st) := by
  obtain ⟨d, rfl⟩ := hdg
  intro H locs ls hW hl
  exact lv_icmp_lt hX.1 hX.2.1 d ht (fun h => kt ((iI_lt ha hb).mp h) H locs ls hW hl) (fun h => kf (Int.not_lt.mp (fun e => h ((iI_lt ha hb).mpr e))) H locs ls hW hl)
theorem v_icmp_ge (hX : okX X cc nL own ret) {a b : Int} {off : Int} {tgt : Nat} (ha : rI a) (hb : rI b) (hdg : At cc pc (.if_icmp .ge off) 3 nx) (ht : (pc : Int) + off = (tgt : Int)) (kt : b ≤ a → V X z w tgt lv σ st) (kf : a < b → V X z w nx lv σ st) : V X z w pc lv σ (.int (iI b) :: .int (iI a) :: st) := by
  obtain ⟨d, rfl⟩ := hdg
  intro H locs ls hW hl
  exact lv_icmp_ge hX.1 hX.2.1 d ht (fun h => kt ((iI_le hb ha).mp h) H locs ls hW hl) (fun h => kf (Int.not_le.mp (fun e => h ((iI_le hb ha).mpr e))) H locs ls hW hl)
theorem v_icmp_gt (hX : okX X cc nL own ret) {a b : Int} {off : Int} {tgt : Nat} (ha : rI a) (hb : rI b) (hdg : At cc pc (.if_icmp .gt off) 3 nx) (ht : (pc : Int) + off = (tgt : Int)) (kt : b < a → V X z w tgt lv σ st) (kf : a ≤ b → V X z w nx lv σ st) : V X z w pc lv σ (.int (iI b) :: .int (iI a) :: st) := by
  obtain ⟨d, rfl⟩ := hdg
  intro H locs ls hW hl
  exact lv_icmp_gt hX.1 hX.2.1 d ht (fun h => kt ((iI_lt hb ha).mp h) H locs ls hW hl) (fun h => kf (Int.not_lt.mp (fun e => h ((iI_lt hb ha).mpr e))) H locs ls hW hl)
theorem v_icmp_le (hX : okX X cc nL own ret) {a b : Int} {off : Int} {tgt : Nat} (ha : rI a) (hb : rI b) (hdg : At cc pc (.if_icmp .le off) 3 nx) (ht : (pc : Int) + off = (tgt : Int)) (kt : a ≤ b → V X z w tgt lv σ st) (kf : b < a → V X z w nx lv σ st) : V X z w pc lv σ (.int (iI b) :: .int (iI a) :: st) := by
  obtain ⟨d, rfl⟩ := hdg
  intro H locs ls hW hl
  exact lv_icmp_le hX.1 hX.2.1 d ht (fun h => kt ((iI_le ha hb).mp h) H locs ls hW hl) (fun h => kf (Int.not_le.mp (fun e => h ((iI_le ha hb).mpr e))) H locs ls hW hl)
theorem v_if_eq (hX : okX X cc nL own ret) {a : Int} {off : Int} {tgt : Nat} (ha : rI a) (hdg : At cc pc (.ifCond .eq off) 3 nx) (ht : (pc : Int) + off = (tgt : Int)) (kt : a = 0 → V X z w tgt lv σ st) (kf : a ≠ 0 → V X z w nx lv σ st) : V X z w pc lv σ (.int (iI a) :: st) := by
  obtain ⟨d, rfl⟩ := hdg
  have hb : rI 0 := ⟨by omega, by omega⟩
  intro H locs ls hW hl
  exact lv_if_eq hX.1 hX.2.1 d ht (fun h => kt ((iI_eq ha hb).mp h) H locs ls hW hl) (fun h => kf (fun e => h ((iI_eq ha hb).mpr e)) H locs ls hW hl)
theorem v_if_ne (hX : okX X cc nL own ret) {a : Int} {off : Int} {tgt : Nat} (ha : rI a) (hdg : At cc pc (.ifCond .ne off) 3 nx) (ht : (pc : Int) + off = (tgt : Int)) (kt : a ≠ 0 → V X z w tgt lv σ st) (kf : a = 0 → V X z w nx lv σ st) : V X z w pc lv σ (.int (iI a) :: st) := by
  obtain ⟨d, rfl⟩ := hdg
  have hb : rI 0 := ⟨by omega, by omega⟩
  intro H locs ls hW hl
  exact lv_if_ne hX.1 hX.2.1 d ht (fun h => kt (fun e => h ((iI_eq ha hb).mpr e)) H locs ls hW hl) (fun h => kf ((iI_eq ha hb).mp h) H locs ls hW hl)
theorem v_if_lt (hX : okX X cc nL own ret) {a : Int} {off : Int} {tgt : Nat} (ha : rI a) (hdg : At cc pc (.ifCond .lt off) 3 nx) (ht : (pc : Int) + off = (tgt : Int)) (kt : a < 0 → V X z w tgt lv σ st) (kf : 0 ≤ a → V X z w nx lv σ st) : V X z w pc lv σ (.int (iI a) :: st) := by
  obtain ⟨d, rfl⟩ := hdg
  have hb : rI 0 := ⟨by omega, by omega⟩
  intro H locs ls hW hl
  exact lv_if_lt hX.1 hX.2.1 d ht (fun h => kt ((iI_lt ha hb).mp h) H locs ls hW hl) (fun h => kf (Int.not_lt.mp (fun e => h ((iI_lt ha hb).mpr e))) H locs ls hW hl)
theorem v_if_ge (hX : okX X cc nL own ret) {a : Int} {off : Int} {tgt : Nat} (ha : rI a) (hdg : At cc pc (.ifCond .ge off) 3 nx) (ht : (pc : Int) + off = (tgt : Int)) (kt : 0 ≤ a → V X z w tgt lv σ st) (kf : a < 0 → V X z w nx lv σ st) : V X z w pc lv σ (.int (iI a) :: st) := by
  obtain ⟨d, rfl⟩ := hdg
  have hb : rI 0 := ⟨by omega, by omega⟩
  intro H locs ls hW hl
  exact lv_if_ge hX.1 hX.2.1 d ht (fun h => kt ((iI_le hb ha).mp h) H locs ls hW hl) (fun h => kf (Int.not_le.mp (fun e => h ((iI_le hb ha).mpr e))) H locs ls hW hl)
theorem v_if_gt (hX : okX X cc nL own ret) {a : Int} {off : Int} {tgt : Nat} (ha : rI a) (hdg : At cc pc (.ifCond .gt off) 3 nx) (ht : (pc : Int) + off = (tgt : Int)) (kt : 0 < a → V X z w tgt lv σ st) (kf : a ≤ 0 → V X z w nx lv σ st) : V X z w pc lv σ (.int (iI a) :: st) := by
  obtain ⟨d, rfl⟩ := hdg
  have hb : rI 0 := ⟨by omega, by omega⟩
  intro H locs ls hW hl
  exact lv_if_gt hX.1 hX.2.1 d ht (fun h => kt ((iI_lt hb ha).mp h) H locs ls hW hl) (fun h => kf (Int.not_lt.mp (fun e => h ((iI_lt hb ha).mpr e))) H locs ls hW hl)
theorem v_if_le (hX : okX X cc nL own ret) {a : Int} {off : Int} {tgt : Nat} (ha : rI a) (hdg : At cc pc (.ifCond .le off) 3 nx) (ht : (pc : Int) + off = (tgt : Int)) (kt : a ≤ 0 → V X z w tgt lv σ st) (kf : 0 < a → V X z w nx lv σ st) : V X z w pc lv σ (.int (iI a) :: st) := by
  obtain ⟨d, rfl⟩ := hdg
  have hb : rI 0 := ⟨by omega, by omega⟩
  intro H locs ls hW hl
  exact lv_if_le hX.1 hX.2.1 d ht (fun h => kt ((iI_le ha hb).mp h) H locs ls hW hl) (fun h => kf (Int.not_le.mp (fun e => h ((iI_le ha hb).mpr e))) H locs ls hW hl)
theorem v_lcmp (hX : okX X cc nL own ret) {x y : Int64} (hdg : At cc pc .lcmp 1 nx) (kk : V X z w nx lv σ (.int (lg_cmp x y) :: st)) : V X z w pc lv σ (.long y :: .long x :: st) := by
  obtain ⟨d, rfl⟩ := hdg
  intro H locs ls hW hl
  exact W.lcmp hX.1 hX.2.1 d (kk H locs ls hW hl)
theorem lc_t {a b : Int} (ha : rJ a) (hb : rJ b) : lg_cmp (jI a) (jI b) = iI (if a < b then -1 else if b < a then 1 else 0) := by
  rw [iI_lcmp ha hb]
  split <;> (try split) <;> rfl
theorem v_lcmp_eq (hX : okX X cc nL own ret) {a b : Int} {off : Int} {tgt p2 : Nat} (ha : rJ a) (hb : rJ b) (hdg : At cc pc .lcmp 1 p2) (hd2 : At cc p2 (.ifCond .eq off) 3 nx) (ht : (p2 : Int) + off = (tgt : Int)) (kt : a = b → V X z w tgt lv σ st) (kf : a ≠ b → V X z w nx lv σ st) : V X z w pc lv σ (.long (jI b) :: .long (jI a) :: st) := by
  refine v_lcmp hX hdg ?_
  rw [lc_t ha hb]
  refine v_if_eq hX ?_ hd2 ht (fun h => kt ?_) (fun h => kf ?_)
  · split <;> (try split) <;> exact ⟨by omega, by omega⟩
  · revert h; split <;> (try split) <;> omega
  · revert h; split <;> (try split) <;> omega
theorem v_lcmp_ne (hX : okX X cc nL own ret) {a b : Int} {off : Int} {tgt p2 : Nat} (ha : rJ a) (hb : rJ b) (hdg : At cc pc .lcmp 1 p2) (hd2 : At cc p2 (.ifCond .ne off) 3 nx) (ht : (p2 : Int) + off = (tgt : Int)) (kt : a ≠ b → V X z w tgt lv σ st) (kf : a = b → V X z w nx lv σ st) : V X z w pc lv σ (.long (jI b) :: .long (jI a) :: st) := by
  refine v_lcmp hX hdg ?_
  rw [lc_t ha hb]
  refine v_if_ne hX ?_ hd2 ht (fun h => kt ?_) (fun h => kf ?_)
  · split <;> (try split) <;> exact ⟨by omega, by omega⟩
  · revert h; split <;> (try split) <;> omega
  · revert h; split <;> (try split) <;> omega
theorem v_lcmp_lt (hX : okX X cc nL own ret) {a b : Int} {off : Int} {tgt p2 : Nat} (ha : rJ a) (hb : rJ b) (hdg : At cc pc .lcmp 1 p2) (hd2 : At cc p2 (.ifCond .lt off) 3 nx) (ht : (p2 : Int) + off = (tgt : Int)) (kt : a < b → V X z w tgt lv σ st) (kf : b ≤ a → V X z w nx lv σ st) : V X z w pc lv σ (.long (jI b) :: .long (jI a) :: st) := by
  refine v_lcmp hX hdg ?_
  rw [lc_t ha hb]
  refine v_if_lt hX ?_ hd2 ht (fun h => kt ?_) (fun h => kf ?_)
  · split <;> (try split) <;> exact ⟨by omega, by omega⟩
  · revert h; split <;> (try split) <;> omega
  · revert h; split <;> (try split) <;> omega
theorem v_lcmp_ge (hX : okX X cc nL own ret) {a b : Int} {off : Int} {tgt p2 : Nat} (ha : rJ a) (hb : rJ b) (hdg : At cc pc .lcmp 1 p2) (hd2 : At cc p2 (.ifCond .ge off) 3 nx) (ht : (p2 : Int) + off = (tgt : Int)) (kt : b ≤ a → V X z w tgt lv σ st) (kf : a < b → V X z w nx lv σ st) : V X z w pc lv σ (.long (jI b) :: .long (jI a) :: st) := by
  refine v_lcmp hX hdg ?_
  rw [lc_t ha hb]
  refine v_if_ge hX ?_ hd2 ht (fun h => kt ?_) (fun h => kf ?_)
  · split <;> (try split) <;> exact ⟨by omega, by omega⟩
  · revert h; split <;> (try split) <;> omega
  · revert h; split <;> (try split) <;> omega
theorem v_lcmp_gt (hX : okX X cc nL own ret) {a b : Int} {off : Int} {tgt p2 : Nat} (ha : rJ a) (hb : rJ b) (hdg : At cc pc .lcmp 1 p2) (hd2 : At cc p2 (.ifCond .gt off) 3 nx) (ht : (p2 : Int) + off = (tgt : Int)) (kt : b < a → V X z w tgt lv σ st) (kf : a ≤ b → V X z w nx lv σ st) : V X z w pc lv σ (.long (jI b) :: .long (jI a) :: st) := by
  refine v_lcmp hX hdg ?_
  rw [lc_t ha hb]
  refine v_if_gt hX ?_ hd2 ht (fun h => kt ?_) (fun h => kf ?_)
  · split <;> (try split) <;> exact ⟨by omega, by omega⟩
  · revert h; split <;> (try split) <;> omega
  · revert h; split <;> (try split) <;> omega
theorem v_lcmp_le (hX : okX X cc nL own ret) {a b : Int} {off : Int} {tgt p2 : Nat} (ha : rJ a) (hb : rJ b) (hdg : At cc pc .lcmp 1 p2) (hd2 : At cc p2 (.ifCond .le off) 3 nx) (ht : (p2 : Int) + off = (tgt : Int)) (kt : a ≤ b → V X z w tgt lv σ st) (kf : b < a → V X z w nx lv σ st) : V X z w pc lv σ (.long (jI b) :: .long (jI a) :: st) := by
  refine v_lcmp hX hdg ?_
  rw [lc_t ha hb]
  refine v_if_le hX ?_ hd2 ht (fun h => kt ?_) (fun h => kf ?_)
  · split <;> (try split) <;> exact ⟨by omega, by omega⟩
  · revert h; split <;> (try split) <;> omega
  · revert h; split <;> (try split) <;> omega
theorem v_iret (hX : okX X cc nL own (some .int)) {x : Int32} (hdg : At cc pc .ireturn 1 nx) (hr : RT X z w (some (.int x)) σ) : V X z w pc lv σ [.int x] := by
  intro H locs ls hW hl
  obtain ⟨Qc, free, h1, h2⟩ := hr
  obtain ⟨h3, h4⟩ := h2 H locs hW
  exact h1 H locs _ (W.iret hX.1 hX.2.1 hX.2.2.2.1 h3 h4 hdg.1 hX.2.2.2.2.2.1)
theorem v_zret (hX : okX X cc nL own (some .boolean)) {x : Int32} (hx : narrow .boolean (.int x) = .int x) (hdg : At cc pc .ireturn 1 nx) (hr : RT X z w (some (.int x)) σ) : V X z w pc lv σ [.int x] := by
  intro H locs ls hW hl
  obtain ⟨Qc, free, h1, h2⟩ := hr
  obtain ⟨h3, h4⟩ := h2 H locs hW
  exact h1 H locs _ (W.zret hX.1 hX.2.1 hX.2.2.2.1 hx h3 h4 hdg.1 hX.2.2.2.2.2.1)
theorem v_lret (hX : okX X cc nL own (some .long)) {x : Int64} (hdg : At cc pc .lreturn 1 nx) (hr : RT X z w (some (.long x)) σ) : V X z w pc lv σ [.long x] := by
  intro H locs ls hW hl
  obtain ⟨Qc, free, h1, h2⟩ := hr
  obtain ⟨h3, h4⟩ := h2 H locs hW
  exact h1 H locs _ (W.lret hX.1 hX.2.1 hX.2.2.2.1 h3 h4 hdg.1 hX.2.2.2.2.2.1)
theorem v_aret {C : String} (hX : okX X cc nL own (some (.object C))) {x : Nat} (hdg : At cc pc .areturn 1 nx) (hr : RT X z w (some (.ref x)) σ) : V X z w pc lv σ [.ref x] := by
  intro H locs ls hW hl
  obtain ⟨Qc, free, h1, h2⟩ := hr
  obtain ⟨h3, h4⟩ := h2 H locs hW
  exact h1 H locs _ (W.aret hX.1 hX.2.1 hX.2.2.2.1 (Or.inl ⟨_, rfl⟩) (Or.inr ⟨_, rfl⟩) h3 h4 hdg.1 hX.2.2.2.2.2.1)
theorem v_vret (hX : okX X cc nL own none) (hdg : At cc pc .return_ 1 nx) (hr : RT X z w none σ) : V X z w pc lv σ [] := by
  intro H locs ls hW hl
  obtain ⟨Qc, free, h1, h2⟩ := hr
  obtain ⟨h3, h4⟩ := h2 H locs hW
  exact h1 H locs _ (W.vret hX.1 hX.2.1 hX.2.2.2.1 h3 h4 hdg.1 hX.2.2.2.2.2.1)
/-- the same store, said otherwise; the same locals, fewer -/
theorem v_st {σ' : St} (e : σ = σ') (kk : V X z w pc lv σ' st) : V X z w pc lv σ st := e ▸ kk
theorem v_sub (ks : List Nat) (h : lv_pick lv ks = lv') (kk : V X z w pc lv' σ st) : V X z w pc lv σ st := fun H locs ls hW hl => kk H locs ls hW (lv_sub hl ks h)
/-- fields -/
theorem v_getf (hX : okX X cc nL own ret) {k i ci N j idx : Nat} {fs : List Value} {C ref : String} {T : u_T} {v : Value} (hl : w.2 k i) (hc : ∀ g, cont g w.1 σ k i = .inr (ci, fs)) (hcl : vwCl[ci]? = some (C, T, N)) (hin : ∀ x ∈ u_ws C T N, x ∈ BW) (hj : j < N) (hlink : Cond.fieldLink own idx ref (T j).2.1 (T j).2.2.1 ∈ BW) (href : ref = (T j).1) (hv : fs[j]? = some v) (hdg : At cc pc (.getfield idx) 3 nx) (kk : V X z w nx lv σ (v :: st)) : V X z w pc lv σ (.ref (w.1 k i) :: st) := by
  obtain ⟨d, rfl⟩ := hdg
  intro H locs ls hW hls
  have hP : va_P (xD X) vwCl [(w.1 k i, .inr (ci, fs))] H := by
    intro a q hq
    have hz : a < 1 := (List.getElem?_eq_some_iff.mp hq).1
    rw [show a = 0 by omega] at hq
    cases hq
    have := hW.2.1 k i hl
    rw [hc] at this
    exact this
  exact va_get hX.1 hX.2.1 (ref := ref) hX.2.2.2.2.2.2 hin hX.2.2.2.2.1 hW.1.1 hP 0 rfl hcl j hj (hX.2.2.2.2.2.2 _ hlink) (by rw [href]; exact fun _ h => h) hv d (kk H locs ls hW hls)
theorem v_getfN (hX : okX X cc nL own ret) {k i ci N j idx : Nat} {fs : List Value} {C ref host : String} {T : u_T} {v : Value} (hl : w.2 k i) (hc : ∀ g, cont g w.1 σ k i = .inr (ci, fs)) (hcl : vwCl[ci]? = some (C, T, N)) (hin : ∀ x ∈ u_ws C T N, x ∈ BW) (hj : j < N) (hlink : Cond.fieldLinkNest own idx ref (T j).2.1 (T j).2.2.1 host ∈ NWL) (href : ref = (T j).1) (hv : fs[j]? = some v) (hdg : At cc pc (.getfield idx) 3 nx) (kk : V X z w nx lv σ (v :: st)) : V X z w pc lv σ (.ref (w.1 k i) :: st) := by
  obtain ⟨d, rfl⟩ := hdg
  intro H locs ls hW hls
  have hP : va_P (xD X) vwCl [(w.1 k i, .inr (ci, fs))] H := by
    intro a q hq
    have hz : a < 1 := (List.getElem?_eq_some_iff.mp hq).1
    rw [show a = 0 by omega] at hq
    cases hq
    have := hW.2.1 k i hl
    rw [hc] at this
    exact this
  exact va_getN hX.1 hX.2.1 (ref := ref) hX.2.2.2.2.2.2 hin hX.2.2.2.2.1 hW.1.1 hP 0 rfl hcl j hj (va_Nw.use rfl (hW.1.2.1 _ hlink)) (by rw [href]; exact fun _ h => h) hv d (kk H locs ls hW hls)
theorem v_putf (hX : okX X cc nL own ret) {c i ci N j idx pl : Nat} {fs : List Value} {C ref : String} {T : u_T} {v : Int} {ty0 : Nat → FieldType} (hl : w.2 (oc c) i) (hoc : oc c < 30) (hc : ∀ g, cont g w.1 σ (oc c) i = .inr (ci, fs)) (hcl : vwCl[ci]? = some (C, T, N)) (hin : ∀ x ∈ u_ws C T N, x ∈ BW) (hty : ∀ k, k < N → parseFieldDescriptor (T k).2.2.1 = some (ty0 k)) (hnm : ∀ a, a < N → ∀ b, b < N → a ≠ b → (T a).2.1 ≠ (T b).2.1) (hj : j < N) (hlink : Cond.fieldLink own idx ref (T j).2.1 (T j).2.2.1 ∈ BW) (href : ref = (T j).1) (hfin : (T j).2.2.2 = false) {ty : FieldType} (hd : parseFieldDescriptor (T j).2.2.1 = some ty) (hn : narrow ty (.int (iI v)) = .int (iI v)) (hfit : fits ty (.int (iI v)) = true) (hlen : j < fs.length) (hc2 : ∀ g, cont g w.1 (su σ c i pl v) (oc c) i = .inr (ci, fs.set j (.int (iI v)))) (hdg : At cc pc (.putfield idx) 3 nx) (kk : V X z w nx lv (su σ c i pl v) st) : V X z w pc lv σ (.int (iI v) :: .ref (w.1 (oc c) i) :: st) := by
  obtain ⟨d, rfl⟩ := hdg
  intro H locs ls hW hls
  have hts := hX.2.2.2.2.2.2
  have hK := hW.1.1
  have hap := va_apart (own := own) hts hin ty0 hty hnm hK hcl
  have h0 := hW.2.1 (oc c) i hl
  rw [hc] at h0
  obtain ⟨r, h1, cell, q1, q2, q3, q4⟩ := h0
  have hr : r = (C, T, N) := Option.some.inj (h1.symm.trans hcl)
  subst hr
  obtain ⟨hS, hfc, kC, hkC, hkind⟩ := hK.1 ci _ hcl
  obtain ⟨cf, kf, fi, f, hi, hsl⟩ := hS j hj
  have hlay := hts _ (hin _ (u_in_lay hj))
  unfold u_lay at hlay
  rw [if_neg (by rw [hfin]; decide)] at hlay
  have hst := (u_facts hfc hkC (u_lays hts hin hj) hi).1
  have h6 := u_store hfc hkC hkind hlay hi hd hn hfit
  have hi2 : (xs X).fieldFound? ref (T j).2.1 (T j).2.2.1 = some (cf, kf, fi, f) := by rw [href]; exact hi
  refine W.putK hX.1 hX.2.1 (f := f) ⟨hX.2.2.2.2.1, hts _ hlink, ⟨_, _, _, hi2⟩, hst⟩ (by rw [q2]; exact h6) q1 q3 (by rw [hsl]; exact k2_hasslot (q4 j hj)) rfl rfl d fun H' e1 e2 e3 => ?_
  rw [hsl] at e1 ⊢
  refine kk H' _ ls (hW.su hoc hl ?_ e2 e3) hls
  rw [hc2]
  exact ⟨_, hcl, t_OB.to (V := updV (vp_V fs) j (.int (iI v))) ⟨_, e1, q2, q3, t_set q4 hap hj _⟩ (fun k _ => vp_updV_set hlen _ k)⟩
theorem v_putfN (hX : okX X cc nL own ret) {c i ci N j idx pl : Nat} {fs : List Value} {C ref host : String} {T : u_T} {v : Int} {ty0 : Nat → FieldType} (hl : w.2 (oc c) i) (hoc : oc c < 30) (hc : ∀ g, cont g w.1 σ (oc c) i = .inr (ci, fs)) (hcl : vwCl[ci]? = some (C, T, N)) (hin : ∀ x ∈ u_ws C T N, x ∈ BW) (hty : ∀ k, k < N → parseFieldDescriptor (T k).2.2.1 = some (ty0 k)) (hnm : ∀ a, a < N → ∀ b, b < N → a ≠ b → (T a).2.1 ≠ (T b).2.1) (hj : j < N) (hlink : Cond.fieldLinkNest own idx ref (T j).2.1 (T j).2.2.1 host ∈ NWL) (href : ref = (T j).1) (hfin : (T j).2.2.2 = false) {ty : FieldType} (hd : parseFieldDescriptor (T j).2.2.1 = some ty) (hn : narrow ty (.int (iI v)) = .int (iI v)) (hfit : fits ty (.int (iI v)) = true) (hlen : j < fs.length) (hc2 : ∀ g, cont g w.1 (su σ c i pl v) (oc c) i = .inr (ci, fs.set j (.int (iI v)))) (hdg : At cc pc (.putfield idx) 3 nx) (kk : V X z w nx lv (su σ c i pl v) st) : V X z w pc lv σ (.int (iI v) :: .ref (w.1 (oc c) i) :: st) := by
  obtain ⟨d, rfl⟩ := hdg
  intro H locs ls hW hls
  have hts := hX.2.2.2.2.2.2
  have hK := hW.1.1
  have hap := va_apart (own := own) hts hin ty0 hty hnm hK hcl
  have h0 := hW.2.1 (oc c) i hl
  rw [hc] at h0
  obtain ⟨r, h1, cell, q1, q2, q3, q4⟩ := h0
  have hr : r = (C, T, N) := Option.some.inj (h1.symm.trans hcl)
  subst hr
  obtain ⟨hS, hfc, kC, hkC, hkind⟩ := hK.1 ci _ hcl
  obtain ⟨cf, kf, fi, f, hi, hsl⟩ := hS j hj
  have hlay := hts _ (hin _ (u_in_lay hj))
  unfold u_lay at hlay
  rw [if_neg (by rw [hfin]; decide)] at hlay
  have hst := (u_facts hfc hkC (u_lays hts hin hj) hi).1
  have h6 := u_store hfc hkC hkind hlay hi hd hn hfit
  have hi2 : (xs X).fieldFound? ref (T j).2.1 (T j).2.2.1 = some (cf, kf, fi, f) := by rw [href]; exact hi
  refine va_WputK hX.1 hX.2.1 (f := f) hX.2.2.2.2.1 (va_Nw.use rfl (hW.1.2.1 _ hlink)) hi2 hst (by rw [q2]; exact h6) q1 q3 (by rw [hsl]; exact k2_hasslot (q4 j hj)) rfl rfl d fun H' e1 e2 e3 => ?_
  rw [hsl] at e1 ⊢
  refine kk H' _ ls (hW.su hoc hl ?_ e2 e3) hls
  rw [hc2]
  exact ⟨_, hcl, t_OB.to (V := updV (vp_V fs) j (.int (iI v))) ⟨_, e1, q2, q3, t_set q4 hap hj _⟩ (fun k _ => vp_updV_set hlen _ k)⟩
end JV
