/-! the state of the system: a store of whole numbers by component, index and place; the objects by kind and index -/
abbrev St : Type := Nat → Nat → Nat → Int
abbrev Ly : Type := Nat → Nat → Nat
def su (σ : St) (c i j : Nat) (v : Int) : St := fun c' i' j' => if c' = c ∧ i' = i ∧ j' = j then v else σ c' i' j'
theorem su_s {σ : St} {c i j : Nat} {v : Int} : su σ c i j v c i j = v := by simp [su]
theorem su_c {σ : St} {c i j c' i' j' : Nat} {v : Int} (h : c' ≠ c) : su σ c i j v c' i' j' = σ c' i' j' := by simp [su, h]
theorem su_i {σ : St} {c i j c' i' j' : Nat} {v : Int} (h : i' ≠ i) : su σ c i j v c' i' j' = σ c' i' j' := by simp [su, h]
theorem su_j {σ : St} {c i j c' i' j' : Nat} {v : Int} (h : j' ≠ j) : su σ c i j v c' i' j' = σ c' i' j' := by simp [su, h]
theorem su_rc {σ : St} {c i j c' : Nat} {v : Int} (h : c' ≠ c) : su σ c i j v c' = σ c' := by funext a b; exact su_c h
theorem su_ri {σ : St} {c i j c' i' : Nat} {v : Int} (h : i' ≠ i) : su σ c i j v c' i' = σ c' i' := by funext b; exact su_i h
theorem su_e (σ : St) (c i j : Nat) (v : Int) (j' : Nat) : su σ c i j v c i j' = if j' = j then v else σ c i j' := by simp [su]
def rcap (i : Nat) : Nat := if i < 24 then 256 else if i = 24 then 260 else if i = 27 then 260 else if i = 28 then 32 else if i = 32 then 32 else if i = 33 then 296 else 256
def mlen (a : Nat) : Nat := match a with
  | 0 => 6144
  | 1 => 24
  | 2 => 260
  | 3 => 1000
  | 4 => 700
  | 5 => 32
  | 6 => 64
  | 7 => 64
  | 8 => 8
  | 9 => 8
  | 10 => 512
  | 11 => 16384
  | 12 => 128
  | 13 => 600
  | 14 => 32
  | _ => 128
/-- the fields of a kind of object: (0, kind, index): a reference; (1, component, place): a number -/
def tp (k i : Nat) : List (Nat × Nat × Nat) := match k with
  | 0 => [(0, 11, 0), (0, 1, 24), (0, 12, 0), (1, 4, 0), (0, 7, 0), (0, 8, 0), (0, 10, 0), (0, 1, 25), (0, 1, 26), (0, 3, 0), (0, 3, 1), (0, 3, 2), (0, 3, 3), (0, 3, 4), (0, 3, 5), (0, 3, 6)]
  | 1 => [(0, 2, i), (1, 0, 0)]
  | 3 => [(0, 4, i), (1, 2, 0)]
  | 5 => [(0, 6, i), (1, 5, 0)]
  | 7 => [(0, 3, 7), (0, 3, 8), (1, 8, 0), (0, 3, 9), (0, 3, 10), (0, 3, 11), (0, 3, 12), (0, 3, 13), (0, 3, 14), (0, 3, 15), (0, 3, 16), (0, 3, 17), (0, 3, 18), (0, 3, 19), (0, 3, 20), (0, 3, 21), (0, 3, 22)]
  | 8 => [(0, 9, 0), (0, 9, 1), (0, 9, 2), (0, 1, 27), (0, 1, 28)]
  | 10 => [(0, 8, 0), (0, 1, 29), (0, 1, 30), (0, 1, 31), (0, 1, 32), (0, 1, 33)]
  | 13 => [(1, 10, 0), (0, 14, 0), (0, 14, 1), (0, 14, 2), (0, 14, 3), (0, 14, 4), (0, 14, 5), (0, 14, 6), (0, 14, 7), (0, 14, 8), (0, 14, 9), (0, 14, 10), (0, 14, 11), (0, 14, 12), (0, 14, 13), (0, 14, 14), (0, 14, 15), (0, 14, 16), (0, 14, 17), (0, 16, 0), (0, 16, 1), (0, 16, 2), (1, 10, 1), (0, 16, 3), (1, 10, 2), (0, 14, 18), (0, 14, 19), (0, 14, 20), (0, 14, 21), (0, 14, 22), (0, 16, 4), (0, 16, 5), (0, 16, 6), (0, 16, 7), (0, 16, 8), (0, 16, 9), (1, 10, 3), (1, 10, 4), (0, 16, 10), (0, 16, 11), (0, 16, 12), (0, 17, 0), (1, 10, 5), (0, 14, 23), (0, 14, 24), (0, 14, 25), (0, 14, 26), (0, 14, 27), (0, 14, 28), (0, 14, 29), (0, 16, 13), (0, 16, 14), (0, 16, 15)]
  | 14 => [(0, 15, i), (1, 11, 0)]
  | _ => []
/-- the fields with their rank: which is set as which in the constructor -/
def ix (k i : Nat) : List ((Nat × Nat × Nat) × Nat) := match k with
  | 0 => ((0, 41, 0), 0) :: (tp 0 i).zipIdx.drop 1
  | 5 => [((0, 36, i), 0), ((1, 5, 0), 1)]
  | 10 => [((0, 8, 0), 5), ((0, 1, 29), 0), ((0, 1, 30), 1), ((0, 1, 31), 2), ((0, 1, 32), 3), ((0, 1, 33), 4)]
  | _ => (tp k i).zipIdx
def ck (k : Nat) : Nat := match k with
  | 0 => 6
  | 1 => 4
  | 3 => 5
  | 5 => 2
  | 7 => 0
  | 8 => 1
  | 10 => 3
  | 13 => 8
  | _ => 7
/-- the kind that a component belongs to -/
def oc (c : Nat) : Nat := match c with
  | 0 => 1
  | 1 => 2
  | 2 => 3
  | 3 => 4
  | 4 => 0
  | 5 => 5
  | 8 => 7
  | 9 => 9
  | 10 => 13
  | 11 => 14
  | 12 => 15
  | 13 => 16
  | 14 => 17
  | 15 => 18
  | 16 => 19
  | _ => 99
def fv (ad : Ly) (σ : St) (i : Nat) (d : Nat × Nat × Nat) : Value := if d.1 = 0 then .ref (ad d.2.1 d.2.2) else .int (iI (σ d.2.1 i d.2.2))
def fr (ad : Ly) (n : Int) (q : (Nat × Nat × Nat) × Nat) : Value := if q.1.1 = 0 then (if (q.2 : Int) < n then .ref (ad q.1.2.1 q.1.2.2) else .null) else .int 0
def ob (ad : Ly) (σ : St) (k i : Nat) : va_E := .inr (ck k, (tp k i).map (fv ad σ i))
/-- an object in its constructor: so many fields are set -/
def raw (ad : Ly) (σ : St) (k i : Nat) : va_E := .inr (ck k, (ix k i).map (fr ad (σ 21 k i)))
def rfs (f : Nat → Option Nat) : (Nat → Int32) ⊕ (Nat → Int64) ⊕ (Nat → UInt32) ⊕ (Nat → UInt64) ⊕ (Nat → Option Nat) := .inr (.inr (.inr (.inr f)))
def dlen (i : Nat) : Nat := match i with
  | 0 => 64
  | _ => 8
/-- what the cell of an object holds -/
def cont (g : Nat → ClassId) (ad : Ly) (σ : St) (k i : Nat) : va_E := match k with
  | 0 => ob ad σ 0 i
  | 1 => ob ad σ 1 i
  | 2 => .inl (g 0, rcap i, .inl (fun j => bI (σ 1 i j)))
  | 3 => ob ad σ 3 i
  | 4 => .inl (g 2, 80, .inr (.inl (fun j => jI (σ 3 i j))))
  | 5 => ob ad σ 5 i
  | 6 => .inl (g 6, (σ 6 i 0).toNat, rfs (fun j => if (j : Int) < σ 6 i 0 then some (ad 3 (32 + 8 * i + j)) else none))
  | 7 => ob ad σ 7 i
  | 8 => ob ad σ 8 i
  | 9 => .inl (g 1, dlen i, .inl (fun j => iI (σ 9 i j)))
  | 10 => ob ad σ 10 i
  | 11 => .inl (g 5, 24, rfs (fun j => some (ad 1 j)))
  | 12 => .inl (g 4, 16, rfs (fun j => if σ 7 0 j = 1 then some (ad 5 j) else none))
  | 13 => ob ad σ 13 i
  | 14 => ob ad σ 14 i
  | 15 => .inl (g 1, 270, .inl (fun j => iI (σ 12 i j)))
  | 16 => .inl (g 1, mlen i, .inl (fun j => iI (σ 13 i j)))
  | 17 => .inl (g 3, 16, .inl (fun j => iI (σ 14 i j)))
  | 18 => .inl (g 2, 1, .inr (.inl (fun j => jI (σ 15 i j))))
  | 19 => .inl (g 1, i % 4096, .inl (fun j => iI (σ 16 i j)))
  | 30 => raw ad σ 0 i
  | 31 => raw ad σ 1 i
  | 33 => raw ad σ 3 i
  | 35 => raw ad σ 5 i
  | 36 => .inl (g 6, (σ 6 i 0).toNat, rfs (fun j => if (j : Int) < σ 21 6 i then some (ad 3 (32 + 8 * i + j)) else none))
  | 37 => raw ad σ 7 i
  | 38 => raw ad σ 8 i
  | 40 => raw ad σ 10 i
  | 41 => .inl (g 5, 24, rfs (fun j => if (j : Int) < σ 21 11 0 then some (ad 1 j) else none))
  | 43 => raw ad σ 13 i
  | 44 => raw ad σ 14 i
  | _ => ob ad σ 99 i
/-- which objects the cell of one names -/
def mn (σ : St) (k i : Nat) : List (Nat × Nat) := match k with
  | 6 => (List.range (σ 6 i 0).toNat).map (fun j => (3, 32 + 8 * i + j))
  | 11 => (List.range 24).map (fun j => (1, j))
  | 12 => ((List.range 16).filter (fun j => decide (σ 7 0 j = 1))).map (fun j => (5, j))
  | 36 => ((List.range (σ 6 i 0).toNat).filter (fun j : Nat => decide ((j : Int) < σ 21 6 i))).map (fun j => (3, 32 + 8 * i + j))
  | 41 => ((List.range 24).filter (fun j : Nat => decide ((j : Int) < σ 21 11 0))).map (fun j => (1, j))
  | 0 => (tp 0 i).filterMap (fun d => if d.1 = 0 then some d.2 else none)
  | 1 => (tp 1 i).filterMap (fun d => if d.1 = 0 then some d.2 else none)
  | 3 => (tp 3 i).filterMap (fun d => if d.1 = 0 then some d.2 else none)
  | 5 => (tp 5 i).filterMap (fun d => if d.1 = 0 then some d.2 else none)
  | 7 => (tp 7 i).filterMap (fun d => if d.1 = 0 then some d.2 else none)
  | 8 => (tp 8 i).filterMap (fun d => if d.1 = 0 then some d.2 else none)
  | 10 => (tp 10 i).filterMap (fun d => if d.1 = 0 then some d.2 else none)
  | 13 => (tp 13 i).filterMap (fun d => if d.1 = 0 then some d.2 else none)
  | 14 => (tp 14 i).filterMap (fun d => if d.1 = 0 then some d.2 else none)
  | 30 => (ix 0 i).filterMap (fun q => if q.1.1 = 0 ∧ (q.2 : Int) < σ 21 0 i then some q.1.2 else none)
  | 31 => (ix 1 i).filterMap (fun q => if q.1.1 = 0 ∧ (q.2 : Int) < σ 21 1 i then some q.1.2 else none)
  | 33 => (ix 3 i).filterMap (fun q => if q.1.1 = 0 ∧ (q.2 : Int) < σ 21 3 i then some q.1.2 else none)
  | 35 => (ix 5 i).filterMap (fun q => if q.1.1 = 0 ∧ (q.2 : Int) < σ 21 5 i then some q.1.2 else none)
  | 37 => (ix 7 i).filterMap (fun q => if q.1.1 = 0 ∧ (q.2 : Int) < σ 21 7 i then some q.1.2 else none)
  | 38 => (ix 8 i).filterMap (fun q => if q.1.1 = 0 ∧ (q.2 : Int) < σ 21 8 i then some q.1.2 else none)
  | 40 => (ix 10 i).filterMap (fun q => if q.1.1 = 0 ∧ (q.2 : Int) < σ 21 10 i then some q.1.2 else none)
  | 43 => (ix 13 i).filterMap (fun q => if q.1.1 = 0 ∧ (q.2 : Int) < σ 21 13 i then some q.1.2 else none)
  | 44 => (ix 14 i).filterMap (fun q => if q.1.1 = 0 ∧ (q.2 : Int) < σ 21 14 i then some q.1.2 else none)
  | _ => []
def sC (j : Nat) : String := match j with
  | 0 => "SealHouse$Desk"
  | 1 => "SealHouse$Digester"
  | 2 => "SealHouse$Digester"
  | 3 => "SealHouse$Digester"
  | 4 => "SealHouse$Padder"
  | _ => "SealHouse$Padder"
def sN (j : Nat) : String := match j with
  | 0 => "BASES"
  | 1 => "START_256"
  | 2 => "START_224"
  | 3 => "ROUNDS"
  | 4 => "NAME_256"
  | _ => "NAME_224"
def sT (j : Nat) : List Int := match j with
  | 0 => [2, 3, 5, 7, 11, 13, 17, 19, 23, 29, 31, 37]
  | 1 => [1779033703, -1150833019, 1013904242, -1521486534, 1359893119, -1694144372, 528734635, 1541459225]
  | 2 => [-1056596264, 914150663, 812702999, -150054599, -4191439, 1750603025, 1694076839, -1090891868]
  | 3 => [1116352408, 1899447441, -1245643825, -373957723, 961987163, 1508970993, -1841331548, -1424204075, -670586216, 310598401, 607225278, 1426881987, 1925078388, -2132889090, -1680079193, -1046744716, -459576895, -272742522, 264347078, 604807628, 770255983, 1249150122, 1555081692, 1996064986, -1740746414, -1473132947, -1341970488, -1084653625, -958395405, -710438585, 113926993, 338241895, 666307205, 773529912, 1294757372, 1396182291, 1695183700, 1986661051, -2117940946, -1838011259, -1564481375, -1474664885, -1035236496, -949202525, -778901479, -694614492, -200395387, 275423344, 430227734, 506948616, 659060556, 883997877, 958139571, 1322822218, 1537002063, 1747873779, 1955562222, 2024104815, -2067236844, -1933114872, -1866530822, -1538233109, -1090935817, -965641998]
  | 4 => [48, 49, 48, 13, 6, 9, 96, 134, 72, 1, 101, 3, 4, 2, 1, 5, 0, 4, 32]
  | _ => [48, 45, 48, 13, 6, 9, 96, 134, 72, 1, 101, 3, 4, 2, 4, 5, 0, 4, 28]
/-- the class's own tables, and what a throw reads -/
def SR (A : Nat → Prop) (U : State) (H : Heap) : Prop := (∀ j : Nat, j < 6 → ∃ t : Nat, va_Z (sC j) (sN j) "[I" (.ref t) A U H ∧ va_T .int t (sT j).length (fun i => .int (iI ((sT j).getD i 0))) A U H) ∧ vx_Zq Bundle.tN "UNASSIGNED_STACK" Bundle.steD A U H ∧ vx_Zq Bundle.tN "SUPPRESSED_SENTINEL" Bundle.listD A U H
theorem SR.moved {A : Nat → Prop} {u U : State} {H : Heap} (hvm : u.vm.Alike U.vm) (h : SR A u H) : SR A U H := ⟨fun j hj => by obtain ⟨t, a, b⟩ := h.1 j hj; exact ⟨t, va_Z.moved hvm a, va_T.moved hvm b⟩, vx_Zq.moved hvm h.2.1, vx_Zq.moved hvm h.2.2⟩
theorem SR.kept {A : Nat → Prop} {U : State} {H H1 : Heap} (h : SR A U H) (hq : ∀ a : Nat, a < H.size → ¬ A a → H1[a]? = H[a]?) : SR A U H1 := ⟨fun j hj => by obtain ⟨t, a, b⟩ := h.1 j hj; exact ⟨t, a.kept hq, b.kept hq⟩, h.2.1.kept hq, h.2.2.kept hq⟩
theorem SR.narrow {A B : Nat → Prop} {U : State} {H : Heap} (h : SR A U H) (hAB : ∀ q, B q → A q) : SR B U H := ⟨fun j hj => by obtain ⟨t, a, b⟩ := h.1 j hj; exact ⟨t, a.narrow hAB, b.narrow hAB⟩, h.2.1.narrow hAB, h.2.2.narrow hAB⟩
def nwOk : Cond → Bool
  | .methodLinkNest _ _ _ _ => true
  | .fieldLinkNest _ _ _ _ _ _ => true
  | .declares _ => true
  | .castable _ _ => true
  | .arrayOver (.object _) => true
  | _ => false
theorem nw_warm {w : Cond} {s U : State} (hw : nwOk w = true) (hW : s.WarmedH U.vm) (h : va_Nw w s) : va_Nw w U := by
  unfold nwOk at hw
  split at hw
  · exact va_Nw.warmM hW h
  · exact va_Nw.warmF hW h
  · exact va_Nw.warmD hW h
  · exact va_Nw.warmC hW h
  · exact va_AO.use (va_AO.moved hW.alike (va_AO.of h))
  · cases hw
theorem NWL_ok : ∀ w ∈ NWL, nwOk w = true := by decide +kernel
def strL : List (Nat × String) := [(279, "there is no such slot"), (98, "the tape has not so many bytes for a row"), (115, "the row has not so many bytes there"), (124, "the row has no such byte"), (130, "there is no such reckoning"), (284, "there is no such hash"), (170, "no row is so long"), (282, "there is no such key"), (208, "a key has no such part"), (214, "a number is raised or lowered"), (271, "no salt is so long")]
def tysL (g : Nat → ClassId) : List (ClassId × FieldType) := [(g 0, .byte), (g 1, .int), (g 2, .long), (g 3, .boolean), (g 4, .object "SealHouse$Key"), (g 5, .object "SealHouse$Row"), (g 6, .object "SealHouse$Whole")]
/-- what the tables say -/
def WK (D : va_G) (g : Nat → ClassId) (s : State) : Prop := va_K D vwCl (tysL g) s ∧ (∀ w ∈ NWL, va_Nw w s) ∧ ∀ q ∈ strL, ∃ sa, vk_R "SealHouse" q.1 q.2 sa s
theorem WK.warm {D : va_G} {g : Nat → ClassId} {s U : State} (hW : s.WarmedH U.vm) (h : WK D g s) : WK D g U := ⟨va_K.moved hW.alike h.1, fun w hw => nw_warm (NWL_ok w hw) hW (h.2.1 w hw), fun q hq => by obtain ⟨sa, a⟩ := h.2.2 q hq; exact ⟨sa, a.warm hW⟩⟩
theorem WK.same {D : va_G} {g : Nat → ClassId} {s U : State} (hv : U.vm = s.vm) (h : WK D g s) : WK D g U := WK.warm (by rw [hv]; exact State.WarmedH.refl s) h
/-- where the objects lie, and which are there -/
abbrev Wl : Type := Ly × (Nat → Nat → Prop)
def WP (D : va_G) (g : Nat → ClassId) (w : Wl) (σ : St) (H : Heap) : Prop := ∀ k i, w.2 k i → va_at D vwCl (w.1 k i, cont g w.1 σ k i) H
def WI (w : Wl) (σ : St) : Prop := (∀ k i k' i', w.2 k i → w.2 k' i' → w.1 k i = w.1 k' i' → k = k' ∧ i = i') ∧ ∀ k i, w.2 k i → ∀ q ∈ mn σ k i, w.2 q.1 q.2
/-- which cells may change: the world's, and new ones -/
def AF (w : Wl) (sz : Nat) : Nat → Prop := fun q => (∃ k i, w.2 k i ∧ q = w.1 k i) ∨ sz ≤ q
/-- the world at a point of a method that began at s -/
def WD (D : va_G) (g : Nat → ClassId) (w : Wl) (σ : St) (A : Nat → Prop) (s : State) (H : Heap) (locs : List Loc) : Prop :=
  WK D g s ∧ WP D g w σ H ∧ WI w σ ∧ (∀ k i, w.2 k i → A (w.1 k i)) ∧ va_S A s.heap H locs ∧ (∀ q, s.heap.size ≤ q → A q) ∧ SR A s s.heap
/-- the world at a method's start or end -/
def WE (D : va_G) (g : Nat → ClassId) (w : Wl) (σ : St) (U : State) : Prop := WK D g U ∧ WP D g w σ U.heap ∧ WI w σ
theorem tp_oc (k i : Nat) : ∀ d ∈ tp k i, d.1 ≠ 0 → oc d.2.1 = k := by
  have h : (tp k i).all (fun d => d.1 == 0 || oc d.2.1 == k) = true := by
    unfold tp
    split <;> rfl
  intro d hd h0
  have h1 := List.all_eq_true.mp h d hd
  simpa [h0] using h1
theorem ob_congr {ad : Ly} {σ σ' : St} {k i : Nat} (h : ∀ c, oc c = k → σ' c i = σ c i) : ob ad σ' k i = ob ad σ k i := by
  unfold ob
  congr 2
  apply List.map_congr_left
  intro d hd
  unfold fv
  by_cases h0 : d.1 = 0
  · simp [h0]
  · rw [if_neg h0, if_neg h0, h _ (tp_oc k i d hd h0)]
theorem cont_congr {g : Nat → ClassId} {ad : Ly} {σ σ' : St} {k i : Nat} (h : ∀ c, oc c = k → σ' c i = σ c i) (h6 : σ' 6 = σ 6) (h7 : σ' 7 = σ 7) (h21 : σ' 21 = σ 21) : cont g ad σ' k i = cont g ad σ k i := by
  unfold cont
  split
  all_goals first | exact ob_congr h | (unfold raw; rw [h21]; done) | (rw [h6, h21]; done) | (rw [h6]; done) | (rw [h7]; done) | (rw [h21]; done) | rfl | (rw [h 1 rfl]; done) | (rw [h 3 rfl]; done) | (rw [h 9 rfl]; done) | (rw [h 12 rfl]; done) | (rw [h 13 rfl]; done) | (rw [h 14 rfl]; done) | (rw [h 15 rfl]; done) | (rw [h 16 rfl]; done) | (unfold ob; rfl)
theorem mn_congr {σ σ' : St} {k i : Nat} (h6 : σ' 6 = σ 6) (h7 : σ' 7 = σ 7) (h21 : σ' 21 = σ 21) : mn σ' k i = mn σ k i := by
  unfold mn
  rw [h6, h7, h21]
/-- a number changes -/
theorem WP.su {D : va_G} {g : Nat → ClassId} {w : Wl} {σ : St} {H H1 : Heap} {c i j : Nat} {v : Int} (h : WP D g w σ H) (hI : WI w σ) (hc : oc c < 30) (hl : w.2 (oc c) i) (he : va_at D vwCl (w.1 (oc c) i, cont g w.1 (su σ c i j v) (oc c) i) H1) (oq : ∀ q : Nat, q ≠ w.1 (oc c) i → H1[q]? = H[q]?) : WP D g w (su σ c i j v) H1 := by
  have n6 : c ≠ 6 := by intro q; subst q; exact absurd hc (by decide)
  have n7 : c ≠ 7 := by intro q; subst q; exact absurd hc (by decide)
  have n21 : c ≠ 21 := by intro q; subst q; exact absurd hc (by decide)
  intro k' i' hl'
  by_cases hk : k' = oc c ∧ i' = i
  · obtain ⟨rfl, rfl⟩ := hk
    exact he
  · have hne : w.1 k' i' ≠ w.1 (oc c) i := fun q => hk (hI.1 k' i' (oc c) i hl' hl q)
    have e : cont g w.1 (Jvm.Pilot.@@N@@.su σ c i j v) k' i' = cont g w.1 σ k' i' := by
      refine cont_congr (fun c' hc' => ?_) (su_rc (Ne.symm n6)) (su_rc (Ne.symm n7)) (su_rc (Ne.symm n21))
      by_cases hcc : c' = c
      · subst hcc
        exact su_ri (fun q => hk ⟨hc'.symm, q⟩)
      · rw [su_rc hcc]
    rw [e]
    exact (h k' i' hl').kept (oq _ hne)
theorem WI.su {w : Wl} {σ : St} {c i j : Nat} {v : Int} (hI : WI w σ) (hc : oc c < 30) : WI w (su σ c i j v) := by
  have n6 : c ≠ 6 := by intro q; subst q; exact absurd hc (by decide)
  have n7 : c ≠ 7 := by intro q; subst q; exact absurd hc (by decide)
  have n21 : c ≠ 21 := by intro q; subst q; exact absurd hc (by decide)
  refine ⟨hI.1, ?_⟩
  intro k' i' hl q hq
  rw [mn_congr (σ := σ) (su_rc (Ne.symm n6)) (su_rc (Ne.symm n7)) (su_rc (Ne.symm n21))] at hq
  exact hI.2 k' i' hl q hq
theorem WD.su {D : va_G} {g : Nat → ClassId} {w : Wl} {σ : St} {A : Nat → Prop} {s : State} {H H1 : Heap} {locs : List Loc} {c i j n : Nat} {v : Int} (h : WD D g w σ A s H locs) (hc : oc c < 30) (hl : w.2 (oc c) i) (he : va_at D vwCl (w.1 (oc c) i, cont g w.1 (su σ c i j v) (oc c) i) H1) (hz : H1.size = H.size) (oq : ∀ q : Nat, q ≠ w.1 (oc c) i → H1[q]? = H[q]?) : WD D g w (su σ c i j v) A s H1 (locs ++ [⟨w.1 (oc c) i, n⟩]) :=
  ⟨h.1, h.2.1.su h.2.2.1 hc hl he oq, h.2.2.1.su hc, h.2.2.2.1, h.2.2.2.2.1.put hz oq (h.2.2.2.1 _ _ hl), h.2.2.2.2.2⟩
