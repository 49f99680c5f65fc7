/-! null; the house's state from call to call: rows (slots 0 to 23, tape 24), how many keys, how many parts each has, its parts -/
section NU
variable {X : CX} {z : Nat × Nat} {w : Wl} {pc nx : Nat} {lv lv' : List (Nat × Value)} {σ : St} {st rest : List Value} {cc : ByteArray} {nL : Nat} {own : String} {ret : Option FieldType}
theorem v_ifnn (hX : okX X cc nL own ret) {x : Nat} {off : Int} {tgt : Nat} (hdg : At cc pc (.ifnonnull off) 3 nx) (ht : (pc : Int) + off = (tgt : Int)) (kk : V X z w tgt lv σ st) : V X z w pc lv σ (.ref x :: st) := by
  intro H locs ls hW hl
  exact lv_ifnonnull hX.1 hX.2.1 hdg.1 ht (kk H locs ls hW hl)
theorem v_ifnnN (hX : okX X cc nL own ret) {off : Int} (hdg : At cc pc (.ifnonnull off) 3 nx) (kk : V X z w nx lv σ st) : V X z w pc lv σ (.null :: st) := by
  obtain ⟨d, rfl⟩ := hdg
  intro H locs ls hW hl
  exact lv_ifnonnullN hX.1 hX.2.1 d (kk H locs ls hW hl)
end NU
abbrev Ab : Type := (Nat → List Nat) × Nat × (Nat → Nat) × (Nat → Nat → Nat)
def Ab.put (A : Ab) (t : Nat) (M : List Nat) : Ab := (fun i => if i = t then M else A.1 i, A.2)
def HS (σ : St) (A : Ab) : Prop := (∀ i, i ≤ 24 → RW σ i (A.1 i)) ∧ AR σ ∧ AD σ ∧ σ 4 0 0 = (A.2.1 : Int) ∧ A.2.1 ≤ 16 ∧ (∀ j, j < 16 → σ 7 0 j = if j < A.2.1 then 1 else 0) ∧ ∀ k, k < A.2.1 → KY σ k (A.2.2.1 k) (A.2.2.2 k)
/-- the model's part is as it was -/
def FM (σ s : St) : Prop := ∀ c, 10 ≤ c → s c = σ c
theorem FH.fm {t : Nat} {σ s : St} (h : FH t σ s) : FM σ s := fun c hc => funext fun i => h c i (Or.inr (Or.inr (Or.inr hc))) (fun q => by omega)
theorem FM.rf {σ : St} : FM σ σ := fun _ _ => rfl
theorem HS.keep {σ s : St} {A : Ab} (h : HS σ A) (f : FH 99 σ s) (hA : AR s) (hD : AD s) : HS s A := by
  obtain ⟨h1, -, -, h4, h5, h6, h7⟩ := h
  have f4 := f 4 0 (Or.inr (Or.inr (Or.inl ⟨by omega, by omega⟩))) (fun q => by omega)
  have f7 := f 7 0 (Or.inr (Or.inr (Or.inl ⟨by omega, by omega⟩))) (fun q => by omega)
  exact ⟨fun i hi => (h1 i hi).frH f hi (by omega), hA, hD, by rw [f4]; exact h4, h5, fun j hj => by rw [f7]; exact h6 j hj, fun k hk => (h7 k hk).frH f⟩
theorem HS.put {σ s : St} {A : Ab} {t : Nat} {M : List Nat} (h : HS σ A) (f : FH t σ s) (hA : AR s) (hD : AD s) (hr : RW s t M) : HS s (A.put t M) := by
  obtain ⟨h1, -, -, h4, h5, h6, h7⟩ := h
  have f4 := f 4 0 (Or.inr (Or.inr (Or.inl ⟨by omega, by omega⟩))) (fun q => by omega)
  have f7 := f 7 0 (Or.inr (Or.inr (Or.inl ⟨by omega, by omega⟩))) (fun q => by omega)
  refine ⟨fun i hi => ?_, hA, hD, by rw [f4]; exact h4, h5, fun j hj => by rw [f7]; exact h6 j hj, fun k hk => (h7 k hk).frH f⟩
  by_cases e : i = t
  · subst e
    show RW s i (if i = i then M else A.1 i)
    rw [if_pos rfl]; exact hr
  · show RW s i (if i = t then M else A.1 i)
    rw [if_neg e]; exact (h1 i hi).frH f hi e
abbrev isS (k : Int) : Prop := 0 ≤ k ∧ k < 24
theorem HS.sl {σ : St} {A : Ab} {i : Nat} (h : HS σ A) (hi : i < 24) : (A.1 i).length ≤ 256 := by have := (h.1 i (by omega)).cap; rw [rcap_s hi] at this; exact this
/-- of a public call: (1 or 2: it throws; 0: it answers), the answer, the state then -/
abbrev Res : Type := Int × Int × Ab
def Xc (r : Res) (A : Ab) (E : String) : Prop := (E = eI ∧ r = (1, 0, A)) ∨ (E = eA ∧ r = (2, 0, A))
