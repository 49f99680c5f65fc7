/-! the house: a switch; what lasts from call to call -/
section TS
variable {X : CX} {z : Nat × Nat} {w : Wl} {pc nx : Nat} {lv lv' : List (Nat × Value)} {σ : St} {st rest : List Value} {cc : ByteArray} {nL : Nat} {own : String} {ret : Option FieldType}
theorem v_tsIn (hX : okX X cc nL own ret) {dflt lo hi off : Int} {offs : Array Int} {len : Nat} {a c : Int} {tgt : Nat} (e : a = c) (rc : rI c) (hdg : At cc pc (.tableswitch dflt lo hi offs) len nx) (h1 : ¬ c < lo) (h2 : ¬ hi < c) (ho : offs[(c - lo).toNat]? = some off) (ht : (pc : Int) + off = (tgt : Int)) (kk : V X z w tgt lv σ st) : V X z w pc lv σ (.int (iI a) :: st) := by
  intro H locs ls hW hl
  subst e
  exact lv_tableIn hX.1 hX.2.1 hdg.1 (by rw [iI_t rc]; exact h1) (by rw [iI_t rc]; exact h2) (by rw [iI_t rc]; exact ho) ht (kk H locs ls hW hl)
theorem v_tsOut (hX : okX X cc nL own ret) {dflt lo hi : Int} {offs : Array Int} {len : Nat} {a : Int} {tgt : Nat} (ra : rI a) (h : a < lo ∨ hi < a) (hdg : At cc pc (.tableswitch dflt lo hi offs) len nx) (ht : (pc : Int) + dflt = (tgt : Int)) (kk : V X z w tgt lv σ st) : V X z w pc lv σ (.int (iI a) :: st) := by
  intro H locs ls hW hl
  exact lv_tableOut hX.1 hX.2.1 hdg.1 (by rw [iI_t ra]; exact h) ht (kk H locs ls hW hl)
end TS
/-- slots and tape, key parts, counters, all of the model: what the house's scratch is not -/
def Hk (c i : Nat) : Prop := ((c = 0 ∨ c = 1) ∧ i ≤ 24) ∨ ((c = 2 ∨ c = 3) ∧ 32 ≤ i) ∨ (4 ≤ c ∧ c ≤ 7) ∨ 10 ≤ c
/-- nothing of it changes but slot t -/
def FH (t : Nat) (σ s : St) : Prop := ∀ c i, Hk c i → ¬ (c < 2 ∧ i = t) → s c i = σ c i
theorem FH.rf {t : Nat} {σ : St} : FH t σ σ := fun _ _ _ _ => rfl
theorem FH.tr {t : Nat} {σ s s' : St} {l : List (Nat × Nat)} (h : FH t σ s) (f : Fr l s s') (hl : ∀ q ∈ l, Hk q.1 q.2 → (q.1 < 2 ∧ q.2 = t)) : FH t σ s' := fun c i hk hn => (f c i (fun q => hn (hl _ q hk))).trans (h c i hk hn)
theorem FH.tr2 {t : Nat} {σ s s' : St} (h : FH t σ s) (f : FH t s s') : FH t σ s' := fun c i hk hn => (f c i hk hn).trans (h c i hk hn)
theorem FH.mono {t u : Nat} {σ s : St} (h : FH u σ s) (hu : 24 < u) : FH t σ s := fun c i hk _ => h c i hk (fun q => by unfold Hk at hk; omega)
theorem RW.frH {t : Nat} {σ s : St} {i : Nat} {M : List Nat} (h : RW σ i M) (f : FH t σ s) (hi : i ≤ 24) (ht : i ≠ t) : RW s i M := by
  have e0 := f 0 i (Or.inl ⟨Or.inl rfl, hi⟩) (fun q => ht q.2)
  have e1 := f 1 i (Or.inl ⟨Or.inr rfl, hi⟩) (fun q => ht q.2)
  unfold RW okR row
  rw [e0, e1]
  exact h
theorem WN_frH {t : Nat} {σ s : St} {i v : Nat} (h : WN σ i v) (f : FH t σ s) (hi : 32 ≤ i) : WN s i v := by
  have e0 := f 2 i (Or.inr (Or.inl ⟨Or.inl rfl, hi⟩)) (fun q => absurd q.1 (by decide))
  have e1 := f 3 i (Or.inr (Or.inl ⟨Or.inr rfl, hi⟩)) (fun q => absurd q.1 (by decide))
  unfold WN nm
  rw [e0, e1]
  exact h
theorem AD.fr {σ σ' : St} {l : List (Nat × Nat)} (h : AD σ) (f : Fr l σ σ') (g : ∀ q ∈ l, q.1 ≠ 3) : AD σ' := h.of f (fun q hq => absurd rfl (g _ hq))
theorem rv_b {L : List Nat} (h : BY L) (hl : L.length ≤ 256) : rv L < 2 ^ 2048 := by
  have h1 := rv_lt h
  have h2 : (256 : Nat) ^ L.length ≤ 256 ^ 256 := Nat.pow_le_pow_right (by omega) hl
  have h3 : (256 : Nat) ^ 256 = 2 ^ 2048 := by rw [show (256 : Nat) = 2 ^ 8 from rfl, ← Nat.pow_mul]
  rw [h3] at h2
  exact Nat.lt_of_lt_of_le h1 h2
/-- key k: how many parts, what they are; its length -/
def KY (σ : St) (k P : Nat) (K : Nat → Nat) : Prop := (P = 2 ∨ P = 8) ∧ σ 6 k 0 = (P : Int) ∧ σ 5 k 0 = (((blen (K 0) + 7) / 8 : Nat) : Int) ∧ (∀ j, j < P → WN σ (32 + 8 * k + j) (K j)) ∧ K 0 ≠ 0 ∧ K 0 < 2 ^ 1024
theorem KY.frH {t : Nat} {σ s : St} {k P : Nat} {K : Nat → Nat} (h : KY σ k P K) (f : FH t σ s) : KY s k P K := by
  obtain ⟨h1, h2, h3, h4, h5⟩ := h
  refine ⟨h1, ?_, ?_, fun j hj => WN_frH (h4 j hj) f (by omega), h5⟩
  · rw [f 6 k (Or.inr (Or.inr (Or.inl ⟨by omega, by omega⟩))) (fun q => absurd q.1 (by decide))]; exact h2
  · rw [f 5 k (Or.inr (Or.inr (Or.inl ⟨by omega, by omega⟩))) (fun q => absurd q.1 (by decide))]; exact h3
theorem KY.le {σ : St} {k P : Nat} {K : Nat → Nat} (h : KY σ k P K) : P ≤ 8 ∧ 2 ≤ P := by have := h.1; omega
theorem blen_1024 {v : Nat} (h : v < 2 ^ 1024) : blen v ≤ 1024 := blen_le h
theorem KY.len {σ : St} {k P : Nat} {K : Nat → Nat} (h : KY σ k P K) : (blen (K 0) + 7) / 8 ≤ 128 ∧ 1 ≤ (blen (K 0) + 7) / 8 := by
  have := blen_le h.2.2.2.2.2
  have := blen_pos h.2.2.2.2.1
  omega
