/-! rows of bytes, as lists -/
def okR (σ : St) (i : Nat) : Prop := 0 ≤ σ 0 i 0 ∧ σ 0 i 0 ≤ (rcap i : Int) ∧ ∀ j, 0 ≤ σ 1 i j ∧ σ 1 i j < 256
def row (σ : St) (i : Nat) : List Nat := (List.range (σ 0 i 0).toNat).map (fun j => (σ 1 i j).toNat)
def sr (σ : St) (i : Nat) (L : List Nat) : St := fun c i' j => if c = 0 ∧ i' = i ∧ j = 0 then (L.length : Int) else if c = 1 ∧ i' = i ∧ j < L.length then ((L.getD j 0 : Nat) : Int) else σ c i' j
theorem bI_m (v : Int) : (iI v).toInt8.toInt32 = bI (v % 256) := by
  show bI v = bI (v % 256)
  unfold bI
  apply Int32.toInt_inj.mp
  rw [Int8.toInt_toInt32, Int8.toInt_toInt32, Int32.toInt_toInt8, Int32.toInt_toInt8]
  show (Int32.ofInt v).toInt.bmod 256 = (Int32.ofInt (v % 256)).toInt.bmod 256
  rw [Int32.toInt_ofInt, Int32.toInt_ofInt, show Int32.size = 4294967296 from rfl]
  rw [← Int.emod_bmod (x := v.bmod 4294967296) (n := 256), ← Int.emod_bmod (x := (v % 256).bmod 4294967296) (n := 256)]
  congr 1
  have e1 : v.bmod 4294967296 % 4294967296 = v % 4294967296 := Int.bmod_emod
  have e2 : (v % 256).bmod 4294967296 % 4294967296 = (v % 256) % 4294967296 := Int.bmod_emod
  show v.bmod 4294967296 % 256 = (v % 256).bmod 4294967296 % 256
  omega
theorem gD_out {L : List Nat} {j : Nat} (h : L.length ≤ j) : L.getD j 0 = 0 := by simp [List.getD, List.getElem?_eq_none h]
theorem row_len {σ : St} {i : Nat} : (row σ i).length = (σ 0 i 0).toNat := by simp [row]
theorem okR.len {σ : St} {i : Nat} (h : okR σ i) : σ 0 i 0 = ((row σ i).length : Int) := by rw [row_len]; have := h.1; omega
theorem okR.cap {σ : St} {i : Nat} (h : okR σ i) : (row σ i).length ≤ rcap i := by have := h.2.1; have := h.len; omega
theorem row_get {σ : St} {i j : Nat} (h : j < (row σ i).length) : (row σ i).getD j 0 = (σ 1 i j).toNat := by
  rw [row_len] at h
  simp [row, List.getD, List.getElem?_map, List.getElem?_range, h]
theorem okR.get {σ : St} {i j : Nat} (h : okR σ i) (hj : j < (row σ i).length) : σ 1 i j = (((row σ i).getD j 0 : Nat) : Int) := by
  rw [row_get hj]; have := (h.2.2 j).1; omega
theorem okR.lt {σ : St} {i : Nat} (h : okR σ i) : ∀ x ∈ row σ i, x < 256 := by
  intro x hx
  simp only [row, List.mem_map] at hx
  obtain ⟨j, -, rfl⟩ := hx
  have := h.2.2 j
  omega
theorem okR.getlt {σ : St} {i : Nat} (h : okR σ i) (j : Nat) : (row σ i).getD j 0 < 256 := by
  by_cases hj : j < (row σ i).length
  · rw [row_get hj]; have := h.2.2 j; omega
  · rw [gD_out (by omega)]; omega
theorem sr_len {σ : St} {i : Nat} {L : List Nat} : sr σ i L 0 i 0 = (L.length : Int) := by simp [sr]
theorem row_sr {σ : St} {i : Nat} {L : List Nat} : row (sr σ i L) i = L := by
  unfold row
  rw [sr_len, Int.toNat_natCast]
  apply List.ext_getElem
  · simp
  · intro n h1 h2
    simp [sr, h2]
theorem sr_ne0 {σ : St} {i i' : Nat} {L : List Nat} (h : i' ≠ i) (c : Nat) : sr σ i L c i' = σ c i' := by funext j; simp [sr, h]
theorem row_sr_ne {σ : St} {i i' : Nat} {L : List Nat} (h : i' ≠ i) : row (sr σ i L) i' = row σ i' := by unfold row; rw [sr_ne0 h, sr_ne0 h]
theorem sr_c {σ : St} {i c : Nat} {L : List Nat} (h0 : c ≠ 0) (h1 : c ≠ 1) : sr σ i L c = σ c := by funext a b; simp [sr, h0, h1]
theorem okR_sr {σ : St} {i : Nat} {L : List Nat} (h : okR σ i) (hL : L.length ≤ rcap i) (hb : ∀ x ∈ L, x < 256) : okR (sr σ i L) i := by
  refine ⟨by rw [sr_len]; omega, by rw [sr_len]; omega, fun j => ?_⟩
  by_cases hj : j < L.length
  · have hm : L.getD j 0 < 256 := by
      rw [List.getD, List.getElem?_eq_getElem hj]
      exact hb _ (List.getElem_mem hj)
    have e : sr σ i L 1 i j = ((L.getD j 0 : Nat) : Int) := by simp [sr, hj]
    rw [e]; omega
  · have e : sr σ i L 1 i j = σ 1 i j := by simp [sr, hj]
    rw [e]; exact h.2.2 j
theorem okR_sr_ne {σ : St} {i i' : Nat} {L : List Nat} (h : i' ≠ i) (ho : okR σ i') : okR (sr σ i L) i' := by
  unfold okR; rw [sr_ne0 h, sr_ne0 h]; exact ho
theorem sr_push {σ : St} {i : Nat} {v : Int} (h : okR σ i) (hv : 0 ≤ v ∧ v < 256) : su (su σ 1 i (row σ i).length v) 0 i 0 (((row σ i).length : Int) + 1) = sr σ i (row σ i ++ [v.toNat]) := by
  funext c a b
  by_cases ha : a = i
  · subst ha
    by_cases h0 : c = 0
    · subst h0
      by_cases hb : b = 0
      · subst hb; simp [su, sr]
      · simp [su, sr, hb]
    · by_cases h1 : c = 1
      · subst h1
        rcases Nat.lt_trichotomy b (row σ a).length with hb | hb | hb
        · have e := h.get hb
          have hb' : b < (row σ a).length + 1 := by omega
          have hne : b ≠ (row σ a).length := by omega
          simp only [su, sr, List.length_append, List.length_singleton, hb', hne]
          simp [List.getD, List.getElem?_append_left hb] at e ⊢
          rw [e]
        · subst hb
          simp [su, sr, List.getD]
          omega
        · have hb' : ¬ b < (row σ a).length + 1 := by omega
          have hne : b ≠ (row σ a).length := by omega
          simp [su, sr, hb', hne]
      · simp [su, sr, h0, h1]
  · simp [su, sr, ha]
theorem sr_put {σ : St} {i k : Nat} {v : Int} (h : okR σ i) (hk : k < (row σ i).length) (hv : 0 ≤ v ∧ v < 256) : su σ 1 i k v = sr σ i ((row σ i).set k v.toNat) := by
  funext c a b
  by_cases ha : a = i
  · subst ha
    by_cases h0 : c = 0
    · subst h0
      by_cases hb : b = 0
      · subst hb; simp [su, sr]; exact h.len
      · simp [su, sr, hb]
    · by_cases h1 : c = 1
      · subst h1
        by_cases hb : b < (row σ a).length
        · have e := h.get hb
          by_cases hbk : b = k
          · subst hbk
            simp [su, sr, hb, List.getD]
            omega
          · simp [su, sr, hb, hbk, List.getD, List.getElem?_set, Ne.symm hbk] at e ⊢
            rw [e]
        · have hne : b ≠ k := by omega
          simp [su, sr, hb, hne]
      · simp [su, sr, h0, h1]
  · simp [su, sr, ha]
theorem sr_sr {σ : St} {i : Nat} {L : List Nat} {M : List Nat} (h : L.length ≤ M.length) : sr (sr σ i L) i M = sr σ i M := by
  funext c a b
  by_cases ha : a = i
  · subst ha
    by_cases h0 : c = 0
    · subst h0; by_cases hb : b = 0 <;> simp [sr, hb]
    · by_cases h1 : c = 1
      · subst h1
        by_cases hb : b < M.length
        · simp [sr, hb]
        · have : ¬ b < L.length := by omega
          simp [sr, hb, this]
      · simp [sr, h0, h1]
  · simp [sr, ha]
theorem sr_self {σ : St} {i : Nat} (h : okR σ i) : sr σ i (row σ i) = σ := by
  funext c a b
  by_cases ha : a = i
  · subst ha
    by_cases h0 : c = 0
    · subst h0
      by_cases hb : b = 0
      · subst hb; simp [sr]; exact h.len.symm
      · simp [sr, hb]
    · by_cases h1 : c = 1
      · subst h1
        by_cases hb : b < (row σ a).length
        · have e := h.get hb
          simp [sr, hb] at e ⊢
          exact e.symm
        · simp [sr, hb]
      · simp [sr, h0, h1]
  · simp [sr, ha]
theorem sr_app {σ : St} {i : Nat} {M A : List Nat} : sr (sr σ i M) i (row (sr σ i M) i ++ A) = sr σ i (M ++ A) := by rw [row_sr, sr_sr (by simp)]
/-- bytes -/
def BY (L : List Nat) : Prop := ∀ x ∈ L, x < 256
theorem BY.app {L M : List Nat} (h : BY L) (g : BY M) : BY (L ++ M) := fun x hx => (List.mem_append.mp hx).elim (h x) (g x)
theorem BY.nil : BY [] := fun x hx => by cases hx
theorem BY.one {a : Nat} (h : a < 256) : BY [a] := fun x hx => by rw [List.mem_singleton.mp hx]; exact h
theorem BY.cons {a : Nat} {L : List Nat} (h : a < 256) (g : BY L) : BY (a :: L) := fun x hx => (List.mem_cons.mp hx).elim (fun e => by rw [e]; exact h) (g x)
theorem BY.rep {a n : Nat} (h : a < 256) : BY (List.replicate n a) := fun x hx => by rw [List.eq_of_mem_replicate hx]; exact h
theorem BY.take {L : List Nat} {n : Nat} (h : BY L) : BY (L.take n) := fun x hx => h x (List.mem_of_mem_take hx)
theorem BY.drop {L : List Nat} {n : Nat} (h : BY L) : BY (L.drop n) := fun x hx => h x (List.mem_of_mem_drop hx)
theorem BY.get {L : List Nat} (h : BY L) (j : Nat) : L.getD j 0 < 256 := by
  by_cases hj : j < L.length
  · rw [List.getD, List.getElem?_eq_getElem hj]; exact h _ (List.getElem_mem hj)
  · rw [gD_out (by omega)]; omega
theorem okR.by {σ : St} {i : Nat} (h : okR σ i) : BY (row σ i) := h.lt
theorem m256 (v : Int) : (v % 256).toNat < 256 := by omega
theorem okR_sr' {σ : St} {i : Nat} {L : List Nat} (h : okR σ i) (hL : L.length ≤ rcap i) (hb : BY L) : okR (sr σ i L) i := okR_sr h hL hb
theorem rcap_le (i : Nat) : rcap i ≤ 296 := by unfold rcap; split <;> (try split) <;> (try split) <;> (try split) <;> (try split) <;> (try split) <;> omega
theorem gD_take_succ {L : List Nat} {a m : Nat} (h : a + m < L.length) : (L.drop a).take m ++ [L.getD (a + m) 0] = (L.drop a).take (m + 1) := by
  rw [List.take_succ, List.getElem?_drop, List.getElem?_eq_getElem h]
  simp [List.getD, List.getElem?_eq_getElem h]
