/-! rows, with frames -/
def RW (σ : St) (i : Nat) (M : List Nat) : Prop := okR σ i ∧ row σ i = M
theorem okR.fr {σ s : St} {i : Nat} {l : List (Nat × Nat)} (h : okR σ i) (f : Fr l σ s) (h0 : (0, i) ∉ l) (h1 : (1, i) ∉ l) : okR s i := by
  unfold okR; rw [f 0 i h0, f 1 i h1]; exact h
theorem row_frm {σ s : St} {i : Nat} {l : List (Nat × Nat)} (f : Fr l σ s) (h0 : (0, i) ∉ l) (h1 : (1, i) ∉ l) : row s i = row σ i := by
  unfold row; rw [f 0 i h0, f 1 i h1]
theorem RW.fr {σ s : St} {i : Nat} {M : List Nat} {l : List (Nat × Nat)} (h : RW σ i M) (f : Fr l σ s) (h0 : (0, i) ∉ l) (h1 : (1, i) ∉ l) : RW s i M := ⟨h.1.fr f h0 h1, (row_frm f h0 h1).trans h.2⟩
theorem Fr.sr {σ : St} {i : Nat} {M : List Nat} {l : List (Nat × Nat)} (h0 : (0, i) ∈ l) (h1 : (1, i) ∈ l) : Fr l σ (sr σ i M) := by
  intro c a ha
  by_cases e : a = i
  · subst e
    by_cases c0 : c = 0
    · subst c0; exact absurd h0 ha
    · by_cases c1 : c = 1
      · subst c1; exact absurd h1 ha
      · rw [sr_c c0 c1]
  · rw [sr_ne0 e]
theorem RW.ok {σ : St} {i : Nat} {M : List Nat} (h : RW σ i M) : okR σ i := h.1
theorem RW.by {σ : St} {i : Nat} {M : List Nat} (h : RW σ i M) : BY M := by rw [← h.2]; exact h.1.by
theorem RW.cap {σ : St} {i : Nat} {M : List Nat} (h : RW σ i M) : M.length ≤ rcap i := by rw [← h.2]; exact h.1.cap
theorem RW.len {σ : St} {i : Nat} {M : List Nat} (h : RW σ i M) : σ 0 i 0 = (M.length : Int) := by rw [← h.2]; exact h.1.len
theorem RW.le {σ : St} {i : Nat} {M : List Nat} (h : RW σ i M) : M.length ≤ 296 := Nat.le_trans h.cap (rcap_le i)
theorem RW_of {σ s : St} {i : Nat} {M : List Nat} (ho : okR σ i) (e : s = sr σ i M) (hl : M.length ≤ rcap i) (hb : BY M) : RW s i M ∧ Fr [(0, i), (1, i)] σ s := by
  subst e
  exact ⟨⟨okR_sr' ho hl hb, row_sr⟩, Fr.sr (by simp) (by simp)⟩
theorem RW.self {σ : St} {i : Nat} (h : okR σ i) : RW σ i (row σ i) := ⟨h, rfl⟩
/-- all rows are rows -/
def AR (σ : St) : Prop := ∀ i, okR σ i
theorem AR.one {σ s : St} {i : Nat} {M : List Nat} (h : AR σ) (g : RW s i M) {l : List (Nat × Nat)} (f : Fr l σ s) (hl : ∀ q ∈ l, q.1 < 2 → q.2 = i) : AR s := by
  intro a
  by_cases e : a = i
  · subst e; exact g.1
  · exact (h a).fr f (fun q => e (hl _ q (by simp))) (fun q => e (hl _ q (by simp)))
theorem AR.fr {σ s : St} (h : AR σ) {l : List (Nat × Nat)} (f : Fr l σ s) (hl : ∀ q ∈ l, 2 ≤ q.1) : AR s := fun a =>
  (h a).fr f (fun q => absurd (hl _ q) (by simp)) (fun q => absurd (hl _ q) (by simp))
theorem blk_iff {L : List Nat} {s k : Nat} {p q : Prop} [Decidable p] [Decidable q] (h : p ↔ q) : blk L s p k = blk L s q k := by
  unfold blk
  by_cases hq : q ∧ k = 15
  · rw [if_pos hq, if_pos ⟨h.mpr hq.1, hq.2⟩]
  · rw [if_neg hq, if_neg (fun g => hq ⟨h.mp g.1, g.2⟩)]
theorem dsh (x : Int32) (r : Nat) (h : r < 4) : x >>> (iI (24 - (r : Int) * 8) &&& 31) = iI (x.toInt / ((2 ^ (24 - 8 * r) : Nat) : Int)) := by
  have e : (24 - (r : Int) * 8) = ((24 - 8 * r : Nat) : Int) := by omega
  rw [e]
  have g := iI_shr (rI_of x) (24 - 8 * r) (by omega)
  rw [iI_of] at g
  exact g
theorem sha_get {h : Int} {L : List Nat} {k : Nat} (hk : k < hl h) : (sha h L).getD k 0 = dby (shas h L (nbl L) (k / 4)) (k % 4) := by
  simp [sha, List.getD, List.getElem?_map, List.getElem?_range, hk]
theorem hl_le (h : Int) : hl h ≤ 32 := by unfold hl; split <;> omega
theorem hl_ge (h : Int) : 28 ≤ hl h := by unfold hl; split <;> omega
theorem take_get {L : List Nat} {k : Nat} (h : k < L.length) : L.take k ++ [L.getD k 0] = L.take (k + 1) := by
  have := gD_take_succ (L := L) (a := 0) (m := k) (by omega)
  simpa using this
/-- a counter's four bytes -/
def wb (b : Nat) : List Nat := [b / 16777216 % 256, b / 65536 % 256, b / 256 % 256, b % 256]
theorem wb_by {b : Nat} : BY (wb b) := by
  intro x hx
  simp only [wb, List.mem_cons, List.not_mem_nil, or_false] at hx
  omega
/-- the mask grown out of L -/
def msk (h : Int) (L : List Nat) (n : Nat) : List Nat := (List.range n).map (fun j => (sha h (L ++ wb (j / hl h))).getD (j % hl h) 0)
theorem msk_len {h : Int} {L : List Nat} {n : Nat} : (msk h L n).length = n := by simp [msk]
theorem msk_by {h : Int} {L : List Nat} {n : Nat} : BY (msk h L n) := by
  intro x hx
  simp only [msk, List.mem_map] at hx
  obtain ⟨k, -, rfl⟩ := hx
  exact BY.get sha_lt _
theorem msk_get {h : Int} {L : List Nat} {n j : Nat} (hj : j < n) : (msk h L n).getD j 0 = (sha h (L ++ wb (j / hl h))).getD (j % hl h) 0 := by
  simp [msk, List.getD, List.getElem?_map, List.getElem?_range, hj]
theorem msk_add {h : Int} {L : List Nat} {b m : Nat} (hm : m ≤ hl h) : msk h L (b * hl h) ++ (sha h (L ++ wb b)).take m = msk h L (b * hl h + m) := by
  have hp : 0 < hl h := by have := hl_ge h; omega
  apply List.ext_getElem
  · simp [msk_len, sha_len]; omega
  · intro n h1 h2
    have h2' : n < b * hl h + m := by simpa [msk_len] using h2
    have e2 : (msk h L (b * hl h + m))[n] = (msk h L (b * hl h + m)).getD n 0 := by rw [List.getD, List.getElem?_eq_getElem h2]; rfl
    rw [e2, msk_get h2']
    by_cases hn : n < b * hl h
    · rw [List.getElem_append_left (by rw [msk_len]; exact hn)]
      have e3 : (msk h L (b * hl h))[n]'(by rw [msk_len]; exact hn) = (msk h L (b * hl h)).getD n 0 := by rw [List.getD, List.getElem?_eq_getElem (by rw [msk_len]; exact hn)]; rfl
      rw [e3, msk_get hn]
    · rw [List.getElem_append_right (by rw [msk_len]; omega), List.getElem_take]
      have hq : n / hl h = b := by
        rw [Nat.div_eq_iff hp]
        have : (b + 1) * hl h = b * hl h + hl h := by rw [Nat.add_mul, Nat.one_mul]
        omega
      have hr : n % hl h = n - b * hl h := by
        have := Nat.div_add_mod n (hl h)
        rw [hq, Nat.mul_comm] at this
        omega
      rw [hq, hr]
      simp only [msk_len]
      rw [List.getD, List.getElem?_eq_getElem (by rw [sha_len]; omega)]
      rfl
