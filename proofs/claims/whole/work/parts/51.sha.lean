/-! the digests, as functions of lists of bytes -/
theorem v_iastR {X : CX} {z : Nat × Nat} {w : Wl} {cc : ByteArray} {nL : Nat} {own : String} {ret : Option FieldType} {pc nx : Nat} {lv : List (Nat × Value)} {σ : St} {st : List Value} (hX : okX X cc nL own ret) {c i n : Nat} {a : Int} {x : Int32} (j : Nat) (hl : w.2 (oc c) i) (hoc : oc c < 30) (hc : ∀ (σ : St) g, cont g w.1 σ (oc c) i = .inl (g 1, n, .inl (fun j => iI (σ c i j)))) (ha : a = (j : Int)) (hj : j < n) (hn : n < 2147483648) (hdg : At cc pc .iastore 1 nx) (kk : V X z w nx lv (su σ c i j x.toInt) st) : V X z w pc lv σ (.int x :: .int (iI a) :: .ref (w.1 (oc c) i) :: st) := by
  have h := v_iast hX (st := st) j hl hoc hc ha hj hn hdg kk
  rw [iI_of] at h
  exact h
def us (x y : Int32) : Int32 := (x.toUInt32 >>> (y.toUInt32 &&& Int32.toUInt32 31)).toInt32
def rt (x : Int32) (k : Int) : Int32 := us x (iI k) ||| x <<< (iI (32 - k) &&& 31)
def sg0 (x : Int32) : Int32 := rt x 7 ^^^ rt x 18 ^^^ us x (iI 3)
def sg1 (x : Int32) : Int32 := rt x 17 ^^^ rt x 19 ^^^ us x (iI 10)
def bS0 (x : Int32) : Int32 := rt x 2 ^^^ rt x 13 ^^^ rt x 22
def bS1 (x : Int32) : Int32 := rt x 6 ^^^ rt x 11 ^^^ rt x 25
def cho (e f g : Int32) : Int32 := (e &&& f) ^^^ ((e ^^^ iI (-1)) &&& g)
def maj (a b c : Int32) : Int32 := ((a &&& b) ^^^ (a &&& c)) ^^^ (b &&& c)
def sch (b : Nat → Int32) (k : Nat) : Int32 := if k < 16 then b k else sg1 (sch b (k - 2)) + sch b (k - 7) + sg0 (sch b (k - 15)) + sch b (k - 16)
termination_by k
decreasing_by all_goals omega
theorem sch_lo {b : Nat → Int32} {k : Nat} (h : k < 16) : sch b k = b k := by rw [sch, if_pos h]
theorem sch_hi {b : Nat → Int32} {k : Nat} (h : 16 ≤ k) : sch b k = sg1 (sch b (k - 2)) + sch b (k - 7) + sg0 (sch b (k - 15)) + sch b (k - 16) := by rw [sch, if_neg (by omega)]
theorem sch_congr {a b : Nat → Int32} (h : ∀ j, j < 16 → a j = b j) (k : Nat) : sch a k = sch b k := by
  induction k using Nat.strongRecOn with
  | _ k ih =>
    by_cases hk : k < 16
    · rw [sch_lo hk, sch_lo hk, h k hk]
    · rw [sch_hi (by omega), sch_hi (b := b) (by omega), ih (k - 2) (by omega), ih (k - 7) (by omega), ih (k - 15) (by omega), ih (k - 16) (by omega)]
def one1 (m : Nat → Int32) (x : Int32) : Int32 := m 7 + bS1 (m 4) + cho (m 4) (m 5) (m 6) + x
def two2 (m : Nat → Int32) : Int32 := bS0 (m 0) + maj (m 0) (m 1) (m 2)
def rnd (m : Nat → Int32) (x : Int32) (j : Nat) : Int32 := if j = 0 then one1 m x + two2 m else if j = 4 then m 3 + one1 m x else m (j - 1)
theorem rnd_congr {m n : Nat → Int32} (h : ∀ j, j < 8 → m j = n j) (x : Int32) : ∀ j, j < 8 → rnd m x j = rnd n x j := by
  intro j hj
  unfold rnd one1 two2
  rw [h 0 (by omega), h 1 (by omega), h 2 (by omega), h 3 (by omega), h 4 (by omega), h 5 (by omega), h 6 (by omega), h 7 (by omega), h (j - 1) (by omega)]
def rnds (K W m : Nat → Int32) : Nat → Nat → Int32
  | 0 => m
  | n + 1 => rnd (rnds K W m n) (K n + W n)
theorem rnds_congr {K K' W W' m n : Nat → Int32} (h : ∀ j, j < 8 → m j = n j) (hK : ∀ j, j < 64 → K j = K' j) (hW : ∀ j, j < 64 → W j = W' j) : ∀ k, k ≤ 64 → ∀ j, j < 8 → rnds K W m k j = rnds K' W' n k j
  | 0, _ => h
  | k + 1, hk => fun j hj => by
    show rnd (rnds K W m k) (K k + W k) j = rnd (rnds K' W' n k) (K' k + W' k) j
    rw [hK k (by omega), hW k (by omega)]
    exact rnd_congr (rnds_congr h hK hW k (by omega)) _ j hj
def KR (k : Nat) : Int32 := iI ((sT 3).getD k 0)
def comp (b st : Nat → Int32) (j : Nat) : Int32 := st j + rnds KR (sch b) st 64 j
/-- the byte at a place of the padded message -/
def pbt (L : List Nat) (p : Nat) : Nat := if p = L.length then 128 else L.getD p 0
def wd4 (a b c d : Nat) : Int32 := iI ((a : Int) * 16777216) ||| iI ((b : Int) * 65536) ||| iI ((c : Int) * 256) ||| iI (d : Int)
def wdm (L : List Nat) (s k : Nat) : Int32 := wd4 (pbt L (s + 4 * k)) (pbt L (s + 4 * k + 1)) (pbt L (s + 4 * k + 2)) (pbt L (s + 4 * k + 3))
def blk (L : List Nat) (s : Nat) (last : Prop) [Decidable last] (k : Nat) : Int32 := if last ∧ k = 15 then iI ((L.length : Int) * 8) else wdm L s k
def sha0 (h : Int) (k : Nat) : Int32 := iI ((sT (if h = 0 then 1 else 2)).getD k 0)
def nbl (L : List Nat) : Nat := (L.length + 8) / 64 + 1
def shas (h : Int) (L : List Nat) : Nat → Nat → Int32
  | 0 => sha0 h
  | b + 1 => comp (blk L (64 * b) (b + 1 = nbl L)) (shas h L b)
def hl (h : Int) : Nat := if h = 0 then 32 else 28
def dby (x : Int32) (j : Nat) : Nat := (x.toInt / ((2 ^ (24 - 8 * j) : Nat) : Int) % 256).toNat
def sha (h : Int) (L : List Nat) : List Nat := (List.range (hl h)).map (fun k => dby (shas h L (nbl L) (k / 4)) (k % 4))
theorem sha_len {h : Int} {L : List Nat} : (sha h L).length = hl h := by simp [sha]
theorem dby_lt {x : Int32} {j : Nat} : dby x j < 256 := by unfold dby; omega
theorem sha_lt {h : Int} {L : List Nat} : ∀ x ∈ sha h L, x < 256 := by
  intro x hx
  simp only [sha, List.mem_map] at hx
  obtain ⟨k, -, rfl⟩ := hx
  exact dby_lt
def wf (σ : St) (i j : Nat) : Int32 := iI (σ 9 i j)
theorem wf_s {σ : St} {i j : Nat} {x : Int32} : wf (su σ 9 i j x.toInt) i j = x := by unfold wf; rw [su_s, iI_of]
theorem wf_j {σ : St} {i j j' : Nat} {v : Int} (h : j' ≠ j) : wf (su σ 9 i j v) i j' = wf σ i j' := by unfold wf; rw [su_j h]
theorem wf_i {σ : St} {i j i' j' : Nat} {v : Int} (h : i' ≠ i) : wf (su σ 9 i j v) i' j' = wf σ i' j' := by unfold wf; rw [su_i h]
theorem wf_fr {σ σ' : St} {i : Nat} {l : List (Nat × Nat)} (f : Fr l σ σ') (h : (9, i) ∉ l) (j : Nat) : wf σ' i j = wf σ i j := by unfold wf; rw [f 9 i h]
