/-- key k of the model; what lasts in the model from call to call; what its digests need -/
def KM (σ : St) (k P : Nat) (K : Nat → Nat) : Prop := (P = 2 ∨ P = 8) ∧ σ 14 0 k = (if P = 8 then 1 else 0) ∧ (∀ j, j < P → σ 13 12 (8 * k + j) = ((nby (K j) : Nat) : Int) ∧ nby (K j) ≤ 128 ∧ AW (σ 13 11) (128 * (8 * k + j)) (be (K j) (nby (K j)))) ∧ K 0 ≠ 0
def HP (σ : St) (A : Ab) : Prop := (∀ s, s < 24 → SM1 σ s (A.1 s) ∧ BY (A.1 s)) ∧ (σ 10 0 1 = ((A.1 24).length : Int) ∧ (A.1 24).length ≤ 260 ∧ BY (A.1 24) ∧ AW (σ 13 2) 0 (A.1 24)) ∧ σ 10 0 5 = (A.2.1 : Int) ∧ A.2.1 ≤ 16 ∧ ∀ k, k < A.2.1 → KM σ k (A.2.2.1 k) (A.2.2.2 k)
abbrev Gh : Type := Inhabited (Fin 77 → Nat)
def ghk [Gh] : Nat := (default : Fin 77 → Nat) 0
def CO [Gh] (σ : St) : Prop := (σ 10 0 4 = 0 ∧ ghk = 0) ∨ (σ 10 0 4 = 1 ∧ (∀ k, k < 64 → iI (σ 13 7 k) = KR k) ∧ ∀ k, k < 8 → iI (σ 13 8 k) = sha0 0 k)
def DG [Gh] (σ : St) : Prop := σ 10 0 3 = 0 ∧ CO σ
def HM [Gh] (σ : St) (A : Ab) : Prop := HP σ A ∧ AN σ ∧ DG σ
def Gk (c i : Nat) : Bool := decide (c < 10) || (c == 13 && (decide (i ≤ 2) || i == 11 || i == 12)) || c == 14 || c == 15 || (c == 16 && decide (i < 4096)) || decide (17 ≤ c)
/-- of what lasts nothing changes -/
def FG (σ s : St) : Prop := (∀ c i, Gk c i = true → s c i = σ c i) ∧ s 10 0 1 = σ 10 0 1 ∧ s 10 0 5 = σ 10 0 5
def FC (σ s : St) : Prop := ∀ c i, (c < 10 ∨ c = 15 ∨ (c = 16 ∧ i < 4096) ∨ 17 ≤ c) → s c i = σ c i
theorem FG.rf {σ : St} : FG σ σ := ⟨fun _ _ _ => rfl, rfl, rfl⟩
theorem FG.tr {σ s t : St} (h : FG σ s) (g : FG s t) : FG σ t := ⟨fun c i k => (g.1 c i k).trans (h.1 c i k), g.2.1.trans h.2.1, g.2.2.trans h.2.2⟩
theorem FG.fr {σ s t : St} {l : List (Nat × Nat)} (h : FG σ s) (f : Fr l s t) (hl : l.all (fun q => !Gk q.1 q.2) = true) (h0 : (10, 0) ∉ l) : FG σ t := by
  have e := f 10 0 h0
  refine h.tr ⟨fun c i k => f c i (fun q => ?_), by rw [e], by rw [e]⟩
  have := List.all_eq_true.mp hl _ q
  simp [k] at this
theorem FG.fp {σ s t : St} (h : FG σ s) (f : FP s t) : FG σ t := by
  refine h.tr ⟨fun c i k => f.1 c i (fun q => ?_), f.2 1 (by decide), f.2 5 (by decide)⟩
  simp only [List.mem_cons, List.not_mem_nil, or_false, Prod.mk.injEq] at q
  rcases q with ⟨rfl, rfl⟩ | ⟨rfl, rfl⟩ <;> exact absurd k (by decide)
theorem FG.fd {σ s t : St} (h : FG σ s) (f : FD s t) : FG σ t := by
  refine h.tr ⟨fun c i k => f.1 c i (fun q => ?_), f.2 1 (by decide), f.2 5 (by decide)⟩
  simp only [List.mem_cons, List.not_mem_nil, or_false, Prod.mk.injEq] at q
  rcases q with ⟨rfl, rfl⟩ | ⟨rfl, rfl⟩ <;> exact absurd k (by decide)
theorem FG.s10 {σ s : St} {v : Int} {j : Nat} (h : FG σ s) (h1 : j ≠ 1) (h5 : j ≠ 5) : FG σ (su s 10 0 j v) := by
  refine h.tr ⟨fun c i k => ?_, su_j (Ne.symm h1), su_j (Ne.symm h5)⟩
  funext q
  refine su_c (fun e => ?_)
  subst e
  exact absurd k (by simp [Gk])
theorem FG.sa {σ s : St} {v : Int} {a j : Nat} (h : FG σ s) (ha : Gk 13 a = false) : FG σ (su s 13 a j v) := by
  refine h.tr ⟨fun c i k => ?_, su_c (by decide), su_c (by decide)⟩
  funext q
  by_cases e : c = 13
  · subst e
    refine su_i (fun e2 => ?_)
    subst e2
    rw [ha] at k
    cases k
  · exact su_c e
theorem FG.fc {σ s : St} (h : FG σ s) : FC σ s := fun c i hc => h.1 c i (by simp [Gk]; omega)
theorem FC.rf {σ : St} : FC σ σ := fun _ _ _ => rfl
theorem FC.tr {σ s t : St} (h : FC σ s) (g : FC s t) : FC σ t := fun c i k => (g c i k).trans (h c i k)
theorem FC.fr {σ s t : St} {l : List (Nat × Nat)} (h : FC σ s) (f : Fr l s t) (hl : l.all (fun q => decide ((10 ≤ q.1 ∧ q.1 < 15) ∨ (q.1 = 16 ∧ 4096 ≤ q.2))) = true) : FC σ t := by
  refine h.tr (fun c i hc => f c i (fun q => ?_))
  have := List.all_eq_true.mp hl _ q
  simp at this
  omega
theorem DG.fr [Gh] {s t : St} {l : List (Nat × Nat)} (h : DG s) (f : Fr l s t) (h0 : (10, 0) ∉ l) (h7 : (13, 7) ∉ l) (h8 : (13, 8) ∉ l) : DG t := by
  unfold DG CO
  rw [f 10 0 h0, f 13 7 h7, f 13 8 h8]
  exact h
theorem DG.fp [Gh] {s t : St} (h : DG s) (f : FP s t) : DG t := by
  unfold DG CO
  rw [f.1 13 7 (by simp), f.1 13 8 (by simp), f.2 3 (by decide), f.2 4 (by decide)]
  exact h
theorem DG.s10 [Gh] {s : St} {v : Int} {j : Nat} (h : DG s) (h3 : j ≠ 3) (h4 : j ≠ 4) : DG (su s 10 0 j v) := by
  unfold DG CO
  rw [su_rc (by decide : (13 : Nat) ≠ 10), su_j (Ne.symm h3), su_j (Ne.symm h4)]
  exact h
theorem DG.sa [Gh] {s : St} {v : Int} {a j : Nat} (h : DG s) (h7 : a ≠ 7) (h8 : a ≠ 8) : DG (su s 13 a j v) := by
  unfold DG CO
  rw [su_ri (Ne.symm h7), su_ri (Ne.symm h8), su_c (by decide), su_c (by decide)]
  exact h
theorem AN.s1 {s : St} {c i j : Nat} {v : Int} (h : AN s) (hc : 12 ≠ c) : AN (su s c i j v) := fun q j' => by rw [su_c hc]; exact h q j'
theorem AN.fp {s t : St} {l : List (Nat × Nat)} (h : AN s) (f : Fr l s t) (hl : l.all (fun q => decide (q.1 ≠ 12)) = true) : AN t := fun q j => by
  rw [f 12 q (fun e => ?_)]
  · exact h q j
  · have := List.all_eq_true.mp hl _ e
    simp at this
theorem SM1.fg {σ s : St} {i : Nat} {L : List Nat} (h : SM1 σ i L) (f : FG σ s) : SM1 s i L := by
  unfold SM1
  rw [f.1 13 1 rfl, f.1 13 0 rfl]
  exact h
theorem KM.fg {σ s : St} {k P : Nat} {K : Nat → Nat} (h : KM σ k P K) (f : FG σ s) : KM s k P K := by
  unfold KM
  rw [f.1 13 11 rfl, f.1 13 12 rfl, f.1 14 0 rfl]
  exact h
theorem HP.fg {σ s : St} {A : Ab} (h : HP σ A) (f : FG σ s) : HP s A := by
  obtain ⟨h1, h2, h3, h4, h5⟩ := h
  refine ⟨fun i hi => ⟨(h1 i hi).1.fg f, (h1 i hi).2⟩, ?_, by rw [f.2.2]; exact h3, h4, fun k hk => (h5 k hk).fg f⟩
  rw [f.2.1, f.1 13 2 rfl]
  exact h2
theorem HP.put {σ s : St} {A : Ab} {t : Nat} {M : List Nat} (h : HP σ A) (ht : t < 24) (hS : SM1 s t M) (hB : BY M) (c0 : ∀ q, (q < 256 * t ∨ 256 * t + M.length ≤ q) → s 13 0 q = σ 13 0 q) (c1 : ∀ q, q ≠ t → s 13 1 q = σ 13 1 q) (e2 : s 13 2 = σ 13 2) (e11 : s 13 11 = σ 13 11) (e12 : s 13 12 = σ 13 12) (e14 : s 14 0 = σ 14 0) (e1 : s 10 0 1 = σ 10 0 1) (e5 : s 10 0 5 = σ 10 0 5) : HP s (A.put t M) := by
  obtain ⟨h1, h2, h3, h4, h5⟩ := h
  have hn : (A.put t M).1 24 = A.1 24 := by
    show (if 24 = t then M else A.1 24) = _
    rw [if_neg (by omega)]
  refine ⟨fun i hi => ?_, ?_, by rw [e5]; exact h3, h4, fun k hk => ?_⟩
  · by_cases e : i = t
    · subst e
      show SM1 s i (if i = i then M else A.1 i) ∧ BY (if i = i then M else A.1 i)
      rw [if_pos rfl]
      exact ⟨hS, hB⟩
    · show SM1 s i (if i = t then M else A.1 i) ∧ BY (if i = t then M else A.1 i)
      rw [if_neg e]
      obtain ⟨⟨a1, a2, a3⟩, a4⟩ := h1 i hi
      have := hS.2.1
      exact ⟨⟨by rw [c1 i e]; exact a1, a2, fun j hj => by rw [c0 _ (by omega)]; exact a3 j hj⟩, a4⟩
  · rw [hn, e1, e2]
    exact h2
  · show KM s k (A.2.2.1 k) (A.2.2.2 k)
    have := h5 k hk
    unfold KM
    rw [e11, e12, e14]
    exact this
theorem HM.same [Gh] {σ s : St} {A : Ab} (h : HM σ A) (f : FG σ s) (hA : AN s) (hD : DG s) : HM s A := ⟨h.1.fg f, hA, hD⟩
/-- the scratch row is written to a slot -/
theorem wr_post [Gh] {σ s s' : St} {A : Ab} {t : Nat} {M : List Nat} {r : Int} {f : Res} (hf : f = (0, (M.length : Int), A.put t M)) (hB : BY M) (hM : HM σ A) (hG : FG σ s) (hA : AN s) (hD : DG s) (h0 : s 10 0 0 = 0) (ht : t < 24) (g : r = (M.length : Int) ∧ SM1 s' t M ∧ (∀ q, (q < 256 * t ∨ 256 * t + M.length ≤ q) → s' 13 0 q = s 13 0 q) ∧ (∀ q, q ≠ t → s' 13 1 q = s 13 1 q) ∧ Fr [(13, 0), (13, 1)] s s') : ∃ A', f = (s' 10 0 0, r, A') ∧ HM s' A' ∧ FC σ s' := by
  obtain ⟨g1, g2, g3, g4, g5⟩ := g
  have e := g5 10 0 (by decide)
  refine ⟨_, by rw [hf, e, h0, g1], ⟨(hM.1.fg hG).put ht g2 hB g3 g4 (g5 13 2 (by decide)) (g5 13 11 (by decide)) (g5 13 12 (by decide)) (g5 14 0 (by decide)) (by rw [e]) (by rw [e]), hA.fp g5 rfl, hD.fr g5 (by decide) (by decide) (by decide)⟩, hG.fc.fr g5 (by decide)⟩
theorem wn_post [Gh] {σ s s' : St} {A : Ab} {t v : Nat} {r : Int} {f : Res} (hf : f = putR A t v) (hM : HM σ A) (hG : FG σ s) (hA : AN s) (hD : DG s) (h0 : s 10 0 0 = 0) (ht : t < 24) (g : (r = -4 ∧ 256 < nby v ∧ s' = s) ∨ (r = ((nby v : Nat) : Int) ∧ nby v ≤ 256 ∧ SM1 s' t (be v (nby v)) ∧ (∀ q, (q < 256 * t ∨ 256 * t + nby v ≤ q) → s' 13 0 q = s 13 0 q) ∧ (∀ q, q ≠ t → s' 13 1 q = s 13 1 q) ∧ (∀ j, j ≠ 2 → s' 10 0 j = s 10 0 j) ∧ Fr [(10, 0), (13, 3), (13, 0), (13, 1)] s s')) : ∃ A', f = (s' 10 0 0, r, A') ∧ HM s' A' ∧ FC σ s' := by
  rw [hf]
  unfold putR
  rcases g with ⟨e1, e2, rfl⟩ | ⟨e1, e2, g2, g3, g4, g6, g5⟩
  · exact ⟨A, by rw [if_pos e2, h0, e1], hM.same hG hA hD, hG.fc⟩
  · refine ⟨A.put t (be v (nby v)), by rw [if_neg (by omega), g6 0 (by decide), h0, e1], ⟨(hM.1.fg hG).put ht g2 be_by (by rw [be_len]; exact g3) g4 (g5 13 2 (by decide)) (g5 13 11 (by decide)) (g5 13 12 (by decide)) (g5 14 0 (by decide)) (g6 1 (by decide)) (g6 5 (by decide)), hA.fp g5 rfl, ?_⟩, hG.fc.fr g5 (by decide)⟩
    unfold DG CO
    rw [g5 13 7 (by decide), g5 13 8 (by decide), g6 3 (by decide), g6 4 (by decide)]
    exact hD
theorem HP.len {σ : St} {A : Ab} {s : Nat} (h : HP σ A) (hs : s < 24) : (A.1 s).length ≤ 256 := (h.1 s hs).1.2.1
theorem HP.by {σ : St} {A : Ab} {s : Nat} (h : HP σ A) (hs : s < 24) : BY (A.1 s) := (h.1 s hs).2
theorem rv_lb {L : List Nat} (h : BY L) (hl : L.length ≤ 256) : lb (rv L) 128 := by
  refine Nat.lt_of_lt_of_le (rv_lt h) ?_
  rw [show (65536 : Nat) = 256 ^ 2 from rfl, ← Nat.pow_mul]
  exact Nat.pow_le_pow_right (by omega) (by omega)
