/-! two are done at once -/
theorem Wad.mem {w w' : Wl} {l l' : List (Nat × Nat)} (h : Wad w w' l) (he : ∀ q, q ∈ l ↔ q ∈ l') : Wad w w' l' := ⟨fun k i => (h.1 k i).trans (or_congr Iff.rfl (he (k, i))), h.2⟩
theorem Wad.frs {w w' : Wl} {l fl : List (Nat × Nat)} (h : Wad w w' l) (h0 : ∀ q ∈ fl, ¬ w.2 q.1 q.2) (hd : ∀ q ∈ fl, q ∉ l) : ∀ q ∈ fl, ¬ w'.2 q.1 q.2 := fun q hq => h.fr (h0 q hq) (hd q hq)
theorem wup_frs {w : Wl} {fl : List (Nat × Nat)} {k i a : Nat} (h0 : ∀ q ∈ fl, ¬ w.2 q.1 q.2) (hd : (k, i) ∉ fl) : ∀ q ∈ fl, ¬ (wup w k i a).2 q.1 q.2 := fun q hq e => e.elim (h0 q hq) (fun e => hd (by rw [← e.1, ← e.2]; exact hq))
theorem v_eq0 {X : CX} {z : Nat × Nat} {w : Wl} {pc : Nat} {lv : List (Nat × Value)} {σ : St} {st : List Value} {b b' : Nat} (h2 : b' = b) (kk : V X z w pc lv σ (.ref b' :: st)) : V X z w pc lv σ (.ref b :: st) := by subst h2; exact kk
theorem cont_r6 {g : Nat → ClassId} {ad : Ly} {σ : St} {i k' i' : Nat} {v : Int} (h : ¬ (k' = 36 ∧ i' = i)) : cont g ad (su σ 21 6 i v) k' i' = cont g ad σ k' i' := by
  have e6 : su σ 21 6 i v 6 = σ 6 := su_rc (by decide)
  have e7 : su σ 21 6 i v 7 = σ 7 := su_rc (by decide)
  unfold cont
  split
  all_goals first
    | rfl
    | (exact ob_congr (fun c hc => by rw [su_rc (fun e => by rw [e] at hc; cases hc)]))
    | (unfold raw; rw [su21 (fun e => absurd e.1 (by decide))]; done)
    | (rw [e6, su21 (fun e => h ⟨rfl, e.2⟩)]; done)
    | (rw [su21 (fun e => absurd e.1 (by decide))]; done)
theorem mn_r6 {σ : St} {i k' i' : Nat} {v : Int} (h : ¬ (k' = 36 ∧ i' = i)) : mn (su σ 21 6 i v) k' i' = mn σ k' i' := by
  have e6 : su σ 21 6 i v 6 = σ 6 := su_rc (by decide)
  have e7 : su σ 21 6 i v 7 = σ 7 := su_rc (by decide)
  unfold mn
  split
  all_goals first
    | rfl
    | (rw [su21 (fun e => absurd e.1 (by decide))]; done)
    | (rw [e6, su21 (fun e => h ⟨rfl, e.2⟩)]; done)
theorem cont_r11 {g : Nat → ClassId} {ad : Ly} {σ : St} {k' i' : Nat} {v : Int} (h : k' ≠ 41) : cont g ad (su σ 21 11 0 v) k' i' = cont g ad σ k' i' := by
  have e6 : su σ 21 11 0 v 6 = σ 6 := su_rc (by decide)
  have e7 : su σ 21 11 0 v 7 = σ 7 := su_rc (by decide)
  unfold cont
  split
  all_goals first
    | rfl
    | (exact ob_congr (fun c hc => by rw [su_rc (fun e => by rw [e] at hc; cases hc)]))
    | (unfold raw; rw [su21 (fun e => absurd e.1 (by decide))]; done)
    | (rw [e6, su21 (fun e => absurd e.1 (by decide))]; done)
    | (exact absurd rfl h)
theorem mn_r11 {σ : St} {k' i' : Nat} {v : Int} (h : k' ≠ 41) : mn (su σ 21 11 0 v) k' i' = mn σ k' i' := by
  have e6 : su σ 21 11 0 v 6 = σ 6 := su_rc (by decide)
  have e7 : su σ 21 11 0 v 7 = σ 7 := su_rc (by decide)
  unfold mn
  split
  all_goals first
    | rfl
    | (rw [su21 (fun e => absurd e.1 (by decide))]; done)
    | (rw [e6, su21 (fun e => absurd e.1 (by decide))]; done)
    | (exact absurd rfl h)
theorem WD.done2 {D : va_G} {g : Nat → ClassId} {w : Wl} {σ : St} {A : Nat → Prop} {s : State} {H : Heap} {locs : List Loc} {k i ka j : Nat} (h : WD D g w σ A s H locs) (hl : w.2 (k + 30) i) (hla : w.2 (ka + 30) j) (hf : ¬ w.2 k i) (hfa : ¬ w.2 ka j) (hk : k < 30) (hka : ka < 30) (hne : k ≠ ka)
    (hnm : ∀ k' i', w.2 k' i' → ¬ (k' = k + 30 ∧ i' = i) → ∀ q ∈ mn σ k' i', ¬ (q.1 = k + 30 ∧ q.2 = i) ∧ ¬ (q.1 = ka + 30 ∧ q.2 = j))
    (hm1 : ∀ q ∈ mn σ k i, q = (ka, j) ∨ (q ∈ mn σ (k + 30) i ∧ q.1 < 30)) (hm2 : ∀ q ∈ mn σ ka j, q ∈ mn σ (ka + 30) j)
    (hat1 : ∀ (ad : Ly) (a : Nat), ad ka j = ad (ka + 30) j → va_at D vwCl (a, cont g ad σ (k + 30) i) H → va_at D vwCl (a, cont g ad σ k i) H)
    (hat2 : ∀ (ad : Ly) (a : Nat), va_at D vwCl (a, cont g ad σ (ka + 30) j) H → va_at D vwCl (a, cont g ad σ ka j) H) : WD D g (wrl (wrl w ka j) k i) σ A s H locs := by
  have hcl := h.2.2.1.2
  have hin := h.2.2.1.1
  have a0 : (wrl (wrl w ka j) k i).1 k i = w.1 (k + 30) i := by rw [wrl_at, wrl_ne (fun e => by omega)]
  have a1 : (wrl (wrl w ka j) k i).1 ka j = w.1 (ka + 30) j := by rw [wrl_ne (fun e => hne e.1.symm), wrl_at]
  have a2 : ∀ k' i', w.2 k' i' → (wrl (wrl w ka j) k i).1 k' i' = w.1 k' i' := fun k' i' q => by
    rw [wrl_ne (fun e => hf (by rw [← e.1, ← e.2]; exact q)), wrl_ne (fun e => hfa (by rw [← e.1, ← e.2]; exact q))]
  have b1 : ∀ k' i', (wrl (wrl w ka j) k i).2 k' i' → (k' = k ∧ i' = i) ∨ (k' = ka ∧ i' = j) ∨ (w.2 k' i' ∧ ¬ (k' = ka + 30 ∧ i' = j) ∧ ¬ (k' = k + 30 ∧ i' = i)) := by
    rintro k' i' (⟨⟨x, y⟩ | x, z⟩ | x)
    · exact Or.inr (Or.inr ⟨x, y, z⟩)
    · exact Or.inr (Or.inl x)
    · exact Or.inl x
  have b2 : ∀ k' i', w.2 k' i' → ¬ (k' = ka + 30 ∧ i' = j) → ¬ (k' = k + 30 ∧ i' = i) → (wrl (wrl w ka j) k i).2 k' i' := fun k' i' x y z => Or.inl ⟨Or.inl ⟨x, y⟩, z⟩
  refine h.re (fun k' i' hl' => ?_) (fun k1 i1 k2 i2 h1 h2 e => ?_) (fun k' i' hl' q hq => ?_)
  · rcases b1 k' i' hl' with ⟨rfl, rfl⟩ | ⟨rfl, rfl⟩ | ⟨x, y, z⟩
    · exact ⟨_, _, hl, a0, fun a ha => hat1 _ a (a1.trans (a2 _ _ hla).symm) (at_ad (fun q hq => a2 q.1 q.2 (hcl _ _ hl q hq)) ha)⟩
    · exact ⟨_, _, hla, a1, fun a ha => hat2 _ a (at_ad (fun q hq => a2 q.1 q.2 (hcl _ _ hla q hq)) ha)⟩
    · exact ⟨_, _, x, a2 _ _ x, fun a ha => at_ad (fun q hq => a2 q.1 q.2 (hcl _ _ x q hq)) ha⟩
  · rcases b1 k1 i1 h1 with x1 | x1 | ⟨x1, y1, z1⟩ <;> rcases b1 k2 i2 h2 with x2 | x2 | ⟨x2, y2, z2⟩
    · exact ⟨x1.1.trans x2.1.symm, x1.2.trans x2.2.symm⟩
    · rw [x1.1, x1.2, x2.1, x2.2, a0, a1] at e
      exact absurd (hin _ _ _ _ hl hla e).1 (by omega)
    · rw [x1.1, x1.2, a0, a2 _ _ x2] at e
      have := hin _ _ _ _ hl x2 e
      exact absurd ⟨this.1.symm, this.2.symm⟩ z2
    · rw [x1.1, x1.2, x2.1, x2.2, a0, a1] at e
      exact absurd (hin _ _ _ _ hla hl e).1 (by omega)
    · exact ⟨x1.1.trans x2.1.symm, x1.2.trans x2.2.symm⟩
    · rw [x1.1, x1.2, a1, a2 _ _ x2] at e
      have := hin _ _ _ _ hla x2 e
      exact absurd ⟨this.1.symm, this.2.symm⟩ y2
    · rw [x2.1, x2.2, a0, a2 _ _ x1] at e
      exact absurd (hin _ _ _ _ x1 hl e) z1
    · rw [x2.1, x2.2, a1, a2 _ _ x1] at e
      exact absurd (hin _ _ _ _ x1 hla e) y1
    · rw [a2 _ _ x1, a2 _ _ x2] at e
      exact hin _ _ _ _ x1 x2 e
  · rcases b1 k' i' hl' with x | x | ⟨x, y, z⟩
    · rw [x.1, x.2] at hq
      rcases hm1 q hq with rfl | ⟨c, d⟩
      · exact Or.inl ⟨Or.inr ⟨rfl, rfl⟩, fun e => by have := e.1; dsimp only at this; omega⟩
      · exact b2 _ _ (hcl _ _ hl q c) (fun e => by omega) (fun e => by omega)
    · rw [x.1, x.2] at hq
      have c := hm2 q hq
      have d := hnm _ _ hla (fun e => by omega) q c
      exact b2 _ _ (hcl _ _ hla q c) d.2 d.1
    · have d := hnm _ _ x z q hq
      exact b2 _ _ (hcl _ _ x q hq) d.2 d.1
theorem v_done2 {X : CX} {z : Nat × Nat} {w : Wl} {pc : Nat} {lv : List (Nat × Value)} {σ : St} {st : List Value} {k i ka j : Nat} (hl : w.2 (k + 30) i) (hla : w.2 (ka + 30) j) (hf : ¬ w.2 k i) (hfa : ¬ w.2 ka j) (hk : k < 30) (hka : ka < 30) (hne : k ≠ ka)
    (hnm : ∀ k' i', w.2 k' i' → ¬ (k' = k + 30 ∧ i' = i) → ∀ q ∈ mn σ k' i', ¬ (q.1 = k + 30 ∧ q.2 = i) ∧ ¬ (q.1 = ka + 30 ∧ q.2 = j))
    (hm1 : ∀ q ∈ mn σ k i, q = (ka, j) ∨ (q ∈ mn σ (k + 30) i ∧ q.1 < 30)) (hm2 : ∀ q ∈ mn σ ka j, q ∈ mn σ (ka + 30) j)
    (hat1 : ∀ (D : va_G) (g : Nat → ClassId) (H : Heap) (ad : Ly) (a : Nat), ad ka j = ad (ka + 30) j → va_at D vwCl (a, cont g ad σ (k + 30) i) H → va_at D vwCl (a, cont g ad σ k i) H)
    (hat2 : ∀ (D : va_G) (g : Nat → ClassId) (H : Heap) (ad : Ly) (a : Nat), va_at D vwCl (a, cont g ad σ (ka + 30) j) H → va_at D vwCl (a, cont g ad σ ka j) H) (kk : V X z (wrl (wrl w ka j) k i) pc lv σ st) : V X z w pc lv σ st := by
  intro H locs ls hW hls
  exact kk H locs ls (WD.done2 hW hl hla hf hfa hk hka hne hnm hm1 hm2 (hat1 _ _ H) (hat2 _ _ H)) hls
theorem Wto.of2 {w w' : Wl} {l l' : List (Nat × Nat)} {k i ka j : Nat} (h : Wad w w' l) (hl : w.2 (k + 30) i) (hf : ¬ w'.2 k i) (hfa : ¬ w'.2 ka j) (hn : (k + 30, i) ∉ l) (hr : ¬ w.2 (ka + 30) j) (hk : k < 30) (hka : ka < 30) (hne : k ≠ ka) (ha : ∀ q ∈ l', q = (ka, j) ∨ (q ∈ l ∧ q ≠ (ka + 30, j))) (hb : ∀ q ∈ l, q = (ka + 30, j) ∨ q ∈ l') (hc : (ka, j) ∈ l') : Wto w (wrl (wrl w' ka j) k i) k i l' := by
  refine ⟨fun k' i' => ?_, fun k' i' h0 h1 => ?_, ?_⟩
  · show ((((w'.2 k' i' ∧ ¬ (k' = ka + 30 ∧ i' = j)) ∨ (k' = ka ∧ i' = j)) ∧ ¬ (k' = k + 30 ∧ i' = i)) ∨ (k' = k ∧ i' = i)) ↔ _
    rw [h.1 k' i', List.mem_cons, Prod.mk.injEq]
    constructor
    · rintro (⟨⟨a | b, c⟩ | ⟨rfl, rfl⟩, d⟩ | d)
      · exact Or.inl ⟨a, d⟩
      · exact Or.inr (Or.inr ((hb _ b).resolve_left (fun e => c (by rw [Prod.mk.injEq] at e; exact e))))
      · exact Or.inr (Or.inr hc)
      · exact Or.inr (Or.inl d)
    · rintro (⟨a, c⟩ | d | b)
      · exact Or.inl ⟨Or.inl ⟨Or.inl a, fun e => hr (by rw [← e.1, ← e.2]; exact a)⟩, c⟩
      · exact Or.inr d
      · rcases ha _ b with e | ⟨e, e2⟩
        · rw [Prod.mk.injEq] at e
          exact Or.inl ⟨Or.inr e, fun e2 => by omega⟩
        · exact Or.inl ⟨Or.inl ⟨Or.inr e, fun e3 => e2 (by rw [e3.1, e3.2])⟩, fun e3 => hn (by rw [← e3.1, ← e3.2]; exact e)⟩
  · rw [wrl_ne (fun e => hf (by rw [← e.1, ← e.2]; exact h.old h0)), wrl_ne (fun e => hfa (by rw [← e.1, ← e.2]; exact h.old h0))]
    exact h.2 k' i' h0
  · rw [wrl_at, wrl_ne (fun e => by omega)]
    exact h.2 _ _ hl
theorem done_house {ad : Ly} {τ : St} (h11 : ad 11 0 = ad 41 0) (hn : τ 21 0 0 = 16) (h4 : τ 4 0 0 = 0) : ob ad τ 0 0 = raw ad τ 0 0 := by
  unfold raw
  rw [hn]
  show Sum.inr (ck 0, [Value.ref (ad 11 0), .ref (ad 1 24), .ref (ad 12 0), .int (iI (τ 4 0 0)), .ref (ad 7 0), .ref (ad 8 0), .ref (ad 10 0), .ref (ad 1 25), .ref (ad 1 26), .ref (ad 3 0), .ref (ad 3 1), .ref (ad 3 2), .ref (ad 3 3), .ref (ad 3 4), .ref (ad 3 5), .ref (ad 3 6)]) = _
  rw [h11, h4]
  rfl

def flX6 : List (Nat × Nat) := [(31, 0), (31, 1), (31, 2), (31, 3), (31, 4), (31, 5), (31, 6), (31, 7), (31, 8), (31, 9), (31, 10), (31, 11), (31, 12), (31, 13), (31, 14), (31, 15), (31, 16), (31, 17), (31, 18), (31, 19), (31, 20), (31, 21), (31, 22), (31, 23), (1, 0), (1, 1), (1, 2), (1, 3), (1, 4), (1, 5), (1, 6), (1, 7), (1, 8), (1, 9), (1, 10), (1, 11), (1, 12), (1, 13), (1, 14), (1, 15), (1, 16), (1, 17), (1, 18), (1, 19), (1, 20), (1, 21), (1, 22), (1, 23), (2, 0), (2, 1), (2, 2), (2, 3), (2, 4), (2, 5), (2, 6), (2, 7), (2, 8), (2, 9), (2, 10), (2, 11), (2, 12), (2, 13), (2, 14), (2, 15), (2, 16), (2, 17), (2, 18), (2, 19), (2, 20), (2, 21), (2, 22), (2, 23), (41, 0), (11, 0), (31, 24), (1, 24), (2, 24), (12, 0), (37, 0), (33, 7), (3, 7), (4, 7), (33, 8), (3, 8), (4, 8), (33, 9), (3, 9), (4, 9), (33, 10), (3, 10), (4, 10), (33, 11), (3, 11), (4, 11), (33, 12), (3, 12), (4, 12), (33, 13), (3, 13), (4, 13), (33, 14), (3, 14), (4, 14), (33, 15), (3, 15), (4, 15), (33, 16), (3, 16), (4, 16), (33, 17), (3, 17), (4, 17), (33, 18), (3, 18), (4, 18), (33, 19), (3, 19), (4, 19), (33, 20), (3, 20), (4, 20), (33, 21), (3, 21), (4, 21), (33, 22), (3, 22), (4, 22), (7, 0), (38, 0), (9, 0), (9, 1), (9, 2), (31, 27), (1, 27), (2, 27), (31, 28), (1, 28), (2, 28), (8, 0), (40, 0), (31, 29), (1, 29), (2, 29), (31, 30), (1, 30), (2, 30), (31, 31), (1, 31), (2, 31), (31, 32), (1, 32), (2, 32), (31, 33), (1, 33), (2, 33), (10, 0), (31, 25), (1, 25), (2, 25), (31, 26), (1, 26), (2, 26), (33, 0), (3, 0), (4, 0), (33, 1), (3, 1), (4, 1), (33, 2), (3, 2), (4, 2), (33, 3), (3, 3), (4, 3), (33, 4), (3, 4), (4, 4), (33, 5), (3, 5), (4, 5), (33, 6), (3, 6), (4, 6), (0, 0)]
def mlX6 : List (Nat × Nat) := [(3, 6), (4, 6), (3, 5), (4, 5), (3, 4), (4, 4), (3, 3), (4, 3), (3, 2), (4, 2), (3, 1), (4, 1), (3, 0), (4, 0), (1, 26), (2, 26), (1, 25), (2, 25), (10, 0), (1, 33), (2, 33), (1, 32), (2, 32), (1, 31), (2, 31), (1, 30), (2, 30), (1, 29), (2, 29), (8, 0), (1, 28), (2, 28), (1, 27), (2, 27), (9, 2), (9, 1), (9, 0), (7, 0), (3, 22), (4, 22), (3, 21), (4, 21), (3, 20), (4, 20), (3, 19), (4, 19), (3, 18), (4, 18), (3, 17), (4, 17), (3, 16), (4, 16), (3, 15), (4, 15), (3, 14), (4, 14), (3, 13), (4, 13), (3, 12), (4, 12), (3, 11), (4, 11), (3, 10), (4, 10), (3, 9), (4, 9), (3, 8), (4, 8), (3, 7), (4, 7), (12, 0), (1, 24), (2, 24), (1, 0), (1, 1), (1, 2), (1, 3), (1, 4), (1, 5), (1, 6), (1, 7), (1, 8), (1, 9), (1, 10), (1, 11), (1, 12), (1, 13), (1, 14), (1, 15), (1, 16), (1, 17), (1, 18), (1, 19), (1, 20), (1, 21), (1, 22), (1, 23), (2, 0), (2, 1), (2, 2), (2, 3), (2, 4), (2, 5), (2, 6), (2, 7), (2, 8), (2, 9), (2, 10), (2, 11), (2, 12), (2, 13), (2, 14), (2, 15), (2, 16), (2, 17), (2, 18), (2, 19), (2, 20), (2, 21), (2, 22), (2, 23), (11, 0)]
def l0X6 : List (Nat × Nat) := [(1, 0), (1, 1), (1, 2), (1, 3), (1, 4), (1, 5), (1, 6), (1, 7), (1, 8), (1, 9), (1, 10), (1, 11), (1, 12), (1, 13), (1, 14), (1, 15), (1, 16), (1, 17), (1, 18), (1, 19), (1, 20), (1, 21), (1, 22), (1, 23), (2, 0), (2, 1), (2, 2), (2, 3), (2, 4), (2, 5), (2, 6), (2, 7), (2, 8), (2, 9), (2, 10), (2, 11), (2, 12), (2, 13), (2, 14), (2, 15), (2, 16), (2, 17), (2, 18), (2, 19), (2, 20), (2, 21), (2, 22), (2, 23), (41, 0)]
set_option maxHeartbeats 8000000 in
set_option maxRecDepth 100000 in
theorem c_X6_init (l : Launch) (w : Wl) (σ : St) {o : Nat} (hl : w.2 30 0) (ho : w.1 30 0 = o) (hfr : ∀ q ∈ flX6, ¬ w.2 q.1 q.2) (h41w : ∀ i, ¬ w.2 41 i) (h30w : ∀ i, w.2 30 i → i = 0) (hc : σ 21 0 0 = 0) (hc11 : σ 21 11 0 = 0) (hz : ∀ c i j, c < 15 → σ c i j = 0) : Cg l yX6_init cX6_init 2 none 3 55 122 10406 wN [.ref o] w σ (fun _ w' σ' => Wto w w' 0 0 mlX6 ∧ F21 [0, 1, 3, 7, 8, 10, 11] σ σ') := by
  refine Cg.of (own := RX6) (lv := [(0, .ref o)]) (by decide +kernel) rfl (Nat.le_of_ble_eq_true rfl) rfl (fun X hX hxl hR hnm hcl hret => ?_)
  subst hxl
  have P2 : ∀ (w0 : Wl) (σ0 : St), Wad w w0 l0X6 → F21 [0, 1, 3, 7, 8, 10, 11] σ σ0 → σ0 21 0 0 = 1 → σ0 21 11 0 = 24 → V X (49, 6216) w0 43 [(1, .int (iI 24)), (0, .ref o)] σ0 [] := by
    intro w0 σ0 hw0 hFall hn0 h24
    have hz0 : ∀ c i j, c < 15 → σ0 c i j = 0 := fun c i j h => hFall.z (by omega) (hz c i j h)
    have hf0 : F21 [0, 1, 3, 7, 8, 10] σ0 σ0 := F21.rf
    refine v_aload_n hX 1 rfl (atL dAX6_init_0 21 rfl) ?_
    have hr1 := hw0.fr (k := 31) (i := 24) (hfr (31, 24) (by decide)) (by decide)
    refine nw_X6_9 hX (i := 24) hr1 (by rw [hR]; exact ⟨Nat.le_of_ble_eq_true rfl, Nat.le_of_ble_eq_true rfl⟩) (atL dAX6_init_0 22 rfl) (fun a1 => ?_)
    refine v_dup hX rfl (atL dAX6_init_0 23 rfl) ?_
    refine v_sipush hX (by decide +kernel) (atL dAX6_init_0 24 rfl) ?_
    refine v_callI hX (As := [.int (iI 260)]) (rest := [.ref a1, .ref o]) (c_X4_init _ _ _ (i := 24) (o := a1) (n := 260) rfl wup_new wup_at (wup_fr (hw0.fr (hfr (1, 24) (by decide)) (by decide)) (by decide)) (wup_fr (hw0.fr (hfr (2, 24) (by decide)) (by decide)) (by decide)) su_s (F21.z (F21.su (ks := [1]) (by decide)) (by decide) (hf0.z (by decide) (hz0 0 _ _ (by decide)))) (fun _ => (F21.z (F21.su (ks := [1]) (by decide)) (by decide) (hf0.z (by decide) (hz0 1 _ _ (by decide)))))) li_X6_15 rfl (by rw [hR]; exact ⟨Nat.le_of_ble_eq_true rfl, Nat.le_of_ble_eq_true rfl⟩) (by rw [hR]; exact ⟨Nat.le_of_ble_eq_true rfl, Nat.le_of_ble_eq_true rfl⟩) rfl (Nat.le_of_ble_eq_true rfl) (atL dAX6_init_0 25 rfl) (fun _ w1 σ1 hp1 => ?_)
    obtain ⟨hwt1, hF1⟩ := hp1
    obtain ⟨hw1, ha1⟩ := Wad.mk hw0 hr1 hwt1
    have hn1 : σ1 21 0 0 = 1 := hF1.n (by decide) ((su_i (by decide)).trans hn0)
    replace hF1 : F21 [0, 1, 3, 7, 8, 10] σ0 σ1 := (hf0.tr (F21.su (ks := [1]) (by decide)) (by decide)).tr hF1 (by decide)
    clear hwt1 hr1
    show V X (51, 6478) w1 _ _ σ1 [.ref a1, .ref o]
    refine v_eq2 ha1 ((hw1.2 _ _ hl).trans ho) (rp_X6_18 hX hnm (hw1.old hl) (hw1.new (by decide)) hn1 (atL dAX6_init_0 26 rfl) ?_)
    have hm1 : su σ1 21 0 0 (((1 : Nat) : Int) + 1) 21 0 0 = 2 := su_s
    have hf1 : F21 [0, 1, 3, 7, 8, 10] σ0 (su σ1 21 0 0 (((1 : Nat) : Int) + 1)) := hF1.tr (F21.su (ks := [0]) (by decide)) (by decide)
    obtain ⟨τ1, hs1⟩ : ∃ q, su σ1 21 0 0 (((1 : Nat) : Int) + 1) = q := ⟨_, rfl⟩
    rw [hs1] at hm1 hf1
    rw [hs1]
    clear hs1 hn1 hF1 ha1 
    refine v_aload_n hX 1 rfl (atL dAX6_init_0 27 rfl) ?_
    refine v_bipush hX (by decide +kernel) (atL dAX6_init_0 28 rfl) ?_
    have hr2 := hw1.fr (k := 12) (i := 0) (hfr (12, 0) (by decide)) (by decide)
    have h70 : ∀ j, τ1 7 0 j = 0 := fun j => hf1.z (by decide) (hz0 7 0 j (by decide))
    refine v_newQ hX (n := 16) (k := 12) (i := 0) (t := 4) (C := "SealHouse$Key") (f := fun ad j => if τ1 7 0 j = 1 then some (ad 5 j) else none) wd_42 nw_1 (fun _ => rfl) rfl (by decide) hr2 (fun _ _ => rfl) (fun ad j _ => if_neg (by rw [h70 j]; decide)) ?_ (by rw [hR]; exact ⟨Nat.le_of_ble_eq_true rfl, Nat.le_of_ble_eq_true rfl⟩) (atL dAX6_init_0 29 rfl) (fun a2 => ?_)
    · show ((List.range 16).filter (fun j => decide (τ1 7 0 j = 1))).map (fun j => (5, j)) = []
      rw [List.filter_eq_nil_iff.mpr (fun j _ => by rw [h70 j]; decide)]
      rfl
    have hw2 := hw1.up (a := a2) hr2
    have ha2 : (wup w1 12 0 a2).1 12 0 = a2 := wup_at
    obtain ⟨w2, he2⟩ : ∃ q, wup w1 12 0 a2 = q := ⟨_, rfl⟩
    rw [he2] at hw2 ha2
    rw [he2]
    clear he2 hr2 h70
    obtain ⟨σ2, hq2⟩ : ∃ q, q = τ1 := ⟨_, rfl⟩
    have hn2 : σ2 21 0 0 = 2 := by rw [hq2]; exact hm1
    have hF2 : F21 [0, 1, 3, 7, 8, 10] σ0 σ2 := by rw [hq2]; exact hf1
    rw [← hq2]
    clear hq2
    show V X (52, 6494) w2 _ _ σ2 [.ref a2, .ref o]
    refine v_eq2 ha2 ((hw2.2 _ _ hl).trans ho) (rp_X6_24 hX hnm (hw2.old hl) (hw2.new (by decide)) hn2 (atL dAX6_init_0 30 rfl) ?_)
    have hm2 : su σ2 21 0 0 (((2 : Nat) : Int) + 1) 21 0 0 = 3 := su_s
    have hf2 : F21 [0, 1, 3, 7, 8, 10] σ0 (su σ2 21 0 0 (((2 : Nat) : Int) + 1)) := hF2.tr (F21.su (ks := [0]) (by decide)) (by decide)
    obtain ⟨τ2, hs2⟩ : ∃ q, su σ2 21 0 0 (((2 : Nat) : Int) + 1) = q := ⟨_, rfl⟩
    rw [hs2] at hm2 hf2
    rw [hs2]
    clear hs2 hn2 hF2 ha2 hw1 hm1 hf1
    refine v_aload_n hX 1 rfl (atL dAX6_init_0 31 rfl) ?_
    refine v_iconst hX (atL dAX6_init_0 32 rfl) ?_
    refine v_eq1 ((hw2.2 _ _ hl).trans ho) (zp_X6_28 hX hnm (hw2.old hl) hm2 (atL dAX6_init_0 33 rfl) ?_)
    refine v_aload_n hX 1 rfl (atL dAX6_init_0 34 rfl) ?_
    have hr4 := hw2.fr (k := 37) (i := 0) (hfr (37, 0) (by decide)) (by decide)
    refine nw_X6_32 hX hr4 (by rw [hR]; exact ⟨Nat.le_of_ble_eq_true rfl, Nat.le_of_ble_eq_true rfl⟩) (atL dAX6_init_0 35 rfl) (fun a4 => ?_)
    refine v_dup hX rfl (atL dAX6_init_0 36 rfl) ?_
    refine v_callIN hX (As := []) (rest := [.ref a4, .ref o]) (c_X0_init _ _ _ (o := a4) wup_new wup_at (wup_frs (hw2.frs (fun q hq => hfr q ((by decide +kernel : ∀ q ∈ flX0, q ∈ flX6) q hq)) (by decide +kernel)) (by decide)) su_s (fun c i j hc15 => F21.z (F21.su (ks := [7]) (by decide)) (by omega) (hf2.z (by omega) (hz0 c i j hc15)))) li_X6_34 rfl (by rw [hR]; exact ⟨Nat.le_of_ble_eq_true rfl, Nat.le_of_ble_eq_true rfl⟩) (by rw [hR]; exact ⟨Nat.le_of_ble_eq_true rfl, Nat.le_of_ble_eq_true rfl⟩) rfl (Nat.le_of_ble_eq_true rfl) (atL dAX6_init_0 37 rfl) (fun _ w4 σ4 hp4 => ?_)
    obtain ⟨hwt4, hF4⟩ := hp4
    obtain ⟨hw4, ha4⟩ := Wad.mk hw2 hr4 hwt4
    have hn4 : σ4 21 0 0 = 3 := hF4.n (by decide) ((su_i (by decide)).trans hm2)
    replace hF4 : F21 [0, 1, 3, 7, 8, 10] σ0 σ4 := (hf2.tr (F21.su (ks := [7]) (by decide)) (by decide)).tr hF4 (by decide)
    clear hwt4 hr4
    show V X (85, 7823) w4 _ _ σ4 [.ref a4, .ref o]
    refine v_eq2 ha4 ((hw4.2 _ _ hl).trans ho) (rp_X6_35 hX hnm (hw4.old hl) (hw4.new (by decide)) hn4 (atL dAX6_init_0 38 rfl) ?_)
    have hm4 : su σ4 21 0 0 (((4 : Nat) : Int) + 1) 21 0 0 = 5 := su_s
    have hf4 : F21 [0, 1, 3, 7, 8, 10] σ0 (su σ4 21 0 0 (((4 : Nat) : Int) + 1)) := hF4.tr (F21.su (ks := [0]) (by decide)) (by decide)
    obtain ⟨τ4, hs4⟩ : ∃ q, su σ4 21 0 0 (((4 : Nat) : Int) + 1) = q := ⟨_, rfl⟩
    rw [hs4] at hm4 hf4
    rw [hs4]
    clear hs4 hn4 hF4 ha4 hw2 hm2 hf2
    refine v_aload_n hX 1 rfl (atL dAX6_init_0 39 rfl) ?_
    have hr5 := hw4.fr (k := 38) (i := 0) (hfr (38, 0) (by decide)) (by decide)
    refine nw_X6_39 hX hr5 (by rw [hR]; exact ⟨Nat.le_of_ble_eq_true rfl, Nat.le_of_ble_eq_true rfl⟩) (atL dAX6_init_0 40 rfl) (fun a5 => ?_)
    refine v_dup hX rfl (atL dAX6_init_0 41 rfl) ?_
    refine v_callIN hX (As := []) (rest := [.ref a5, .ref o]) (c_X1_init _ _ _ (o := a5) wup_new wup_at (wup_frs (hw4.frs (fun q hq => hfr q ((by decide +kernel : ∀ q ∈ flX1, q ∈ flX6) q hq)) (by decide +kernel)) (by decide)) su_s (fun c i j hc15 => F21.z (F21.su (ks := [8]) (by decide)) (by omega) (hf4.z (by omega) (hz0 c i j hc15)))) li_X6_41 rfl (by rw [hR]; exact ⟨Nat.le_of_ble_eq_true rfl, Nat.le_of_ble_eq_true rfl⟩) (by rw [hR]; exact ⟨Nat.le_of_ble_eq_true rfl, Nat.le_of_ble_eq_true rfl⟩) rfl (Nat.le_of_ble_eq_true rfl) (atL dAX6_init_0 42 rfl) (fun _ w5 σ5 hp5 => ?_)
    obtain ⟨hwt5, hF5⟩ := hp5
    obtain ⟨hw5, ha5⟩ := Wad.mk hw4 hr5 hwt5
    have hn5 : σ5 21 0 0 = 5 := hF5.n (by decide) ((su_i (by decide)).trans hm4)
    replace hF5 : F21 [0, 1, 3, 7, 8, 10] σ0 σ5 := (hf4.tr (F21.su (ks := [8]) (by decide)) (by decide)).tr hF5 (by decide)
    clear hwt5 hr5
    show V X (93, 8204) w5 _ _ σ5 [.ref a5, .ref o]
    refine v_eq2 ha5 ((hw5.2 _ _ hl).trans ho) (rp_X6_42 hX hnm (hw5.old hl) (hw5.new (by decide)) hn5 (atL dAX6_init_0 43 rfl) ?_)
    have hm5 : su σ5 21 0 0 (((5 : Nat) : Int) + 1) 21 0 0 = 6 := su_s
    have hf5 : F21 [0, 1, 3, 7, 8, 10] σ0 (su σ5 21 0 0 (((5 : Nat) : Int) + 1)) := hF5.tr (F21.su (ks := [0]) (by decide)) (by decide)
    obtain ⟨τ5, hs5⟩ : ∃ q, su σ5 21 0 0 (((5 : Nat) : Int) + 1) = q := ⟨_, rfl⟩
    rw [hs5] at hm5 hf5
    rw [hs5]
    clear hs5 hn5 hF5 ha5 hw4 hm4 hf4
    refine v_aload_n hX 1 rfl (atL dAX6_init_0 44 rfl) ?_
    have hr6 := hw5.fr (k := 40) (i := 0) (hfr (40, 0) (by decide)) (by decide)
    refine nw_X6_46 hX hr6 (by rw [hR]; exact ⟨Nat.le_of_ble_eq_true rfl, Nat.le_of_ble_eq_true rfl⟩) (atL dAX6_init_0 45 rfl) (fun a6 => ?_)
    refine v_dup hX rfl (atL dAX6_init_0 46 rfl) ?_
    refine v_aload_n hX 1 rfl (atL dAX6_init_0 47 rfl) ?_
    have hu6 := hw5.up (a := a6) hr6
    refine v_eq0 ((hu6.2 _ _ hl).trans ho) (v_getf hX (k := 30) (i := 0) (ci := 6) (j := 5) (v := .ref ((wup w5 40 0 a6).1 8 0)) (fs := (rawL 0 0).map (fr (wup w5 40 0 a6).1 6)) (hu6.old hl) (fun g => by show raw _ _ 0 0 = _; unfold raw; rw [(su_i (by decide)).trans hm5]; rfl) rfl in_X6 (by decide) wd_178 rfl rfl (atL dAX6_init_0 48 rfl) ?_)
    refine v_callI hX (As := [.ref ((wup w5 40 0 a6).1 8 0)]) (rest := [.ref a6, .ref o]) (c_X3_init _ _ _ (o := a6) wup_new wup_at (hu6.new (by decide)) rfl (wup_frs (hw5.frs (fun q hq => hfr q ((by decide +kernel : ∀ q ∈ flX3, q ∈ flX6) q hq)) (by decide +kernel)) (by decide)) su_s (fun c i j hc15 => F21.z (F21.su (ks := [10]) (by decide)) (by omega) (hf5.z (by omega) (hz0 c i j hc15)))) li_X6_48 rfl (by rw [hR]; exact ⟨Nat.le_of_ble_eq_true rfl, Nat.le_of_ble_eq_true rfl⟩) (by rw [hR]; exact ⟨Nat.le_of_ble_eq_true rfl, Nat.le_of_ble_eq_true rfl⟩) rfl (Nat.le_of_ble_eq_true rfl) (atL dAX6_init_0 49 rfl) (fun _ w6 σ6 hp6 => ?_)
    obtain ⟨hwt6, hF6⟩ := hp6
    obtain ⟨hw6, ha6⟩ := Wad.mk hw5 hr6 hwt6
    have hn6 : σ6 21 0 0 = 6 := hF6.n (by decide) ((su_i (by decide)).trans hm5)
    replace hF6 : F21 [0, 1, 3, 7, 8, 10] σ0 σ6 := (hf5.tr (F21.su (ks := [10]) (by decide)) (by decide)).tr hF6 (by decide)
    clear hwt6 hr6 hu6
    show V X (104, 9316) w6 _ _ σ6 [.ref a6, .ref o]
    refine v_eq2 ha6 ((hw6.2 _ _ hl).trans ho) (rp_X6_51 hX hnm (hw6.old hl) (hw6.new (by decide)) hn6 (atL dAX6_init_0 50 rfl) ?_)
    have hm6 : su σ6 21 0 0 (((6 : Nat) : Int) + 1) 21 0 0 = 7 := su_s
    have hf6 : F21 [0, 1, 3, 7, 8, 10] σ0 (su σ6 21 0 0 (((6 : Nat) : Int) + 1)) := hF6.tr (F21.su (ks := [0]) (by decide)) (by decide)
    obtain ⟨τ6, hs6⟩ : ∃ q, su σ6 21 0 0 (((6 : Nat) : Int) + 1) = q := ⟨_, rfl⟩
    rw [hs6] at hm6 hf6
    rw [hs6]
    clear hs6 hn6 hF6 ha6 hw5 hm5 hf5
    refine v_aload_n hX 1 rfl (atL dAX6_init_0 51 rfl) ?_
    have hr7 := hw6.fr (k := 31) (i := 25) (hfr (31, 25) (by decide)) (by decide)
    refine nw_X6_9 hX (i := 25) hr7 (by rw [hR]; exact ⟨Nat.le_of_ble_eq_true rfl, Nat.le_of_ble_eq_true rfl⟩) (atL dAX6_init_0 52 rfl) (fun a7 => ?_)
    refine v_dup hX rfl (atL dAX6_init_0 53 rfl) ?_
    refine v_sipush hX (by decide +kernel) (atL dAX6_init_0 54 rfl) ?_
    refine v_callI hX (As := [.int (iI 256)]) (rest := [.ref a7, .ref o]) (c_X4_init _ _ _ (i := 25) (o := a7) (n := 256) rfl wup_new wup_at (wup_fr (hw6.fr (hfr (1, 25) (by decide)) (by decide)) (by decide)) (wup_fr (hw6.fr (hfr (2, 25) (by decide)) (by decide)) (by decide)) su_s (F21.z (F21.su (ks := [1]) (by decide)) (by decide) (hf6.z (by decide) (hz0 0 _ _ (by decide)))) (fun _ => (F21.z (F21.su (ks := [1]) (by decide)) (by decide) (hf6.z (by decide) (hz0 1 _ _ (by decide)))))) li_X6_15 rfl (by rw [hR]; exact ⟨Nat.le_of_ble_eq_true rfl, Nat.le_of_ble_eq_true rfl⟩) (by rw [hR]; exact ⟨Nat.le_of_ble_eq_true rfl, Nat.le_of_ble_eq_true rfl⟩) rfl (Nat.le_of_ble_eq_true rfl) (atL dAX6_init_0 55 rfl) (fun _ w7 σ7 hp7 => ?_)
    obtain ⟨hwt7, hF7⟩ := hp7
    obtain ⟨hw7, ha7⟩ := Wad.mk hw6 hr7 hwt7
    have hn7 : σ7 21 0 0 = 7 := hF7.n (by decide) ((su_i (by decide)).trans hm6)
    replace hF7 : F21 [0, 1, 3, 7, 8, 10] σ0 σ7 := (hf6.tr (F21.su (ks := [1]) (by decide)) (by decide)).tr hF7 (by decide)
    clear hwt7 hr7
    show V X (106, 9574) w7 _ _ σ7 [.ref a7, .ref o]
    refine v_eq2 ha7 ((hw7.2 _ _ hl).trans ho) (rp_X6_55 hX hnm (hw7.old hl) (hw7.new (by decide)) hn7 (atL dAX6_init_0 56 rfl) ?_)
    have hm7 : su σ7 21 0 0 (((7 : Nat) : Int) + 1) 21 0 0 = 8 := su_s
    have hf7 : F21 [0, 1, 3, 7, 8, 10] σ0 (su σ7 21 0 0 (((7 : Nat) : Int) + 1)) := hF7.tr (F21.su (ks := [0]) (by decide)) (by decide)
    obtain ⟨τ7, hs7⟩ : ∃ q, su σ7 21 0 0 (((7 : Nat) : Int) + 1) = q := ⟨_, rfl⟩
    rw [hs7] at hm7 hf7
    rw [hs7]
    clear hs7 hn7 hF7 ha7 hw6 hm6 hf6
    refine v_aload_n hX 1 rfl (atL dAX6_init_0 57 rfl) ?_
    have hr8 := hw7.fr (k := 31) (i := 26) (hfr (31, 26) (by decide)) (by decide)
    refine nw_X6_9 hX (i := 26) hr8 (by rw [hR]; exact ⟨Nat.le_of_ble_eq_true rfl, Nat.le_of_ble_eq_true rfl⟩) (atL dAX6_init_0 58 rfl) (fun a8 => ?_)
    refine v_dup hX rfl (atL dAX6_init_0 59 rfl) ?_
    refine v_sipush hX (by decide +kernel) (atL dAX6_init_1 0 rfl) ?_
    refine v_callI hX (As := [.int (iI 256)]) (rest := [.ref a8, .ref o]) (c_X4_init _ _ _ (i := 26) (o := a8) (n := 256) rfl wup_new wup_at (wup_fr (hw7.fr (hfr (1, 26) (by decide)) (by decide)) (by decide)) (wup_fr (hw7.fr (hfr (2, 26) (by decide)) (by decide)) (by decide)) su_s (F21.z (F21.su (ks := [1]) (by decide)) (by decide) (hf7.z (by decide) (hz0 0 _ _ (by decide)))) (fun _ => (F21.z (F21.su (ks := [1]) (by decide)) (by decide) (hf7.z (by decide) (hz0 1 _ _ (by decide)))))) li_X6_15 rfl (by rw [hR]; exact ⟨Nat.le_of_ble_eq_true rfl, Nat.le_of_ble_eq_true rfl⟩) (by rw [hR]; exact ⟨Nat.le_of_ble_eq_true rfl, Nat.le_of_ble_eq_true rfl⟩) rfl (Nat.le_of_ble_eq_true rfl) (atL dAX6_init_1 1 rfl) (fun _ w8 σ8 hp8 => ?_)
    obtain ⟨hwt8, hF8⟩ := hp8
    obtain ⟨hw8, ha8⟩ := Wad.mk hw7 hr8 hwt8
    have hn8 : σ8 21 0 0 = 8 := hF8.n (by decide) ((su_i (by decide)).trans hm7)
    replace hF8 : F21 [0, 1, 3, 7, 8, 10] σ0 σ8 := (hf7.tr (F21.su (ks := [1]) (by decide)) (by decide)).tr hF8 (by decide)
    clear hwt8 hr8
    show V X (108, 9832) w8 _ _ σ8 [.ref a8, .ref o]
    refine v_eq2 ha8 ((hw8.2 _ _ hl).trans ho) (rp_X6_58 hX hnm (hw8.old hl) (hw8.new (by decide)) hn8 (atL dAX6_init_1 2 rfl) ?_)
    have hm8 : su σ8 21 0 0 (((8 : Nat) : Int) + 1) 21 0 0 = 9 := su_s
    have hf8 : F21 [0, 1, 3, 7, 8, 10] σ0 (su σ8 21 0 0 (((8 : Nat) : Int) + 1)) := hF8.tr (F21.su (ks := [0]) (by decide)) (by decide)
    obtain ⟨τ8, hs8⟩ : ∃ q, su σ8 21 0 0 (((8 : Nat) : Int) + 1) = q := ⟨_, rfl⟩
    rw [hs8] at hm8 hf8
    rw [hs8]
    clear hs8 hn8 hF8 ha8 hw7 hm7 hf7
    refine v_aload_n hX 1 rfl (atL dAX6_init_1 3 rfl) ?_
    have hr9 := hw8.fr (k := 33) (i := 0) (hfr (33, 0) (by decide)) (by decide)
    refine nw_X6_61 hX (i := 0) hr9 (by rw [hR]; exact ⟨Nat.le_of_ble_eq_true rfl, Nat.le_of_ble_eq_true rfl⟩) (atL dAX6_init_1 4 rfl) (fun a9 => ?_)
    refine v_dup hX rfl (atL dAX6_init_1 5 rfl) ?_
    refine v_callI hX (As := []) (rest := [.ref a9, .ref o]) (c_X5_init _ _ _ (i := 0) (o := a9) wup_new wup_at (wup_fr (hw8.fr (hfr (3, 0) (by decide)) (by decide)) (by decide)) (wup_fr (hw8.fr (hfr (4, 0) (by decide)) (by decide)) (by decide)) su_s (F21.z (F21.su (ks := [3]) (by decide)) (by decide) (hf8.z (by decide) (hz0 2 _ _ (by decide)))) (fun _ => (F21.z (F21.su (ks := [3]) (by decide)) (by decide) (hf8.z (by decide) (hz0 3 _ _ (by decide)))))) li_X6_63 rfl (by rw [hR]; exact ⟨Nat.le_of_ble_eq_true rfl, Nat.le_of_ble_eq_true rfl⟩) (by rw [hR]; exact ⟨Nat.le_of_ble_eq_true rfl, Nat.le_of_ble_eq_true rfl⟩) rfl (Nat.le_of_ble_eq_true rfl) (atL dAX6_init_1 6 rfl) (fun _ w9 σ9 hp9 => ?_)
    obtain ⟨hwt9, hF9⟩ := hp9
    obtain ⟨hw9, ha9⟩ := Wad.mk hw8 hr9 hwt9
    have hn9 : σ9 21 0 0 = 9 := hF9.n (by decide) ((su_i (by decide)).trans hm8)
    replace hF9 : F21 [0, 1, 3, 7, 8, 10] σ0 σ9 := (hf8.tr (F21.su (ks := [3]) (by decide)) (by decide)).tr hF9 (by decide)
    clear hwt9 hr9
    show V X (110, 9914) w9 _ _ σ9 [.ref a9, .ref o]
    refine v_eq2 ha9 ((hw9.2 _ _ hl).trans ho) (rp_X6_64 hX hnm (hw9.old hl) (hw9.new (by decide)) hn9 (atL dAX6_init_1 7 rfl) ?_)
    have hm9 : su σ9 21 0 0 (((9 : Nat) : Int) + 1) 21 0 0 = 10 := su_s
    have hf9 : F21 [0, 1, 3, 7, 8, 10] σ0 (su σ9 21 0 0 (((9 : Nat) : Int) + 1)) := hF9.tr (F21.su (ks := [0]) (by decide)) (by decide)
    obtain ⟨τ9, hs9⟩ : ∃ q, su σ9 21 0 0 (((9 : Nat) : Int) + 1) = q := ⟨_, rfl⟩
    rw [hs9] at hm9 hf9
    rw [hs9]
    clear hs9 hn9 hF9 ha9 hw8 hm8 hf8
    refine v_aload_n hX 1 rfl (atL dAX6_init_1 8 rfl) ?_
    have hr10 := hw9.fr (k := 33) (i := 1) (hfr (33, 1) (by decide)) (by decide)
    refine nw_X6_61 hX (i := 1) hr10 (by rw [hR]; exact ⟨Nat.le_of_ble_eq_true rfl, Nat.le_of_ble_eq_true rfl⟩) (atL dAX6_init_1 9 rfl) (fun a10 => ?_)
    refine v_dup hX rfl (atL dAX6_init_1 10 rfl) ?_
    refine v_callI hX (As := []) (rest := [.ref a10, .ref o]) (c_X5_init _ _ _ (i := 1) (o := a10) wup_new wup_at (wup_fr (hw9.fr (hfr (3, 1) (by decide)) (by decide)) (by decide)) (wup_fr (hw9.fr (hfr (4, 1) (by decide)) (by decide)) (by decide)) su_s (F21.z (F21.su (ks := [3]) (by decide)) (by decide) (hf9.z (by decide) (hz0 2 _ _ (by decide)))) (fun _ => (F21.z (F21.su (ks := [3]) (by decide)) (by decide) (hf9.z (by decide) (hz0 3 _ _ (by decide)))))) li_X6_63 rfl (by rw [hR]; exact ⟨Nat.le_of_ble_eq_true rfl, Nat.le_of_ble_eq_true rfl⟩) (by rw [hR]; exact ⟨Nat.le_of_ble_eq_true rfl, Nat.le_of_ble_eq_true rfl⟩) rfl (Nat.le_of_ble_eq_true rfl) (atL dAX6_init_1 11 rfl) (fun _ w10 σ10 hp10 => ?_)
    obtain ⟨hwt10, hF10⟩ := hp10
    obtain ⟨hw10, ha10⟩ := Wad.mk hw9 hr10 hwt10
    have hn10 : σ10 21 0 0 = 10 := hF10.n (by decide) ((su_i (by decide)).trans hm9)
    replace hF10 : F21 [0, 1, 3, 7, 8, 10] σ0 σ10 := (hf9.tr (F21.su (ks := [3]) (by decide)) (by decide)).tr hF10 (by decide)
    clear hwt10 hr10
    show V X (112, 9996) w10 _ _ σ10 [.ref a10, .ref o]
    refine v_eq2 ha10 ((hw10.2 _ _ hl).trans ho) (rp_X6_68 hX hnm (hw10.old hl) (hw10.new (by decide)) hn10 (atL dAX6_init_1 12 rfl) ?_)
    have hm10 : su σ10 21 0 0 (((10 : Nat) : Int) + 1) 21 0 0 = 11 := su_s
    have hf10 : F21 [0, 1, 3, 7, 8, 10] σ0 (su σ10 21 0 0 (((10 : Nat) : Int) + 1)) := hF10.tr (F21.su (ks := [0]) (by decide)) (by decide)
    obtain ⟨τ10, hs10⟩ : ∃ q, su σ10 21 0 0 (((10 : Nat) : Int) + 1) = q := ⟨_, rfl⟩
    rw [hs10] at hm10 hf10
    rw [hs10]
    clear hs10 hn10 hF10 ha10 hw9 hm9 hf9
    refine v_aload_n hX 1 rfl (atL dAX6_init_1 13 rfl) ?_
    have hr11 := hw10.fr (k := 33) (i := 2) (hfr (33, 2) (by decide)) (by decide)
    refine nw_X6_61 hX (i := 2) hr11 (by rw [hR]; exact ⟨Nat.le_of_ble_eq_true rfl, Nat.le_of_ble_eq_true rfl⟩) (atL dAX6_init_1 14 rfl) (fun a11 => ?_)
    refine v_dup hX rfl (atL dAX6_init_1 15 rfl) ?_
    refine v_callI hX (As := []) (rest := [.ref a11, .ref o]) (c_X5_init _ _ _ (i := 2) (o := a11) wup_new wup_at (wup_fr (hw10.fr (hfr (3, 2) (by decide)) (by decide)) (by decide)) (wup_fr (hw10.fr (hfr (4, 2) (by decide)) (by decide)) (by decide)) su_s (F21.z (F21.su (ks := [3]) (by decide)) (by decide) (hf10.z (by decide) (hz0 2 _ _ (by decide)))) (fun _ => (F21.z (F21.su (ks := [3]) (by decide)) (by decide) (hf10.z (by decide) (hz0 3 _ _ (by decide)))))) li_X6_63 rfl (by rw [hR]; exact ⟨Nat.le_of_ble_eq_true rfl, Nat.le_of_ble_eq_true rfl⟩) (by rw [hR]; exact ⟨Nat.le_of_ble_eq_true rfl, Nat.le_of_ble_eq_true rfl⟩) rfl (Nat.le_of_ble_eq_true rfl) (atL dAX6_init_1 16 rfl) (fun _ w11 σ11 hp11 => ?_)
    obtain ⟨hwt11, hF11⟩ := hp11
    obtain ⟨hw11, ha11⟩ := Wad.mk hw10 hr11 hwt11
    have hn11 : σ11 21 0 0 = 11 := hF11.n (by decide) ((su_i (by decide)).trans hm10)
    replace hF11 : F21 [0, 1, 3, 7, 8, 10] σ0 σ11 := (hf10.tr (F21.su (ks := [3]) (by decide)) (by decide)).tr hF11 (by decide)
    clear hwt11 hr11
    show V X (114, 10078) w11 _ _ σ11 [.ref a11, .ref o]
    refine v_eq2 ha11 ((hw11.2 _ _ hl).trans ho) (rp_X6_71 hX hnm (hw11.old hl) (hw11.new (by decide)) hn11 (atL dAX6_init_1 17 rfl) ?_)
    have hm11 : su σ11 21 0 0 (((11 : Nat) : Int) + 1) 21 0 0 = 12 := su_s
    have hf11 : F21 [0, 1, 3, 7, 8, 10] σ0 (su σ11 21 0 0 (((11 : Nat) : Int) + 1)) := hF11.tr (F21.su (ks := [0]) (by decide)) (by decide)
    obtain ⟨τ11, hs11⟩ : ∃ q, su σ11 21 0 0 (((11 : Nat) : Int) + 1) = q := ⟨_, rfl⟩
    rw [hs11] at hm11 hf11
    rw [hs11]
    clear hs11 hn11 hF11 ha11 hw10 hm10 hf10
    refine v_aload_n hX 1 rfl (atL dAX6_init_1 18 rfl) ?_
    have hr12 := hw11.fr (k := 33) (i := 3) (hfr (33, 3) (by decide)) (by decide)
    refine nw_X6_61 hX (i := 3) hr12 (by rw [hR]; exact ⟨Nat.le_of_ble_eq_true rfl, Nat.le_of_ble_eq_true rfl⟩) (atL dAX6_init_1 19 rfl) (fun a12 => ?_)
    refine v_dup hX rfl (atL dAX6_init_1 20 rfl) ?_
    refine v_callI hX (As := []) (rest := [.ref a12, .ref o]) (c_X5_init _ _ _ (i := 3) (o := a12) wup_new wup_at (wup_fr (hw11.fr (hfr (3, 3) (by decide)) (by decide)) (by decide)) (wup_fr (hw11.fr (hfr (4, 3) (by decide)) (by decide)) (by decide)) su_s (F21.z (F21.su (ks := [3]) (by decide)) (by decide) (hf11.z (by decide) (hz0 2 _ _ (by decide)))) (fun _ => (F21.z (F21.su (ks := [3]) (by decide)) (by decide) (hf11.z (by decide) (hz0 3 _ _ (by decide)))))) li_X6_63 rfl (by rw [hR]; exact ⟨Nat.le_of_ble_eq_true rfl, Nat.le_of_ble_eq_true rfl⟩) (by rw [hR]; exact ⟨Nat.le_of_ble_eq_true rfl, Nat.le_of_ble_eq_true rfl⟩) rfl (Nat.le_of_ble_eq_true rfl) (atL dAX6_init_1 21 rfl) (fun _ w12 σ12 hp12 => ?_)
    obtain ⟨hwt12, hF12⟩ := hp12
    obtain ⟨hw12, ha12⟩ := Wad.mk hw11 hr12 hwt12
    have hn12 : σ12 21 0 0 = 12 := hF12.n (by decide) ((su_i (by decide)).trans hm11)
    replace hF12 : F21 [0, 1, 3, 7, 8, 10] σ0 σ12 := (hf11.tr (F21.su (ks := [3]) (by decide)) (by decide)).tr hF12 (by decide)
    clear hwt12 hr12
    show V X (116, 10160) w12 _ _ σ12 [.ref a12, .ref o]
    refine v_eq2 ha12 ((hw12.2 _ _ hl).trans ho) (rp_X6_74 hX hnm (hw12.old hl) (hw12.new (by decide)) hn12 (atL dAX6_init_1 22 rfl) ?_)
    have hm12 : su σ12 21 0 0 (((12 : Nat) : Int) + 1) 21 0 0 = 13 := su_s
    have hf12 : F21 [0, 1, 3, 7, 8, 10] σ0 (su σ12 21 0 0 (((12 : Nat) : Int) + 1)) := hF12.tr (F21.su (ks := [0]) (by decide)) (by decide)
    obtain ⟨τ12, hs12⟩ : ∃ q, su σ12 21 0 0 (((12 : Nat) : Int) + 1) = q := ⟨_, rfl⟩
    rw [hs12] at hm12 hf12
    rw [hs12]
    clear hs12 hn12 hF12 ha12 hw11 hm11 hf11
    refine v_aload_n hX 1 rfl (atL dAX6_init_1 23 rfl) ?_
    have hr13 := hw12.fr (k := 33) (i := 4) (hfr (33, 4) (by decide)) (by decide)
    refine nw_X6_61 hX (i := 4) hr13 (by rw [hR]; exact ⟨Nat.le_of_ble_eq_true rfl, Nat.le_of_ble_eq_true rfl⟩) (atL dAX6_init_1 24 rfl) (fun a13 => ?_)
    refine v_dup hX rfl (atL dAX6_init_1 25 rfl) ?_
    refine v_callI hX (As := []) (rest := [.ref a13, .ref o]) (c_X5_init _ _ _ (i := 4) (o := a13) wup_new wup_at (wup_fr (hw12.fr (hfr (3, 4) (by decide)) (by decide)) (by decide)) (wup_fr (hw12.fr (hfr (4, 4) (by decide)) (by decide)) (by decide)) su_s (F21.z (F21.su (ks := [3]) (by decide)) (by decide) (hf12.z (by decide) (hz0 2 _ _ (by decide)))) (fun _ => (F21.z (F21.su (ks := [3]) (by decide)) (by decide) (hf12.z (by decide) (hz0 3 _ _ (by decide)))))) li_X6_63 rfl (by rw [hR]; exact ⟨Nat.le_of_ble_eq_true rfl, Nat.le_of_ble_eq_true rfl⟩) (by rw [hR]; exact ⟨Nat.le_of_ble_eq_true rfl, Nat.le_of_ble_eq_true rfl⟩) rfl (Nat.le_of_ble_eq_true rfl) (atL dAX6_init_1 26 rfl) (fun _ w13 σ13 hp13 => ?_)
    obtain ⟨hwt13, hF13⟩ := hp13
    obtain ⟨hw13, ha13⟩ := Wad.mk hw12 hr13 hwt13
    have hn13 : σ13 21 0 0 = 13 := hF13.n (by decide) ((su_i (by decide)).trans hm12)
    replace hF13 : F21 [0, 1, 3, 7, 8, 10] σ0 σ13 := (hf12.tr (F21.su (ks := [3]) (by decide)) (by decide)).tr hF13 (by decide)
    clear hwt13 hr13
    show V X (118, 10242) w13 _ _ σ13 [.ref a13, .ref o]
    refine v_eq2 ha13 ((hw13.2 _ _ hl).trans ho) (rp_X6_77 hX hnm (hw13.old hl) (hw13.new (by decide)) hn13 (atL dAX6_init_1 27 rfl) ?_)
    have hm13 : su σ13 21 0 0 (((13 : Nat) : Int) + 1) 21 0 0 = 14 := su_s
    have hf13 : F21 [0, 1, 3, 7, 8, 10] σ0 (su σ13 21 0 0 (((13 : Nat) : Int) + 1)) := hF13.tr (F21.su (ks := [0]) (by decide)) (by decide)
    obtain ⟨τ13, hs13⟩ : ∃ q, su σ13 21 0 0 (((13 : Nat) : Int) + 1) = q := ⟨_, rfl⟩
    rw [hs13] at hm13 hf13
    rw [hs13]
    clear hs13 hn13 hF13 ha13 hw12 hm12 hf12
    refine v_aload_n hX 1 rfl (atL dAX6_init_1 28 rfl) ?_
    have hr14 := hw13.fr (k := 33) (i := 5) (hfr (33, 5) (by decide)) (by decide)
    refine nw_X6_61 hX (i := 5) hr14 (by rw [hR]; exact ⟨Nat.le_of_ble_eq_true rfl, Nat.le_of_ble_eq_true rfl⟩) (atL dAX6_init_1 29 rfl) (fun a14 => ?_)
    refine v_dup hX rfl (atL dAX6_init_1 30 rfl) ?_
    refine v_callI hX (As := []) (rest := [.ref a14, .ref o]) (c_X5_init _ _ _ (i := 5) (o := a14) wup_new wup_at (wup_fr (hw13.fr (hfr (3, 5) (by decide)) (by decide)) (by decide)) (wup_fr (hw13.fr (hfr (4, 5) (by decide)) (by decide)) (by decide)) su_s (F21.z (F21.su (ks := [3]) (by decide)) (by decide) (hf13.z (by decide) (hz0 2 _ _ (by decide)))) (fun _ => (F21.z (F21.su (ks := [3]) (by decide)) (by decide) (hf13.z (by decide) (hz0 3 _ _ (by decide)))))) li_X6_63 rfl (by rw [hR]; exact ⟨Nat.le_of_ble_eq_true rfl, Nat.le_of_ble_eq_true rfl⟩) (by rw [hR]; exact ⟨Nat.le_of_ble_eq_true rfl, Nat.le_of_ble_eq_true rfl⟩) rfl (Nat.le_of_ble_eq_true rfl) (atL dAX6_init_1 31 rfl) (fun _ w14 σ14 hp14 => ?_)
    obtain ⟨hwt14, hF14⟩ := hp14
    obtain ⟨hw14, ha14⟩ := Wad.mk hw13 hr14 hwt14
    have hn14 : σ14 21 0 0 = 14 := hF14.n (by decide) ((su_i (by decide)).trans hm13)
    replace hF14 : F21 [0, 1, 3, 7, 8, 10] σ0 σ14 := (hf13.tr (F21.su (ks := [3]) (by decide)) (by decide)).tr hF14 (by decide)
    clear hwt14 hr14
    show V X (120, 10324) w14 _ _ σ14 [.ref a14, .ref o]
    refine v_eq2 ha14 ((hw14.2 _ _ hl).trans ho) (rp_X6_80 hX hnm (hw14.old hl) (hw14.new (by decide)) hn14 (atL dAX6_init_1 32 rfl) ?_)
    have hm14 : su σ14 21 0 0 (((14 : Nat) : Int) + 1) 21 0 0 = 15 := su_s
    have hf14 : F21 [0, 1, 3, 7, 8, 10] σ0 (su σ14 21 0 0 (((14 : Nat) : Int) + 1)) := hF14.tr (F21.su (ks := [0]) (by decide)) (by decide)
    obtain ⟨τ14, hs14⟩ : ∃ q, su σ14 21 0 0 (((14 : Nat) : Int) + 1) = q := ⟨_, rfl⟩
    rw [hs14] at hm14 hf14
    rw [hs14]
    clear hs14 hn14 hF14 ha14 hw13 hm13 hf13
    refine v_aload_n hX 1 rfl (atL dAX6_init_1 33 rfl) ?_
    have hr15 := hw14.fr (k := 33) (i := 6) (hfr (33, 6) (by decide)) (by decide)
    refine nw_X6_61 hX (i := 6) hr15 (by rw [hR]; exact ⟨Nat.le_of_ble_eq_true rfl, Nat.le_of_ble_eq_true rfl⟩) (atL dAX6_init_1 34 rfl) (fun a15 => ?_)
    refine v_dup hX rfl (atL dAX6_init_1 35 rfl) ?_
    refine v_callI hX (As := []) (rest := [.ref a15, .ref o]) (c_X5_init _ _ _ (i := 6) (o := a15) wup_new wup_at (wup_fr (hw14.fr (hfr (3, 6) (by decide)) (by decide)) (by decide)) (wup_fr (hw14.fr (hfr (4, 6) (by decide)) (by decide)) (by decide)) su_s (F21.z (F21.su (ks := [3]) (by decide)) (by decide) (hf14.z (by decide) (hz0 2 _ _ (by decide)))) (fun _ => (F21.z (F21.su (ks := [3]) (by decide)) (by decide) (hf14.z (by decide) (hz0 3 _ _ (by decide)))))) li_X6_63 rfl (by rw [hR]; exact ⟨Nat.le_of_ble_eq_true rfl, Nat.le_of_ble_eq_true rfl⟩) (by rw [hR]; exact ⟨Nat.le_of_ble_eq_true rfl, Nat.le_of_ble_eq_true rfl⟩) rfl (Nat.le_of_ble_eq_true rfl) (atL dAX6_init_1 36 rfl) (fun _ w15 σ15 hp15 => ?_)
    obtain ⟨hwt15, hF15⟩ := hp15
    obtain ⟨hw15, ha15⟩ := Wad.mk hw14 hr15 hwt15
    have hn15 : σ15 21 0 0 = 15 := hF15.n (by decide) ((su_i (by decide)).trans hm14)
    replace hF15 : F21 [0, 1, 3, 7, 8, 10] σ0 σ15 := (hf14.tr (F21.su (ks := [3]) (by decide)) (by decide)).tr hF15 (by decide)
    clear hwt15 hr15
    show V X (122, 10406) w15 _ _ σ15 [.ref a15, .ref o]
    refine v_eq2 ha15 ((hw15.2 _ _ hl).trans ho) (rp_X6_83 hX hnm (hw15.old hl) (hw15.new (by decide)) hn15 (atL dAX6_init_1 37 rfl) ?_)
    have hm15 : su σ15 21 0 0 (((15 : Nat) : Int) + 1) 21 0 0 = 16 := su_s
    have hf15 : F21 [0, 1, 3, 7, 8, 10] σ0 (su σ15 21 0 0 (((15 : Nat) : Int) + 1)) := hF15.tr (F21.su (ks := [0]) (by decide)) (by decide)
    obtain ⟨τ15, hs15⟩ : ∃ q, su σ15 21 0 0 (((15 : Nat) : Int) + 1) = q := ⟨_, rfl⟩
    rw [hs15] at hm15 hf15
    rw [hs15]
    clear hs15 hn15 hF15 ha15 hw14 hm14 hf14
    have h11 : τ15 21 11 0 = 24 := hf15.n (by decide) h24
    have hz4 : τ15 4 0 0 = 0 := hf15.z (by decide) (hz0 4 0 0 (by decide))
    have hfh := hw15.fr (k := 0) (i := 0) (hfr (0, 0) (by decide)) (by decide)
    have hfa := hw15.fr (k := 11) (i := 0) (hfr (11, 0) (by decide)) (by decide)
    have hl41 := hw15.new (k := 41) (i := 0) (by decide)
    refine v_done2 (k := 0) (i := 0) (ka := 11) (j := 0) (hw15.old hl) hl41 hfh hfa (by decide) (by decide) (by decide) (fun k' i' hk' hne q hq => ?_) (fun q hq => ?_) (fun q hq => ?_) (fun D g H ad a had hv => ?_) (fun D g H ad a hv => ?_) ?_
    · by_cases h30 : 30 ≤ q.1
      · rcases mn_raw hq h30 with ⟨rfl, -⟩ | ⟨-, rfl⟩
        · refine absurd ⟨rfl, ?_⟩ hne
          rcases (hw15.1 30 i').mp hk' with x | x
          · exact h30w i' x
          · exact absurd x (fun x => absurd ((by decide +kernel : ∀ q ∈ [(3, 6), (4, 6), (3, 5), (4, 5), (3, 4), (4, 4), (3, 3), (4, 3), (3, 2), (4, 2), (3, 1), (4, 1), (3, 0), (4, 0), (1, 26), (2, 26), (1, 25), (2, 25), (10, 0), (1, 33), (2, 33), (1, 32), (2, 32), (1, 31), (2, 31), (1, 30), (2, 30), (1, 29), (2, 29), (8, 0), (1, 28), (2, 28), (1, 27), (2, 27), (9, 2), (9, 1), (9, 0), (7, 0), (3, 22), (4, 22), (3, 21), (4, 21), (3, 20), (4, 20), (3, 19), (4, 19), (3, 18), (4, 18), (3, 17), (4, 17), (3, 16), (4, 16), (3, 15), (4, 15), (3, 14), (4, 14), (3, 13), (4, 13), (3, 12), (4, 12), (3, 11), (4, 11), (3, 10), (4, 10), (3, 9), (4, 9), (3, 8), (4, 8), (3, 7), (4, 7), (12, 0), (1, 24), (2, 24), (1, 0), (1, 1), (1, 2), (1, 3), (1, 4), (1, 5), (1, 6), (1, 7), (1, 8), (1, 9), (1, 10), (1, 11), (1, 12), (1, 13), (1, 14), (1, 15), (1, 16), (1, 17), (1, 18), (1, 19), (1, 20), (1, 21), (1, 22), (1, 23), (2, 0), (2, 1), (2, 2), (2, 3), (2, 4), (2, 5), (2, 6), (2, 7), (2, 8), (2, 9), (2, 10), (2, 11), (2, 12), (2, 13), (2, 14), (2, 15), (2, 16), (2, 17), (2, 18), (2, 19), (2, 20), (2, 21), (2, 22), (2, 23), (41, 0)], q.1 ≠ 30) _ x) (fun h => h rfl))
        · exact ⟨fun e => absurd (show 36 = 30 from e.1) (by decide), fun e => absurd (show 36 = 41 from e.1) (by decide)⟩
      · exact ⟨fun e => by omega, fun e => by omega⟩
    · have h2 : q = (11, 0) ∨ (q ∈ (ix 0 0).filterMap (fun q => if q.1.1 = 0 ∧ (q.2 : Int) < 16 then some q.1.2 else none) ∧ q.1 < 30) := (by decide +kernel : ∀ q ∈ (tp 0 0).filterMap (fun d => if d.1 = 0 then some d.2 else none), q = (11, 0) ∨ (q ∈ (ix 0 0).filterMap (fun q => if q.1.1 = 0 ∧ (q.2 : Int) < 16 then some q.1.2 else none) ∧ q.1 < 30)) q hq
      show q = (11, 0) ∨ (q ∈ (ix 0 0).filterMap (fun q => if q.1.1 = 0 ∧ (q.2 : Int) < τ15 21 0 0 then some q.1.2 else none) ∧ q.1 < 30)
      rw [hm15]
      exact h2
    · show q ∈ ((List.range 24).filter (fun j : Nat => decide ((j : Int) < τ15 21 11 0))).map (fun j => (1, j))
      rw [h11]
      exact (by decide +kernel : ∀ q ∈ (List.range 24).map (fun j => (1, j)), q ∈ ((List.range 24).filter (fun j : Nat => decide ((j : Int) < 24))).map (fun j => (1, j))) q hq
    · show va_at D vwCl (a, ob ad τ15 0 0) H
      rw [done_house had hm15 hz4]
      exact hv
    · refine at_rfs (f := fun j => if (j : Int) < τ15 21 11 0 then some (ad 1 j) else none) (fun j hj => ?_) hv
      show some (ad 1 j) = if (j : Int) < τ15 21 11 0 then some (ad 1 j) else none
      rw [h11, if_pos (by omega)]
    · exact v_vret hX (atL dAX6_init_1 38 rfl) (hret () _ _ ⟨Wto.of2 hw15 hl hfh hfa (by decide +kernel) (hfr (41, 0) (by decide)) (by decide) (by decide) (by decide) (by decide +kernel) (by decide +kernel) (by decide +kernel), hFall.tr hf15 (by decide)⟩ _ ⟨Nat.le_of_ble_eq_true rfl, Nat.le_of_ble_eq_true rfl⟩)
  have loop : ∀ (n j : Nat) (w0 : Wl) (τ : St) (l : List (Nat × Nat)), n + j = 24 → Wad w w0 l → (∀ q, q ∈ l ↔ q = (41, 0) ∨ ((q.1 = 1 ∨ q.1 = 2) ∧ q.2 < j)) → F21 [0, 1, 3, 7, 8, 10, 11] σ τ → τ 21 0 0 = 1 → τ 21 11 0 = (j : Int) → V X (1 + 2 * j, 24 + 258 * j) w0 15 [(1, .int (iI (j : Int))), (0, .ref o)] τ [] := by
    intro n
    induction n with
    | zero =>
      intro j w0 τ l hj hw0 hml hF hn h11
      obtain rfl : j = 24 := by omega
      refine v_iload_n hX 0 rfl (atL dAX6_init_0 8 rfl) ?_
      refine v_bipush hX (by decide +kernel) (atL dAX6_init_0 9 rfl) ?_
      refine v_icmp_ge hX ⟨by omega, by omega⟩ ⟨by omega, by omega⟩ (tgt := 43) (atL dAX6_init_0 10 rfl) (by decide) (fun h18 => ?_) (fun h18 => absurd h18 (by omega))
      refine P2 w0 τ (hw0.mem (fun q => ⟨fun h => ?_, fun h => ?_⟩)) hF hn h11
      · rcases (hml q).mp h with rfl | ⟨h1 | h1, h2⟩
        · decide
        · have := (by decide +kernel : ∀ j, j < 24 → (1, j) ∈ l0X6) q.2 h2
          rw [← h1] at this
          exact this
        · have := (by decide +kernel : ∀ j, j < 24 → (2, j) ∈ l0X6) q.2 h2
          rw [← h1] at this
          exact this
      · exact (hml q).mpr ((by decide +kernel : ∀ q ∈ l0X6, q = (41, 0) ∨ ((q.1 = 1 ∨ q.1 = 2) ∧ q.2 < 24)) q h)
    | succ n ih =>
      intro j w0 τ l hj hw0 hml hF hn h11
      have hj24 : j < 24 := by omega
      have hl0 := hw0.old hl
      have hl41 : w0.2 41 0 := hw0.new ((hml _).mpr (Or.inl rfl))
      have hq : ∀ k, k ≠ 41 → (k ≠ 1 ∧ k ≠ 2) → (k, j) ∉ l := fun k h1 h2 h => by
        rcases (hml _).mp h with e | ⟨e | e, e2⟩
        · exact h1 (congrArg Prod.fst e)
        · exact h2.1 e
        · exact h2.2 e
      have hqj : ∀ k, k ≠ 41 → (k, j) ∉ l := fun k h1 h => by
        rcases (hml _).mp h with e | ⟨e, e2⟩
        · exact h1 (congrArg Prod.fst e)
        · exact absurd e2 (Nat.lt_irrefl j)
      refine v_iload_n hX 0 rfl (atL dAX6_init_0 8 rfl) ?_
      refine v_bipush hX (by decide +kernel) (atL dAX6_init_0 9 rfl) ?_
      refine v_icmp_ge hX ⟨by omega, by omega⟩ ⟨by omega, by omega⟩ (tgt := 43) (atL dAX6_init_0 10 rfl) (by decide) (fun h18 => absurd h18 (by omega)) (fun h18 => ?_)
      refine v_aload_n hX 1 rfl (atL dAX6_init_0 11 rfl) ?_
      refine v_eq0 ((hw0.2 _ _ hl).trans ho) (v_getf hX (k := 30) (i := 0) (ci := 6) (j := 0) (v := .ref (w0.1 41 0)) (fs := (rawL 0 0).map (fr w0.1 1)) hl0 (fun g => by show raw _ _ 0 0 = _; unfold raw; rw [hn]; rfl) rfl in_X6 (by decide) wd_173 rfl rfl (atL dAX6_init_0 12 rfl) ?_)
      refine v_iload_n hX 0 rfl (atL dAX6_init_0 13 rfl) ?_
      have f31 : ¬ w0.2 31 j := hw0.fr (hfr (31, j) ((by decide +kernel : ∀ j, j < 24 → (31, j) ∈ flX6) j hj24)) (hqj _ (by decide))
      have f1 : ¬ w0.2 1 j := hw0.fr (hfr (1, j) ((by decide +kernel : ∀ j, j < 24 → (1, j) ∈ flX6) j hj24)) (hqj _ (by decide))
      have f2 : ¬ w0.2 2 j := hw0.fr (hfr (2, j) ((by decide +kernel : ∀ j, j < 24 → (2, j) ∈ flX6) j hj24)) (hqj _ (by decide))
      refine nw_X6_9 hX (i := j) f31 (by rw [hR]; exact ⟨by show 1 + 2 * j + 1 ≤ 122; omega, by show 24 + 258 * j + 2 ≤ 10406; omega⟩) (atL dAX6_init_0 14 rfl) (fun a => ?_)
      refine v_dup hX rfl (atL dAX6_init_0 15 rfl) ?_
      refine v_sipush hX (by decide +kernel) (atL dAX6_init_0 16 rfl) ?_
      have hrc : rcap j = 256 := by unfold rcap; rw [if_pos hj24]
      refine v_callI hX (As := [.int (iI 256)]) (rest := [.ref a, .int (iI (j : Int)), .ref (w0.1 41 0)]) (c_X4_init _ _ _ (i := j) (o := a) (n := 256) hrc wup_new wup_at (wup_fr f1 (fun e => absurd e.1 (by decide))) (wup_fr f2 (fun e => absurd e.1 (by decide))) su_s (F21.z (F21.su (ks := [1]) (by decide)) (by decide) (hF.z (by decide) (hz 0 _ _ (by decide)))) (fun _ => F21.z (F21.su (ks := [1]) (by decide)) (by decide) (hF.z (by decide) (hz 1 _ _ (by decide))))) li_X6_15 rfl (by rw [hR]; exact ⟨Nat.le_of_ble_eq_true rfl, Nat.le_of_ble_eq_true rfl⟩) (by rw [hR]; exact ⟨by show 1 + 2 * j + 1 + 1 ≤ 122; omega, by show 24 + 258 * j + 2 + 256 ≤ 10406; omega⟩) rfl (Nat.le_of_ble_eq_true rfl) (atL dAX6_init_0 17 rfl) (fun _ w1 τ1 hp => ?_)
      obtain ⟨hwt, hF1⟩ := hp
      obtain ⟨hw1, ha1⟩ := Wad.mk hw0 f31 hwt
      have hn1 : τ1 21 0 0 = 1 := hF1.n (by decide) ((su_i (by decide)).trans hn)
      have h111 : τ1 21 11 0 = (j : Int) := hF1.n (by decide) ((su_i (by decide)).trans h11)
      have hF2 : F21 [0, 1, 3, 7, 8, 10, 11] σ τ1 := (hF.tr (F21.su (ks := [1]) (by decide)) (by decide)).tr hF1 (by decide)
      have hml1 : ∀ q, q ∈ (1, j) :: ([(2, j)] ++ l) ↔ q = (41, 0) ∨ ((q.1 = 1 ∨ q.1 = 2) ∧ q.2 < j + 1) := fun q => by
        rw [List.mem_cons, List.mem_append, List.mem_singleton, hml q]
        obtain ⟨x, y⟩ := q
        simp only [Prod.mk.injEq]
        omega
      have hl1 := hw1.old hl
      have hl41b : w1.2 41 0 := hw1.new ((hml1 _).mpr (Or.inl rfl))
      have hl1j : w1.2 1 j := hw1.new ((hml1 _).mpr (Or.inr ⟨Or.inl rfl, Nat.lt_succ_self j⟩))
      have e41 : w1.1 41 0 = w0.1 41 0 := (hwt.2.1 41 0 (Or.inl hl41) (fun e => absurd e.1 (by decide))).trans (Wle.up f31 41 0 hl41).2
      show V X _ w1 _ _ τ1 [.ref a, .int (iI (j : Int)), .ref (w0.1 41 0)]
      rw [← e41, ← ha1]
      have hoth : ∀ k' i', w1.2 k' i' → ¬ (k' = 41 ∧ i' = 0) → k' ≠ 41 := fun k' i' h1 h2 h3 => by
        subst h3
        rcases (hw1.1 _ _).mp h1 with x | x
        · exact h41w _ x
        · rcases (hml1 _).mp x with e | ⟨e | e, -⟩
          · exact h2 ⟨rfl, congrArg Prod.snd e⟩
          · exact absurd (show 41 = 1 from e) (by decide)
          · exact absurd (show 41 = 2 from e) (by decide)
      refine v_ast hX (n := 24) (j := j) (k := 41) (i := 0) (t := 5) (kv := 1) (iv := j) (ci := 4) (r := (_, _, _)) (vs := _) (f := fun ad q => if (q : Int) < τ1 21 11 0 then some (ad 1 q) else none) (f' := fun ad q => if (q : Int) < su τ1 21 11 0 ((j : Int) + 1) 21 11 0 then some (ad 1 q) else none) (su τ1 21 11 0 ((j : Int) + 1)) (fun _ => rfl) hl41b hl1j (fun _ => rfl) (fun _ => rfl) rfl rfl hj24 (by decide) (fun _ => rfl) (fun q hq => ?_) (fun g k' i' h1 h2 => cont_r11 (hoth k' i' h1 h2)) (fun hcl2 k' i' h1 q hq => ?_) (atL dAX6_init_0 18 rfl) ?_
      · show (if (q : Int) < su τ1 21 11 0 ((j : Int) + 1) 21 11 0 then some (w1.1 1 q) else none) = if q = j then some (w1.1 1 j) else if (q : Int) < τ1 21 11 0 then some (w1.1 1 q) else none
        rw [su_s, h111]
        by_cases c : q = j
        · subst c
          rw [if_pos (by omega), if_pos rfl]
        · rw [if_neg c]
          by_cases c2 : (q : Int) < (j : Int)
          · rw [if_pos (by omega), if_pos c2]
          · rw [if_neg (by omega), if_neg c2]
      · by_cases c : k' = 41 ∧ i' = 0
        · obtain ⟨rfl, rfl⟩ := c
          have hq2 : q ∈ ((List.range 24).filter (fun t : Nat => decide ((t : Int) < su τ1 21 11 0 ((j : Int) + 1) 21 11 0))).map (fun t => (1, t)) := hq
          obtain ⟨t, ht, rfl⟩ := List.mem_map.mp hq2
          have h3 := (List.mem_filter.mp ht).2
          rw [su_s] at h3
          have h4 : (t : Int) < (j : Int) + 1 := of_decide_eq_true h3
          exact hw1.new ((hml1 _).mpr (Or.inr ⟨Or.inl rfl, by show t < j + 1; omega⟩))
        · rw [mn_r11 (hoth k' i' h1 c)] at hq
          exact hcl2 k' i' h1 q hq
      · refine v_iinc hX (lv' := [(1, .int (iI ((j : Int) + 1))), (0, .ref o)]) 0 rfl (iI_add _ _) (Nat.le_of_ble_eq_true rfl) rfl (atL dAX6_init_0 19 rfl) ?_
        refine v_goto hX (tgt := 15) (atL dAX6_init_0 20 rfl) (by decide) ?_
        have hz2 : ((1 + 2 * j + 1 + 1, 24 + 258 * j + 2 + 256) : Nat × Nat) = (1 + 2 * (j + 1), 24 + 258 * (j + 1)) := by
          rw [Prod.mk.injEq]
          omega
        show V X (1 + 2 * j + 1 + 1, 24 + 258 * j + 2 + 256) w1 15 _ _ []
        rw [hz2]
        exact ih (j + 1) w1 _ _ (by omega) hw1 hml1 (hF2.tr (F21.su (ks := [11]) (by decide)) (by decide)) ((su_i (by decide)).trans hn1) su_s
  refine v_aload_n hX 0 rfl (atL dAX6_init_0 0 rfl) ?_
  refine oi_X6_1 hX (by rw [hR]; exact ⟨Nat.le_of_ble_eq_true rfl, Nat.le_of_ble_eq_true rfl⟩) (atL dAX6_init_0 1 rfl) ?_
  refine v_aload_n hX 0 rfl (atL dAX6_init_0 2 rfl) ?_
  refine v_bipush hX (by decide +kernel) (atL dAX6_init_0 3 rfl) ?_
  have f41 : ¬ w.2 41 0 := h41w 0
  refine v_newQ hX (n := 24) (k := 41) (i := 0) (t := 5) (C := "SealHouse$Row") (f := fun ad j => if (j : Int) < σ 21 11 0 then some (ad 1 j) else none) wd_23 nw_0 (fun _ => rfl) rfl (by decide) f41 (fun _ _ => rfl) (fun ad j _ => if_neg (by rw [hc11]; omega)) ?_ (by rw [hR]; exact ⟨Nat.le_of_ble_eq_true rfl, Nat.le_of_ble_eq_true rfl⟩) (atL dAX6_init_0 4 rfl) (fun a => ?_)
  · show ((List.range 24).filter (fun j : Nat => decide ((j : Int) < σ 21 11 0))).map (fun j => (1, j)) = []
    rw [hc11, List.filter_eq_nil_iff.mpr (fun j _ => by rw [decide_eq_true_eq]; omega)]
    rfl
  have hw0 : Wad w (wup w 41 0 a) [(41, 0)] := Wad.rf.up f41
  have ha : (wup w 41 0 a).1 41 0 = a := wup_at
  obtain ⟨w0, he⟩ : ∃ q, wup w 41 0 a = q := ⟨_, rfl⟩
  rw [he] at hw0 ha
  rw [he]
  refine v_eq2 ha ((hw0.2 _ _ hl).trans ho) (rp_X6_11 hX hnm (hw0.old hl) (hw0.new (by decide)) hc (atL dAX6_init_0 5 rfl) ?_)
  refine v_iconst hX (atL dAX6_init_0 6 rfl) ?_
  refine v_istore_n hX (i := 1) rfl (lv' := [(1, .int (iI 0)), (0, .ref o)]) (Nat.le_of_ble_eq_true rfl) rfl (atL dAX6_init_0 7 rfl) ?_
  exact loop 24 0 w0 _ _ rfl hw0 (fun q => by rw [List.mem_singleton]; obtain ⟨x, y⟩ := q; simp only [Prod.mk.injEq]; omega) (F21.su (by decide)) su_s ((su_i (by decide)).trans hc11)
