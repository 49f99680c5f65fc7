/-! the law: one answer -/
theorem tf_uq {a b : Int} {P : Prop} (h : tf a P) (g : tf b P) : a = b := by
  rcases h with ⟨h1, h2⟩ | ⟨h1, h2⟩ <;> rcases g with ⟨g1, g2⟩ | ⟨g1, g2⟩
  · omega
  · exact absurd h2 g2
  · exact absurd g2 h2
  · omega
theorem uq_probable {A : Ab} {p0 : Int} {r q : Res} (h : f_probable A p0 r) (g : f_probable A p0 q) : r = q := by
  rcases h with ⟨h1, rfl⟩ | ⟨h1, a, rfl, h2⟩ <;> rcases g with ⟨g1, rfl⟩ | ⟨g1, b, rfl, g2⟩
  · rfl
  · exact absurd g1 h1
  · exact absurd h1 g1
  · rw [tf_uq h2 g2]
theorem uq_next {A : Ab} {p0 p1 : Int} {r q : Res} (h : f_next A p0 p1 r) (g : f_next A p0 p1 q) : r = q := by
  rcases h with ⟨h1, rfl⟩ | ⟨h1, h2, rfl⟩ | ⟨h1, h2, k, hk, hp, hm, rfl⟩ | ⟨h1, h2, hm, rfl⟩ <;> rcases g with ⟨g1, rfl⟩ | ⟨g1, g2, rfl⟩ | ⟨g1, g2, j, gk, gp, gm, rfl⟩ | ⟨g1, g2, gm, rfl⟩
  all_goals first
    | rfl
    | exact absurd g1 h1
    | exact absurd h1 g1
    | exact absurd h2 (Nat.not_lt.mpr g2)
    | exact absurd g2 (Nat.not_lt.mpr h2)
    | exact absurd hp (gm k hk)
    | exact absurd gp (hm j gk)
    | (rcases Nat.lt_trichotomy k j with c | c | c
       · exact absurd hp (gm k c)
       · rw [c]
       · exact absurd gp (hm j c))
theorem uq_RP {p q : Nat} {a b : Int} (h : RP p q a) (g : RP p q b) : a = b := by
  rcases h with ⟨h, h1⟩ | ⟨h, h1, h2⟩ | ⟨h, h1, h2, h3⟩ | ⟨h, h1, h2, h3⟩ <;> rcases g with ⟨g, g1⟩ | ⟨g, g1, g2⟩ | ⟨g, g1, g2, g3⟩ | ⟨g, g1, g2, g3⟩
  all_goals first
    | exact h.trans g.symm
    | exact absurd g1 h1
    | exact absurd h1 g1
    | exact absurd g2 h2
    | exact absurd h2 g2
    | exact absurd g3 h3
    | exact absurd h3 g3
theorem uq_RE {e n p q : Nat} {a b : Int} (h : RE e n p q a) (g : RE e n p q b) : a = b := by
  rcases h with ⟨h, h1⟩ | ⟨h, h1, h2⟩ | ⟨h, h1, h2⟩ <;> rcases g with ⟨g, g1⟩ | ⟨g, g1, g2⟩ | ⟨g, g1, g2⟩
  all_goals first
    | exact h.trans g.symm
    | exact absurd g1 h1
    | exact absurd h1 g1
    | exact absurd g2 h2
    | exact absurd h2 g2
theorem uq_key {A : Ab} {p0 p1 p2 : Int} {r q : Res} (h : f_key A p0 p1 p2 r) (g : f_key A p0 p1 p2 q) : r = q := by
  rcases h with ⟨h1, rfl⟩ | ⟨h1, ⟨a, ha, hne, rfl⟩ | ⟨h0, ⟨b, hb, hbn, rfl⟩ | ⟨hb0, ⟨h16, rfl⟩ | ⟨h16, rfl⟩⟩⟩⟩ <;> rcases g with ⟨g1, rfl⟩ | ⟨g1, ⟨c, ga, gne, rfl⟩ | ⟨g0, ⟨d, gb, gbn, rfl⟩ | ⟨gb0, ⟨g16, rfl⟩ | ⟨g16, rfl⟩⟩⟩⟩
  all_goals first
    | rfl
    | exact absurd g1 h1
    | exact absurd h1 g1
    | (rw [uq_RP ha ga]; done)
    | exact absurd (uq_RP ha g0) hne
    | exact absurd (uq_RP ga h0) gne
    | (rw [uq_RE hb gb]; done)
    | exact absurd (uq_RE hb gb0) hbn
    | exact absurd (uq_RE gb hb0) gbn
    | exact absurd h16 (by omega)
    | exact absurd g16 (by omega)
theorem uq_open {A : Ab} {p0 p1 : Int} {r q : Res} (h : f_open A p0 p1 r) (g : f_open A p0 p1 q) : r = q := by
  rcases h with ⟨h1, rfl⟩ | ⟨h1, ⟨h2, rfl⟩ | ⟨h2, h3, rfl⟩ | ⟨h2, h3, ⟨h16, rfl⟩ | ⟨h16, rfl⟩⟩⟩ <;> rcases g with ⟨g1, rfl⟩ | ⟨g1, ⟨g2, rfl⟩ | ⟨g2, g3, rfl⟩ | ⟨g2, g3, ⟨g16, rfl⟩ | ⟨g16, rfl⟩⟩⟩
  all_goals first
    | rfl
    | exact absurd g1 h1
    | exact absurd h1 g1
    | exact absurd g2 h2
    | exact absurd h2 g2
    | exact absurd g3 h3
    | exact absurd h3 g3
    | exact absurd h16 (by omega)
    | exact absurd g16 (by omega)
theorem uq_res {f r q : Res} (h : f = r) (g : f = q) : r = q := h.symm.trans g
theorem res_eq {k k' a b : Int} {A B : Ab} (h : ((k, a, A) : Res) = (k', b, B)) : k = k' ∧ a = b ∧ A = B := by
  rw [Prod.mk.injEq, Prod.mk.injEq] at h
  exact h
theorem HM.eq [Gh] {σ s : St} {A : Ab} (h : HM σ A) (e : ∀ c, 10 ≤ c → c < 15 → s c = σ c) : HM s A := by
  have e10 := e 10 (by decide) (by decide)
  have e12 := e 12 (by decide) (by decide)
  have e13 := e 13 (by decide) (by decide)
  have e14 := e 14 (by decide) (by decide)
  unfold HM HP SM1 KM AN NDg DG CO at *
  rw [e10, e12, e13, e14]
  exact h
theorem HM.k1 [Gh] {s : St} {A : Ab} (h : HM s A) (hk : ghk = 1) : s 10 0 4 = 1 := by
  rcases h.2.2.2 with h4 | h4
  · rw [hk] at h4
    exact absurd h4.2 (by decide)
  · exact h4.1
theorem HM.s0 [Gh] {σ : St} {A : Ab} (hM : HM σ A) : HM (su σ 10 0 0 0) A := hM.same (FG.rf.s10 (by decide) (by decide)) (hM.2.1.s1 (by decide)) (hM.2.2.s10 (by decide) (by decide))
theorem HM.c01 [Gh] {s : St} {A : Ab} (h : HM s A) : s 10 0 4 = 0 ∨ s 10 0 4 = 1 := by
  rcases h.2.2.2 with h4 | h4
  · exact Or.inl h4.1
  · exact Or.inr h4.1
theorem kap_le {s : St} : kap s ≤ 1 := by unfold kap; split <;> omega
theorem rJ_oI (a : Int) : rJ (oI a) := by
  have h := rI_of (iI a)
  exact ⟨by have := h.1; unfold oI; omega, by have := h.2; unfold oI; omega⟩
theorem iI_oI (a : Int) : iI (oI a) = iI a := iI_of _
theorem rI_oI (a : Int) : rI (oI a) := rI_of _
