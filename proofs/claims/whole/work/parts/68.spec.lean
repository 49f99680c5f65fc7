/-! the calls, as functions of the state -/
def w4 (v : Int) : List Nat := [(v / 16777216 % 256).toNat, (v / 65536 % 256).toNat, (v / 256 % 256).toNat, (v % 256).toNat]
theorem w4_by {v : Int} : BY (w4 v) := by
  intro x hx
  simp only [w4, List.mem_cons, List.not_mem_nil, or_false] at hx
  omega
abbrev isK (A : Ab) (k : Int) : Prop := 0 ≤ k ∧ k < (A.2.1 : Int)
abbrev isH (h : Int) : Prop := h = 0 ∨ h = 1
def f_feed (A : Ab) (a b c d e : Int) : Res := if 240 < (A.1 24).length then (0, -1, A) else (0, (((A.1 24).length + 20 : Nat) : Int), A.put 24 (A.1 24 ++ w4 a ++ w4 b ++ w4 c ++ w4 d ++ w4 e))
def f_load (A : Ab) (s n : Int) : Res := if ¬ isS s then (1, 0, A) else if n < 0 ∨ ((A.1 24).length : Int) < n ∨ 256 < n then (2, 0, A) else (0, 0, (A.put s.toNat ((A.1 24).take n.toNat)).put 24 [])
def f_size (A : Ab) (s : Int) : Res := if ¬ isS s then (1, 0, A) else (0, ((A.1 s.toNat).length : Int), A)
def f_octet (A : Ab) (s k : Int) : Res := if ¬ isS s then (1, 0, A) else (0, if 0 ≤ k ∧ k < ((A.1 s.toNat).length : Int) then (((A.1 s.toNat).getD k.toNat 0 : Nat) : Int) else -1, A)
def f_cut (A : Ab) (f i n t : Int) : Res := if ¬ (isS f ∧ isS t) then (1, 0, A) else if i < 0 ∨ n < 0 ∨ ((A.1 f.toNat).length : Int) < i ∨ ((A.1 f.toNat).length : Int) - i < n then (2, 0, A) else (0, n, A.put t.toNat (((A.1 f.toNat).drop i.toNat).take n.toNat))
def f_join (A : Ab) (a b t : Int) : Res := if ¬ (isS a ∧ isS b ∧ isS t) then (1, 0, A) else if 256 < (A.1 a.toNat).length + (A.1 b.toNat).length then (0, -4, A) else (0, (((A.1 a.toNat).length + (A.1 b.toNat).length : Nat) : Int), A.put t.toNat (A.1 a.toNat ++ A.1 b.toNat))
def f_change (A : Ab) (s k v : Int) : Res := if ¬ isS s then (1, 0, A) else if ¬ (0 ≤ k ∧ k < ((A.1 s.toNat).length : Int)) then (2, 0, A) else (0, (((A.1 s.toNat).getD k.toNat 0 : Nat) : Int), A.put s.toNat ((A.1 s.toNat).set k.toNat (v % 256).toNat))
def putR (A : Ab) (t v : Nat) : Res := if 256 < nby v then (0, -4, A) else (0, ((nby v : Nat) : Int), A.put t (be v (nby v)))
def outR (A : Ab) (t : Nat) (q : Int ⊕ Nat) : Res := match q with
  | .inl r => (0, r, A)
  | .inr v => putR A t v
def f_calc (A : Ab) (w a b c t : Int) : Res := if ¬ (isS a ∧ isS b ∧ isS c ∧ isS t) then (1, 0, A) else if w < 0 ∨ 8 < w then (2, 0, A) else outR A t.toNat (cal w (rv (A.1 a.toNat)) (rv (A.1 b.toNat)) (rv (A.1 c.toNat)))
def f_compare (A : Ab) (a b : Int) : Res := if ¬ (isS a ∧ isS b) then (1, 0, A) else (0, if rv (A.1 a.toNat) < rv (A.1 b.toNat) then -1 else if rv (A.1 a.toNat) = rv (A.1 b.toNat) then 0 else 1, A)
def f_bits (A : Ab) (s : Int) : Res := if ¬ isS s then (1, 0, A) else (0, (blen (rv (A.1 s.toNat)) : Int), A)
def f_probable (A : Ab) (s : Int) (r : Res) : Prop := (¬ isS s ∧ r = (1, 0, A)) ∨ (isS s ∧ ∃ a, r = (0, a, A) ∧ tf a (PB (rv (A.1 s.toNat))))
def f_next (A : Ab) (f t : Int) (r : Res) : Prop := (¬ (isS f ∧ isS t) ∧ r = (1, 0, A)) ∨ ((isS f ∧ isS t) ∧ 64 < nby (rv (A.1 f.toNat)) ∧ r = (0, -4, A)) ∨ ((isS f ∧ isS t) ∧ nby (rv (A.1 f.toNat)) ≤ 64 ∧ ∃ k, k < 2000 ∧ PB (rv (A.1 f.toNat) + k + 1) ∧ (∀ j, j < k → ¬ PB (rv (A.1 f.toNat) + j + 1)) ∧ r = putR A t.toNat (rv (A.1 f.toNat) + k + 1)) ∨ ((isS f ∧ isS t) ∧ nby (rv (A.1 f.toNat)) ≤ 64 ∧ (∀ j, j < 2000 → ¬ PB (rv (A.1 f.toNat) + j + 1)) ∧ r = (0, -1, A))
def f_digest (A : Ab) (h f t : Int) : Res := if ¬ (isS f ∧ isS t) then (1, 0, A) else if ¬ isH h then (2, 0, A) else (0, (hl h : Int), A.put t.toNat (sha h (A.1 f.toNat)))
def f_mask (A : Ab) (h f n t : Int) : Res := if ¬ (isS f ∧ isS t) then (1, 0, A) else if ¬ isH h ∨ n < 0 ∨ 256 < n then (2, 0, A) else (0, n, A.put t.toNat (msk h (A.1 f.toNat) n.toNat))
def f_part (A : Ab) (k x t : Int) : Res := if ¬ (isK A k ∧ isS t) then (1, 0, A) else if x < 0 ∨ 7 < x then (2, 0, A) else if (A.2.2.1 k.toNat : Int) ≤ x then (0, -2, A) else putR A t.toNat (A.2.2.2 k.toNat x.toNat)
/-- a row raised (0) or lowered (1) by a key -/
def tn (K : Nat → Nat) (how : Nat) (L : List Nat) : List Nat := be (rv L ^ K (1 + how) % K 0) (nby (K 0))
theorem tn_len {K : Nat → Nat} {how : Nat} {L : List Nat} : (tn K how L).length = nby (K 0) := be_len
def f_turn (A : Ab) (k how f t : Int) : Res := if ¬ (isK A k ∧ isS f ∧ isS t) then (1, 0, A) else if ¬ (how = 0 ∨ how = 1) then (2, 0, A) else if how = 1 ∧ A.2.2.1 k.toNat = 2 then (0, -2, A) else if ¬ rv (A.1 f.toNat) < A.2.2.2 k.toNat 0 then (0, -1, A) else (0, (nby (A.2.2.2 k.toNat 0) : Int), A.put t.toNat (tn (A.2.2.2 k.toNat) how.toNat (A.1 f.toNat)))
def f_hide (A : Ab) (k h m b s t : Int) : Res := if ¬ (isK A k ∧ isS m ∧ isS b ∧ isS s ∧ isS t) then (1, 0, A) else if ¬ isH h then (2, 0, A) else if nby (A.2.2.2 k.toNat 0) < (A.1 m.toNat).length + 2 * hl h + 2 then (0, -3, A) else if (A.1 s.toNat).length ≠ hl h then (0, -4, A) else (0, (nby (A.2.2.2 k.toNat 0) : Int), A.put t.toNat (tn (A.2.2.2 k.toNat) 0 (hideL h (nby (A.2.2.2 k.toNat 0)) (A.1 m.toNat) (A.1 b.toNat) (A.1 s.toNat))))
abbrev wr_ (K : Nat → Nat) (L : List Nat) : Prop := L.length = nby (K 0) ∧ rv L < K 0
def f_show (A : Ab) (k h f b t : Int) : Res := if ¬ (isK A k ∧ isS f ∧ isS b ∧ isS t) then (1, 0, A) else if ¬ isH h then (2, 0, A) else if A.2.2.1 k.toNat = 2 then (0, -2, A) else if nby (A.2.2.2 k.toNat 0) < 2 * hl h + 2 ∨ ¬ wr_ (A.2.2.2 k.toNat) (A.1 f.toNat) ∨ ¬ showOK h (tn (A.2.2.2 k.toNat) 1 (A.1 f.toNat)) (A.1 b.toNat) then (0, -5, A) else (0, ((showL h (tn (A.2.2.2 k.toNat) 1 (A.1 f.toNat))).length : Int), A.put t.toNat (showL h (tn (A.2.2.2 k.toNat) 1 (A.1 f.toNat))))
def f_fill (A : Ab) (k m f t : Int) : Res := if ¬ (isK A k ∧ isS m ∧ isS f ∧ isS t) then (1, 0, A) else if nby (A.2.2.2 k.toNat 0) < (A.1 m.toNat).length + 11 then (0, -3, A) else if (A.1 f.toNat).length + 3 + (A.1 m.toNat).length ≠ nby (A.2.2.2 k.toNat 0) ∨ run (fun x => decide (x ≠ 0)) (A.1 f.toNat) 0 < (A.1 f.toNat).length then (0, -4, A) else (0, (nby (A.2.2.2 k.toNat 0) : Int), A.put t.toNat (tn (A.2.2.2 k.toNat) 0 (fillL (A.1 m.toNat) (A.1 f.toNat))))
def f_empty (A : Ab) (k f t : Int) : Res := if ¬ (isK A k ∧ isS f ∧ isS t) then (1, 0, A) else if A.2.2.1 k.toNat = 2 then (0, -2, A) else if nby (A.2.2.2 k.toNat 0) < 11 ∨ ¬ wr_ (A.2.2.2 k.toNat) (A.1 f.toNat) ∨ ¬ emptyOK (tn (A.2.2.2 k.toNat) 1 (A.1 f.toNat)) then (0, -5, A) else (0, ((emptyL (tn (A.2.2.2 k.toNat) 1 (A.1 f.toNat))).length : Int), A.put t.toNat (emptyL (tn (A.2.2.2 k.toNat) 1 (A.1 f.toNat))))
def f_sign (A : Ab) (k h m t : Int) : Res := if ¬ (isK A k ∧ isS m ∧ isS t) then (1, 0, A) else if ¬ isH h then (2, 0, A) else if A.2.2.1 k.toNat = 2 then (0, -2, A) else if nby (A.2.2.2 k.toNat 0) < 30 + hl h then (0, -6, A) else (0, (nby (A.2.2.2 k.toNat 0) : Int), A.put t.toNat (tn (A.2.2.2 k.toNat) 1 (signL h (nby (A.2.2.2 k.toNat 0)) (A.1 m.toNat))))
def f_prove (A : Ab) (k h m s : Int) : Res := if ¬ (isK A k ∧ isS m ∧ isS s) then (1, 0, A) else if ¬ isH h then (2, 0, A) else if nby (A.2.2.2 k.toNat 0) < 30 + hl h then (0, -6, A) else if ¬ wr_ (A.2.2.2 k.toNat) (A.1 s.toNat) then (0, 0, A) else (0, if tn (A.2.2.2 k.toNat) 0 (A.1 s.toNat) = signL h (nby (A.2.2.2 k.toNat 0)) (A.1 m.toNat) then 1 else 0, A)
def f_salt (A : Ab) (k h m s t : Int) : Res := if ¬ (isK A k ∧ isS m ∧ isS s ∧ isS t) then (1, 0, A) else if ¬ isH h then (2, 0, A) else if A.2.2.1 k.toNat = 2 then (0, -2, A) else if rB (blen (A.2.2.2 k.toNat 0) - 1) < hl h + (A.1 s.toNat).length + 2 then (0, -6, A) else (0, (nby (A.2.2.2 k.toNat 0) : Int), A.put t.toNat (tn (A.2.2.2 k.toNat) 1 (saltL h (blen (A.2.2.2 k.toNat 0) - 1) (A.1 m.toNat) (A.1 s.toNat))))
def f_taste (A : Ab) (k h m s x : Int) : Res := if ¬ (isK A k ∧ isS m ∧ isS s) then (1, 0, A) else if ¬ isH h ∨ x < 0 ∨ 256 < x then (2, 0, A) else (0, if (hl h + x.toNat + 2 ≤ rB (blen (A.2.2.2 k.toNat 0) - 1) ∧ wr_ (A.2.2.2 k.toNat) (A.1 s.toNat)) ∧ tasteOK h (blen (A.2.2.2 k.toNat 0) - 1) (tn (A.2.2.2 k.toNat) 0 (A.1 s.toNat)) (A.1 m.toNat) x.toNat then 1 else 0, A)
/-! what is padded lies below n -/
theorem nby_low {n : Nat} (h : n ≠ 0) : 256 ^ (nby n - 1) ≤ n := by
  have h1 := blen_ge h
  have h2 := blen_pos h
  refine Nat.le_trans ?_ h1
  rw [show (256 : Nat) = 2 ^ 8 from rfl, ← Nat.pow_mul]
  exact Nat.pow_le_pow_right (by omega) (by unfold nby; omega)
theorem rv_lead {T : List Nat} {n : Nat} (hb : BY T) (hn : n ≠ 0) (hl : T.length + 1 = nby n) : rv (0 :: T) < n := by
  rw [rv_cons, Nat.zero_mul, Nat.zero_add]
  have h1 := rv_lt hb
  have h2 := nby_low hn
  rw [show nby n - 1 = T.length by omega] at h2
  omega
theorem hideD_len {h : Int} {k : Nat} {m lb sd : List Nat} (hk : m.length + 2 * hl h + 2 ≤ k) : (hideD h k m lb sd).length = k - hl h - 1 := by
  unfold hideD
  rw [mix_len]
  simp only [List.length_append, sha_len, List.length_replicate, List.length_cons, List.length_nil]
  omega
theorem hideL_lt {h : Int} {k n : Nat} {m lb sd : List Nat} (hk : m.length + 2 * hl h + 2 ≤ k) (hn : n ≠ 0) (hkn : k = nby n) (hm : BY m) (hs : BY sd) : rv (hideL h k m lb sd) < n := by
  have hD : BY (hideD h k m lb sd) := mix_by (((BY.app sha_lt (BY.rep (by omega))).app (BY.one (by omega))).app hm) msk_by
  have e : hideL h k m lb sd = 0 :: (mix (msk h (hideD h k m lb sd) (hl h)) sd ++ hideD h k m lb sd) := rfl
  rw [e]
  refine rv_lead ((mix_by msk_by hs).app hD) hn ?_
  rw [List.length_append, mix_len, msk_len, hideD_len hk]
  omega
theorem fillL_lt {n : Nat} {m f : List Nat} (hn : n ≠ 0) (hl : f.length + 3 + m.length = nby n) (hm : BY m) (hf : BY f) : rv (fillL m f) < n := by
  have e : fillL m f = 0 :: ([2] ++ f ++ [0] ++ m) := rfl
  rw [e]
  refine rv_lead ((((BY.one (by omega)).app hf).app (BY.one (by omega))).app hm) hn ?_
  simp only [List.length_append, List.length_cons, List.length_nil]
  omega
theorem signL_len {h : Int} {k : Nat} {m : List Nat} (hk : 30 + hl h ≤ k) : (signL h k m).length = k := by
  unfold signL
  simp only [List.length_append, List.length_cons, List.length_nil, List.length_replicate, nam_len, sha_len]
  omega
theorem signL_lt {h : Int} {k n : Nat} {m : List Nat} (hk : 30 + hl h ≤ k) (hn : n ≠ 0) (hkn : k = nby n) : rv (signL h k m) < n := by
  have e : signL h k m = 0 :: ([1] ++ List.replicate (k - 3 - 19 - hl h) 255 ++ [0] ++ nam h ++ sha h m) := rfl
  have hln := signL_len (m := m) hk
  rw [e] at hln ⊢
  refine rv_lead (((((BY.one (by omega)).app (BY.rep (by omega))).app (BY.one (by omega))).app nam_by).app sha_lt) hn ?_
  rw [List.length_cons] at hln
  omega
theorem saltL_lt {h : Int} {n : Nat} {m s : List Nat} (hn : n ≠ 0) (hs : BY s) (hk : hl h + s.length + 2 ≤ rB (blen n - 1)) : rv (saltL h (blen n - 1) m s) < n := by
  obtain ⟨r, hr⟩ : ∃ q, blen n - 1 = q := ⟨_, rfl⟩
  have hge := blen_ge hn
  rw [hr] at hk hge ⊢
  refine Nat.lt_of_lt_of_le ?_ hge
  have hL : (mix (List.replicate (rB r - hl h - 1 - 1 - s.length) 0 ++ [1] ++ s) (msk h (prf h m s) (rB r - hl h - 1))).length = rB r - hl h - 1 := by
    rw [mix_len]
    simp only [List.length_append, List.length_cons, List.length_nil, List.length_replicate]
    omega
  have hB : BY (mix (List.replicate (rB r - hl h - 1 - 1 - s.length) 0 ++ [1] ++ s) (msk h (prf h m s) (rB r - hl h - 1))) := mix_by (((BY.rep (by omega)).app (BY.one (by omega))).app hs) msk_by
  unfold saltL saltD kept
  generalize mix (List.replicate (rB r - hl h - 1 - 1 - s.length) 0 ++ [1] ++ s) (msk h (prf h m s) (rB r - hl h - 1)) = Y at hL hB
  cases Y with
  | nil => rw [List.length_nil] at hL; omega
  | cons y Y =>
    show rv (y % 2 ^ (8 - rS r) :: (Y ++ prf h m s ++ [188])) < 2 ^ r
    rw [rv_cons]
    have hY : BY Y := fun x hx => hB x (List.mem_cons_of_mem _ hx)
    have hPb : BY (prf h m s) := sha_lt
    have h1 : rv (Y ++ prf h m s ++ [188]) < 256 ^ (Y ++ prf h m s ++ [188]).length := rv_lt ((hY.app hPb).app (BY.one (show 188 < 256 by omega)))
    have hlen : (Y ++ prf h m s ++ [188]).length = rB r - 1 := by
      rw [List.length_append, List.length_append, prf_len]
      rw [List.length_cons] at hL
      simp only [List.length_cons, List.length_nil]
      omega
    rw [hlen] at h1 ⊢
    have h2 : y % 2 ^ (8 - rS r) < 2 ^ (8 - rS r) := Nat.mod_lt _ (Nat.two_pow_pos _)
    have h3 : (y % 2 ^ (8 - rS r) + 1) * 256 ^ (rB r - 1) ≤ 2 ^ (8 - rS r) * 256 ^ (rB r - 1) := Nat.mul_le_mul_right _ h2
    have h4 : 2 ^ (8 - rS r) * 256 ^ (rB r - 1) = 2 ^ r := by
      rw [show (256 : Nat) = 2 ^ 8 from rfl, ← Nat.pow_mul, ← Nat.pow_add]
      congr 1
      have := rS_lt r
      unfold rS at this ⊢
      unfold rB at this hk ⊢
      have := hl_ge h
      omega
    rw [Nat.add_mul, Nat.one_mul, h4] at h3
    omega
theorem HS.keepT {σ s : St} {A : Ab} {t : Nat} (h : HS σ A) (f : FH t σ s) (hA : AR s) (hD : AD s) (hr : RW s t (A.1 t)) : HS s A := by
  have h1 := h.put f hA hD hr
  have e : A.put t (A.1 t) = A := by
    unfold Ab.put
    have e2 : (fun i => if i = t then A.1 t else A.1 i) = A.1 := by
      funext i
      by_cases c : i = t
      · rw [if_pos c, c]
      · rw [if_neg c]
    rw [e2]
  rw [e] at h1
  exact h1
theorem FH.row {t : Nat} {σ s : St} (h : FH 99 σ s) : FH t σ s := h.mono (by omega)
theorem saltL_len {h : Int} {r : Nat} {m s : List Nat} (hk : hl h + s.length + 2 ≤ rB r) : (saltL h r m s).length = rB r := by
  unfold saltL saltD
  rw [List.length_append, List.length_append, kept_len, mix_len, prf_len]
  simp only [List.length_append, List.length_cons, List.length_nil, List.length_replicate]
  omega
theorem hideL_len {h : Int} {k : Nat} {m lb sd : List Nat} (hk : m.length + 2 * hl h + 2 ≤ k) : (hideL h k m lb sd).length = k := by
  unfold hideL
  rw [List.length_append, List.length_append, mix_len, msk_len, hideD_len hk]
  simp only [List.length_cons, List.length_nil]
  omega
theorem cr_ref {σ : St} {A : Ab} {t : Nat} {q : Int ⊕ Nat} {a : Int} (h : CR σ q a) (ha : a < 0) : outR A t q = (0, a, A) := by
  rcases h with h | ⟨-, e | ⟨e1, v, e2, e3⟩⟩
  · omega
  · rw [e]; rfl
  · rw [e2]
    show putR A t v = _
    unfold putR
    rw [if_pos e3, e1]
theorem putR_post {σ s s' : St} {A : Ab} {t v : Nat} {r : Int} {f : Res} (hf : f = putR A t v) (hS : HS σ A) (hF : FH t σ s') (hA : AR s') (hD : AD s') (g : (r = -4 ∧ 256 < nby v ∧ s' = s) ∨ (r = ((nby v : Nat) : Int) ∧ nby v ≤ 256 ∧ RW s' t (be v (nby v)))) (hr : RW s t (A.1 t)) : ∃ A', f = (0, r, A') ∧ HS s' A' ∧ FM σ s' := by
  rw [hf]
  unfold putR
  rcases g with ⟨e1, e2, e3⟩ | ⟨e1, e2, e3⟩
  · refine ⟨A, by rw [if_pos e2, e1], ?_, hF.fm⟩
    rw [← e3] at hr
    exact hS.keepT hF hA hD hr
  · exact ⟨_, by rw [if_neg (by omega), e1], hS.put hF hA hD e3, hF.fm⟩
theorem tf_if {r : Int} {p : Prop} [Decidable p] (h : tf r p) : r = if p then 1 else 0 := by
  rcases h with ⟨e, q⟩ | ⟨e, q⟩
  · rw [if_pos q, e]
  · rw [if_neg q, e]
