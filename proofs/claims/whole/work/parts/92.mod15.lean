/-- the message that the model is about to digest -/
def RD (σ : St) (M : List Nat) : Prop := σ 10 0 3 = (M.length : Int) ∧ ∀ j, j < M.length → σ 13 4 j = ((M.getD j 0 : Nat) : Int)
def FD (σ s : St) : Prop := Fr [(10, 0), (13, 4)] σ s ∧ ∀ j, j ≠ 3 → s 10 0 j = σ 10 0 j
theorem FD.rf {σ : St} : FD σ σ := ⟨Fr.rf, fun _ _ => rfl⟩
theorem FD.tr {σ s t : St} (h : FD σ s) (g : FD s t) : FD σ t := ⟨h.1.tr' g.1, fun j hj => (g.2 j hj).trans (h.2 j hj)⟩
theorem RD.push {σ : St} {M : List Nat} {x : Nat} (h : RD σ M) : RD (su (su σ 13 4 M.length (x : Int)) 10 0 3 ((M.length : Int) + 1)) (M ++ [x]) := by
  refine ⟨by rw [su_s, List.length_append]; rfl, fun j hj => ?_⟩
  rw [su_c (by decide)]
  rw [List.length_append] at hj
  by_cases e : j = M.length
  · rw [e, su_s]
    simp [List.getD]
  · rw [su_j e, h.2 j (by simp at hj; omega)]
    have hl : j < M.length := by simp at hj; omega
    simp [List.getD, List.getElem?_append_left hl]
theorem FD.push {σ : St} {n : Nat} {x y : Int} : FD σ (su (su σ 13 4 n x) 10 0 3 y) := ⟨(Fr.su (by simp)).tr' (Fr.su (by simp)), fun j hj => by rw [su_j hj, su_c (by decide)]⟩

set_option maxHeartbeats 1000000 in
set_option maxRecDepth 100000 in
theorem c_X8_says (l : Launch) (w : Wl) (σ : St) (hk0 : w.2 13 0) (M : List Nat) (hM : RD σ M) (hl7 : M.length < 700) (x : Nat) : Cn l yX8_says cX8_says 2 none 0 0 wN [.ref (w.1 13 0), .int (iI ((x : Int)))] w σ (fun _ σ' => RD σ' (M ++ [x]) ∧ FD σ σ') := by
  refine Cn.of (own := RX8) (lv := [(0, .ref (w.1 13 0)), (1, .int (iI ((x : Int))))]) (by decide +kernel) rfl (Nat.le_of_ble_eq_true rfl) rfl (fun X hX hxl hR hcl hret => ?_)
  subst hxl
  have hQ : ∀ q, (14, q) ∈ mn σ 13 0 → w.2 14 q := fun q h => hcl 13 0 hk0 (14, q) h
  have hQ5 : ∀ q, (14, q) ∈ mn σ 13 0 → w.2 15 q := fun q h => hcl 14 q (hQ q h) (15, q) (by simp [mn, tp])
  have hQ16 : ∀ q, (16, q) ∈ mn σ 13 0 → w.2 16 q := fun q h => hcl 13 0 hk0 (16, q) h
  have hM0 := hM.1
  refine v_aload_n hX 0 rfl (atL dAX8_says_0 0 rfl) ?_
  refine gf_X8_95 hX hk0 (atL dAX8_says_0 1 rfl) ?_
  refine v_aload_n hX 0 rfl (atL dAX8_says_0 2 rfl) ?_
  refine gf_X8_299 hX (v := (M.length : Int)) (hM0) hk0 (atL dAX8_says_0 3 rfl) ?_
  refine v_iload_n hX 1 rfl (atL dAX8_says_0 4 rfl) ?_
  refine v_iast hX (c := 13) M.length (hQ16 4 (by simp [mn, tp])) (by decide) (fun _ _ => rfl) rfl (show M.length < 700 by omega) (by decide) (atL dAX8_says_0 5 rfl) ?_
  refine v_aload_n hX 0 rfl (atL dAX8_says_0 6 rfl) ?_
  refine v_dup hX rfl (atL dAX8_says_0 7 rfl) ?_
  refine gf_X8_299 hX (v := (M.length : Int)) ((su_c (by decide)).trans (hM0)) hk0 (atL dAX8_says_0 8 rfl) ?_
  refine v_iconst hX (atL dAX8_says_0 9 rfl) ?_
  refine v_iadd hX (iI_add _ _) (atL dAX8_says_0 10 rfl) ?_
  refine pf_X8_299 hX hk0 (atL dAX8_says_0 11 rfl) ?_
  exact v_vret hX (atL dAX8_says_0 12 rfl) (hret () _ ⟨RD.push hM, FD.push⟩)
