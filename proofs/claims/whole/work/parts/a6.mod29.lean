def wm (σ : St) (a j : Nat) : Int32 := iI (σ 13 a j)
theorem wm_s {σ : St} {i j : Nat} {x : Int32} : wm (su σ 13 i j x.toInt) i j = x := by unfold wm; rw [su_s, iI_of]
theorem wm_j {σ : St} {i j j' : Nat} {v : Int} (h : j' ≠ j) : wm (su σ 13 i j v) i j' = wm σ i j' := by unfold wm; rw [su_j h]
theorem wm_i {σ : St} {i j i' j' : Nat} {v : Int} (h : i' ≠ i) : wm (su σ 13 i j v) i' j' = wm σ i' j' := by unfold wm; rw [su_i h]
theorem wm_fr {σ σ' : St} {i : Nat} {l : List (Nat × Nat)} (f : Fr l σ σ') (h : (13, i) ∉ l) (j : Nat) : wm σ' i j = wm σ i j := by unfold wm; rw [f 13 i h]
/-- word k of the message that lies in D from s on -/
def wdd (D : List Nat) (s k : Nat) : Int32 := wd4 (D.getD (s + 4 * k) 0) (D.getD (s + 4 * k + 1) 0) (D.getD (s + 4 * k + 2) 0) (D.getD (s + 4 * k + 3) 0)

set_option maxHeartbeats 1000000 in
set_option maxRecDepth 100000 in
theorem c_X8_block (l : Launch) (w : Wl) (σ : St) (hk0 : w.2 13 0) (D : List Nat) (hD : AW (σ 13 4) 0 D) (hD7 : D.length ≤ 700) (fr : Nat) (hfr : fr + 64 ≤ D.length) (hdk : ∀ k, k < 64 → iI (σ 13 7 k) = KR k) : Cn l yX8_block cX8_block 13 none 1 21 wN [.ref (w.1 13 0), .int (iI ((fr : Int)))] w σ (fun _ σ' => (∀ j, j < 8 → wm σ' 9 j = comp (wdd D fr) (wm σ 9) j) ∧ Fr [(13, 6), (13, 9)] σ σ') := by
  refine Cn.of (own := RX8) (lv := [(0, .ref (w.1 13 0)), (1, .int (iI ((fr : Int))))]) (by decide +kernel) rfl (Nat.le_of_ble_eq_true rfl) rfl (fun X hX hxl hR hcl hret => ?_)
  subst hxl
  have hQ : ∀ q, (14, q) ∈ mn σ 13 0 → w.2 14 q := fun q h => hcl 13 0 hk0 (14, q) h
  have hQ5 : ∀ q, (14, q) ∈ mn σ 13 0 → w.2 15 q := fun q h => hcl 14 q (hQ q h) (15, q) (by simp [mn, tp])
  have hQ16 : ∀ q, (16, q) ∈ mn σ 13 0 → w.2 16 q := fun q h => hcl 13 0 hk0 (16, q) h
  have l3 : ∀ (d k : Nat) (t : St), k + d = 64 → (∀ j, j < 64 → wm t 6 j = sch (wdd D fr) j) → Fr [(13, 6)] σ t → V X (0, 0) w 245 [(10, .int (iI ((k : Int)))), (2, .int (rnds KR (sch (wdd D fr)) (wm σ 9) k 0)), (3, .int (rnds KR (sch (wdd D fr)) (wm σ 9) k 1)), (4, .int (rnds KR (sch (wdd D fr)) (wm σ 9) k 2)), (5, .int (rnds KR (sch (wdd D fr)) (wm σ 9) k 3)), (6, .int (rnds KR (sch (wdd D fr)) (wm σ 9) k 4)), (7, .int (rnds KR (sch (wdd D fr)) (wm σ 9) k 5)), (8, .int (rnds KR (sch (wdd D fr)) (wm σ 9) k 6)), (9, .int (rnds KR (sch (wdd D fr)) (wm σ 9) k 7)), (0, .ref (w.1 13 0)), (1, .int (iI ((fr : Int))))] t [] := by
    intro d
    induction d with
    | zero =>
      intro k t hk h6 hf
      obtain rfl : k = 64 := by omega
      refine v_iload hX 0 rfl (atL dAX8_block_2 42 rfl) ?_
      refine v_bipush hX (by decide +kernel) (atL dAX8_block_2 43 rfl) ?_
      refine v_icmp_ge hX ⟨by omega, by omega⟩ ⟨by omega, by omega⟩ (tgt := 385) (atL dAX8_block_2 44 rfl) (by decide) (fun h249 => ?_) (fun h249 => absurd h249 (by omega))
      refine v_aload_n hX 9 rfl (atL dAX8_block_4 5 rfl) ?_
      refine gf_X8_110 hX hk0 (atL dAX8_block_4 6 rfl) ?_
      refine v_iconst hX (atL dAX8_block_4 7 rfl) ?_
      refine v_dup2 hX rfl rfl (atL dAX8_block_4 8 rfl) ?_
      refine v_iald hX (r := iI (σ 13 9 0)) 0 (hQ16 9 (by simp [mn, tp])) (fun _ => rfl) rfl (by decide) (by decide) (congrArg iI ((congrFun (hf 13 9 (by simp)) 0))) (atL dAX8_block_4 9 rfl) ?_
      refine v_iload_n hX 1 rfl (atL dAX8_block_4 10 rfl) ?_
      refine v_iadd hX (r := (iI (σ 13 9 0)) + (rnds KR (sch (wdd D fr)) (wm σ 9) 64 0)) rfl (atL dAX8_block_4 11 rfl) ?_
      refine v_iastR hX (c := 13) 0 (hQ16 9 (by simp [mn, tp])) (by decide) (fun _ _ => rfl) rfl (by decide) (by decide) (atL dAX8_block_4 12 rfl) ?_
      refine v_aload_n hX 9 rfl (atL dAX8_block_4 13 rfl) ?_
      refine gf_X8_110 hX hk0 (atL dAX8_block_4 14 rfl) ?_
      refine v_iconst hX (atL dAX8_block_4 15 rfl) ?_
      refine v_dup2 hX rfl rfl (atL dAX8_block_4 16 rfl) ?_
      refine v_iald hX (r := iI (σ 13 9 1)) 1 (hQ16 9 (by simp [mn, tp])) (fun _ => rfl) rfl (by decide) (by decide) (congrArg iI ((su_j (by decide)).trans ((congrFun (hf 13 9 (by simp)) 1)))) (atL dAX8_block_4 17 rfl) ?_
      refine v_iload_n hX 2 rfl (atL dAX8_block_4 18 rfl) ?_
      refine v_iadd hX (r := (iI (σ 13 9 1)) + (rnds KR (sch (wdd D fr)) (wm σ 9) 64 1)) rfl (atL dAX8_block_4 19 rfl) ?_
      refine v_iastR hX (c := 13) 1 (hQ16 9 (by simp [mn, tp])) (by decide) (fun _ _ => rfl) rfl (by decide) (by decide) (atL dAX8_block_4 20 rfl) ?_
      refine v_aload_n hX 9 rfl (atL dAX8_block_4 21 rfl) ?_
      refine gf_X8_110 hX hk0 (atL dAX8_block_4 22 rfl) ?_
      refine v_iconst hX (atL dAX8_block_4 23 rfl) ?_
      refine v_dup2 hX rfl rfl (atL dAX8_block_4 24 rfl) ?_
      refine v_iald hX (r := iI (σ 13 9 2)) 2 (hQ16 9 (by simp [mn, tp])) (fun _ => rfl) rfl (by decide) (by decide) (congrArg iI ((su_j (by decide)).trans ((su_j (by decide)).trans ((congrFun (hf 13 9 (by simp)) 2))))) (atL dAX8_block_4 25 rfl) ?_
      refine v_iload hX 3 rfl (atL dAX8_block_4 26 rfl) ?_
      refine v_iadd hX (r := (iI (σ 13 9 2)) + (rnds KR (sch (wdd D fr)) (wm σ 9) 64 2)) rfl (atL dAX8_block_4 27 rfl) ?_
      refine v_iastR hX (c := 13) 2 (hQ16 9 (by simp [mn, tp])) (by decide) (fun _ _ => rfl) rfl (by decide) (by decide) (atL dAX8_block_4 28 rfl) ?_
      refine v_aload_n hX 9 rfl (atL dAX8_block_4 29 rfl) ?_
      refine gf_X8_110 hX hk0 (atL dAX8_block_4 30 rfl) ?_
      refine v_iconst hX (atL dAX8_block_4 31 rfl) ?_
      refine v_dup2 hX rfl rfl (atL dAX8_block_4 32 rfl) ?_
      refine v_iald hX (r := iI (σ 13 9 3)) 3 (hQ16 9 (by simp [mn, tp])) (fun _ => rfl) rfl (by decide) (by decide) (congrArg iI ((su_j (by decide)).trans ((su_j (by decide)).trans ((su_j (by decide)).trans ((congrFun (hf 13 9 (by simp)) 3)))))) (atL dAX8_block_4 33 rfl) ?_
      refine v_iload hX 4 rfl (atL dAX8_block_4 34 rfl) ?_
      refine v_iadd hX (r := (iI (σ 13 9 3)) + (rnds KR (sch (wdd D fr)) (wm σ 9) 64 3)) rfl (atL dAX8_block_4 35 rfl) ?_
      refine v_iastR hX (c := 13) 3 (hQ16 9 (by simp [mn, tp])) (by decide) (fun _ _ => rfl) rfl (by decide) (by decide) (atL dAX8_block_4 36 rfl) ?_
      refine v_aload_n hX 9 rfl (atL dAX8_block_4 37 rfl) ?_
      refine gf_X8_110 hX hk0 (atL dAX8_block_4 38 rfl) ?_
      refine v_iconst hX (atL dAX8_block_4 39 rfl) ?_
      refine v_dup2 hX rfl rfl (atL dAX8_block_4 40 rfl) ?_
      refine v_iald hX (r := iI (σ 13 9 4)) 4 (hQ16 9 (by simp [mn, tp])) (fun _ => rfl) rfl (by decide) (by decide) (congrArg iI ((su_j (by decide)).trans ((su_j (by decide)).trans ((su_j (by decide)).trans ((su_j (by decide)).trans ((congrFun (hf 13 9 (by simp)) 4))))))) (atL dAX8_block_4 41 rfl) ?_
      refine v_iload hX 5 rfl (atL dAX8_block_4 42 rfl) ?_
      refine v_iadd hX (r := (iI (σ 13 9 4)) + (rnds KR (sch (wdd D fr)) (wm σ 9) 64 4)) rfl (atL dAX8_block_4 43 rfl) ?_
      refine v_iastR hX (c := 13) 4 (hQ16 9 (by simp [mn, tp])) (by decide) (fun _ _ => rfl) rfl (by decide) (by decide) (atL dAX8_block_4 44 rfl) ?_
      refine v_aload_n hX 9 rfl (atL dAX8_block_4 45 rfl) ?_
      refine gf_X8_110 hX hk0 (atL dAX8_block_4 46 rfl) ?_
      refine v_iconst hX (atL dAX8_block_4 47 rfl) ?_
      refine v_dup2 hX rfl rfl (atL dAX8_block_4 48 rfl) ?_
      refine v_iald hX (r := iI (σ 13 9 5)) 5 (hQ16 9 (by simp [mn, tp])) (fun _ => rfl) rfl (by decide) (by decide) (congrArg iI ((su_j (by decide)).trans ((su_j (by decide)).trans ((su_j (by decide)).trans ((su_j (by decide)).trans ((su_j (by decide)).trans ((congrFun (hf 13 9 (by simp)) 5)))))))) (atL dAX8_block_4 49 rfl) ?_
      refine v_iload hX 6 rfl (atL dAX8_block_4 50 rfl) ?_
      refine v_iadd hX (r := (iI (σ 13 9 5)) + (rnds KR (sch (wdd D fr)) (wm σ 9) 64 5)) rfl (atL dAX8_block_4 51 rfl) ?_
      refine v_iastR hX (c := 13) 5 (hQ16 9 (by simp [mn, tp])) (by decide) (fun _ _ => rfl) rfl (by decide) (by decide) (atL dAX8_block_4 52 rfl) ?_
      refine v_aload_n hX 9 rfl (atL dAX8_block_4 53 rfl) ?_
      refine gf_X8_110 hX hk0 (atL dAX8_block_4 54 rfl) ?_
      refine v_bipush hX (by decide +kernel) (atL dAX8_block_4 55 rfl) ?_
      refine v_dup2 hX rfl rfl (atL dAX8_block_4 56 rfl) ?_
      refine v_iald hX (r := iI (σ 13 9 6)) 6 (hQ16 9 (by simp [mn, tp])) (fun _ => rfl) rfl (by decide) (by decide) (congrArg iI ((su_j (by decide)).trans ((su_j (by decide)).trans ((su_j (by decide)).trans ((su_j (by decide)).trans ((su_j (by decide)).trans ((su_j (by decide)).trans ((congrFun (hf 13 9 (by simp)) 6))))))))) (atL dAX8_block_4 57 rfl) ?_
      refine v_iload hX 7 rfl (atL dAX8_block_4 58 rfl) ?_
      refine v_iadd hX (r := (iI (σ 13 9 6)) + (rnds KR (sch (wdd D fr)) (wm σ 9) 64 6)) rfl (atL dAX8_block_4 59 rfl) ?_
      refine v_iastR hX (c := 13) 6 (hQ16 9 (by simp [mn, tp])) (by decide) (fun _ _ => rfl) rfl (by decide) (by decide) (atL dAX8_block_5 0 rfl) ?_
      refine v_aload_n hX 9 rfl (atL dAX8_block_5 1 rfl) ?_
      refine gf_X8_110 hX hk0 (atL dAX8_block_5 2 rfl) ?_
      refine v_bipush hX (by decide +kernel) (atL dAX8_block_5 3 rfl) ?_
      refine v_dup2 hX rfl rfl (atL dAX8_block_5 4 rfl) ?_
      refine v_iald hX (r := iI (σ 13 9 7)) 7 (hQ16 9 (by simp [mn, tp])) (fun _ => rfl) rfl (by decide) (by decide) (congrArg iI ((su_j (by decide)).trans ((su_j (by decide)).trans ((su_j (by decide)).trans ((su_j (by decide)).trans ((su_j (by decide)).trans ((su_j (by decide)).trans ((su_j (by decide)).trans ((congrFun (hf 13 9 (by simp)) 7)))))))))) (atL dAX8_block_5 5 rfl) ?_
      refine v_iload hX 8 rfl (atL dAX8_block_5 6 rfl) ?_
      refine v_iadd hX (r := (iI (σ 13 9 7)) + (rnds KR (sch (wdd D fr)) (wm σ 9) 64 7)) rfl (atL dAX8_block_5 7 rfl) ?_
      refine v_iastR hX (c := 13) 7 (hQ16 9 (by simp [mn, tp])) (by decide) (fun _ _ => rfl) rfl (by decide) (by decide) (atL dAX8_block_5 8 rfl) ?_
      have fin : ∀ j, j < 8 → wm (su (su (su (su (su (su (su (su t 13 9 0 (Int32.toInt ((iI (σ 13 9 0)) + (rnds KR (sch (wdd D fr)) (wm σ 9) 64 0)))) 13 9 1 (Int32.toInt ((iI (σ 13 9 1)) + (rnds KR (sch (wdd D fr)) (wm σ 9) 64 1)))) 13 9 2 (Int32.toInt ((iI (σ 13 9 2)) + (rnds KR (sch (wdd D fr)) (wm σ 9) 64 2)))) 13 9 3 (Int32.toInt ((iI (σ 13 9 3)) + (rnds KR (sch (wdd D fr)) (wm σ 9) 64 3)))) 13 9 4 (Int32.toInt ((iI (σ 13 9 4)) + (rnds KR (sch (wdd D fr)) (wm σ 9) 64 4)))) 13 9 5 (Int32.toInt ((iI (σ 13 9 5)) + (rnds KR (sch (wdd D fr)) (wm σ 9) 64 5)))) 13 9 6 (Int32.toInt ((iI (σ 13 9 6)) + (rnds KR (sch (wdd D fr)) (wm σ 9) 64 6)))) 13 9 7 (Int32.toInt ((iI (σ 13 9 7)) + (rnds KR (sch (wdd D fr)) (wm σ 9) 64 7)))) 9 j = comp (wdd D fr) (wm σ 9) j := by
        intro j hj
        rcases (show j = 0 ∨ j = 1 ∨ j = 2 ∨ j = 3 ∨ j = 4 ∨ j = 5 ∨ j = 6 ∨ j = 7 by omega) with rfl | rfl | rfl | rfl | rfl | rfl | rfl | rfl
        · rw [wm_j (by decide), wm_j (by decide), wm_j (by decide), wm_j (by decide), wm_j (by decide), wm_j (by decide), wm_j (by decide), wm_s]; rfl
        · rw [wm_j (by decide), wm_j (by decide), wm_j (by decide), wm_j (by decide), wm_j (by decide), wm_j (by decide), wm_s]; rfl
        · rw [wm_j (by decide), wm_j (by decide), wm_j (by decide), wm_j (by decide), wm_j (by decide), wm_s]; rfl
        · rw [wm_j (by decide), wm_j (by decide), wm_j (by decide), wm_j (by decide), wm_s]; rfl
        · rw [wm_j (by decide), wm_j (by decide), wm_j (by decide), wm_s]; rfl
        · rw [wm_j (by decide), wm_j (by decide), wm_s]; rfl
        · rw [wm_j (by decide), wm_s]; rfl
        · rw [wm_s]; rfl
      exact v_vret hX (atL dAX8_block_5 9 rfl) (hret () _ ⟨fin, ((((((((hf.mono (by simp)).tr' (Fr.su (by simp))).tr' (Fr.su (by simp))).tr' (Fr.su (by simp))).tr' (Fr.su (by simp))).tr' (Fr.su (by simp))).tr' (Fr.su (by simp))).tr' (Fr.su (by simp))).tr' (Fr.su (by simp))⟩)
    | succ d ih =>
      intro k t hk h6 hf
      have hK : iI (t 13 7 k) = KR k := by rw [hf 13 7 (by simp)]; exact hdk k (by omega)
      have hW : iI (t 13 6 k) = sch (wdd D fr) k := h6 k (by omega)
      refine v_iload hX 0 rfl (atL dAX8_block_2 42 rfl) ?_
      refine v_bipush hX (by decide +kernel) (atL dAX8_block_2 43 rfl) ?_
      refine v_icmp_ge hX ⟨by omega, by omega⟩ ⟨by omega, by omega⟩ (tgt := 385) (atL dAX8_block_2 44 rfl) (by decide) (fun h249 => absurd h249 (by omega)) (fun h249 => ?_)
      refine v_iload hX 8 rfl (atL dAX8_block_2 45 rfl) ?_
      refine v_iload hX 5 rfl (atL dAX8_block_2 46 rfl) ?_
      refine v_bipush hX (by decide +kernel) (atL dAX8_block_2 47 rfl) ?_
      refine v_callS hX (As := [.int (rnds KR (sch (wdd D fr)) (wm σ 9) k 4), .int (iI (6))]) (rest := [.int (rnds KR (sch (wdd D fr)) (wm σ 9) k 7)]) (c_X8_across (xl X) w t (rnds KR (sch (wdd D fr)) (wm σ 9) k 4) 6) lk_X8_339 rfl (by rw [hR]; exact ⟨Nat.le_of_ble_eq_true rfl, Nat.le_of_ble_eq_true rfl⟩) ⟨Nat.zero_le _, Nat.zero_le _⟩ rfl (Nat.le_of_ble_eq_true rfl) (atL dAX8_block_2 48 rfl) (fun q258 z258 g258 => ?_)
      obtain ⟨g258a, g258b⟩ := g258
      rw [g258b]
      rw [show wI q258 = some (.int (rt (rnds KR (sch (wdd D fr)) (wm σ 9) k 4) 6)) from congrArg (fun z => some (Value.int z)) g258a]
      show V X _ w _ _ t [.int (rt (rnds KR (sch (wdd D fr)) (wm σ 9) k 4) 6), .int (rnds KR (sch (wdd D fr)) (wm σ 9) k 7)]
      refine v_iload hX 5 rfl (atL dAX8_block_2 49 rfl) ?_
      refine v_bipush hX (by decide +kernel) (atL dAX8_block_2 50 rfl) ?_
      refine v_callS hX (As := [.int (rnds KR (sch (wdd D fr)) (wm σ 9) k 4), .int (iI (11))]) (rest := [.int (rt (rnds KR (sch (wdd D fr)) (wm σ 9) k 4) 6), .int (rnds KR (sch (wdd D fr)) (wm σ 9) k 7)]) (c_X8_across (xl X) w t (rnds KR (sch (wdd D fr)) (wm σ 9) k 4) 11) lk_X8_339 rfl (by rw [hR]; exact ⟨Nat.le_of_ble_eq_true rfl, Nat.le_of_ble_eq_true rfl⟩) ⟨Nat.zero_le _, Nat.zero_le _⟩ rfl (Nat.le_of_ble_eq_true rfl) (atL dAX8_block_2 51 rfl) (fun q265 z265 g265 => ?_)
      obtain ⟨g265a, g265b⟩ := g265
      rw [g265b]
      rw [show wI q265 = some (.int (rt (rnds KR (sch (wdd D fr)) (wm σ 9) k 4) 11)) from congrArg (fun z => some (Value.int z)) g265a]
      show V X _ w _ _ t [.int (rt (rnds KR (sch (wdd D fr)) (wm σ 9) k 4) 11), .int (rt (rnds KR (sch (wdd D fr)) (wm σ 9) k 4) 6), .int (rnds KR (sch (wdd D fr)) (wm σ 9) k 7)]
      refine v_ixor hX (r := (rt (rnds KR (sch (wdd D fr)) (wm σ 9) k 4) 6) ^^^ (rt (rnds KR (sch (wdd D fr)) (wm σ 9) k 4) 11)) rfl (atL dAX8_block_2 52 rfl) ?_
      refine v_iload hX 5 rfl (atL dAX8_block_2 53 rfl) ?_
      refine v_bipush hX (by decide +kernel) (atL dAX8_block_2 54 rfl) ?_
      refine v_callS hX (As := [.int (rnds KR (sch (wdd D fr)) (wm σ 9) k 4), .int (iI (25))]) (rest := [.int ((rt (rnds KR (sch (wdd D fr)) (wm σ 9) k 4) 6) ^^^ (rt (rnds KR (sch (wdd D fr)) (wm σ 9) k 4) 11)), .int (rnds KR (sch (wdd D fr)) (wm σ 9) k 7)]) (c_X8_across (xl X) w t (rnds KR (sch (wdd D fr)) (wm σ 9) k 4) 25) lk_X8_339 rfl (by rw [hR]; exact ⟨Nat.le_of_ble_eq_true rfl, Nat.le_of_ble_eq_true rfl⟩) ⟨Nat.zero_le _, Nat.zero_le _⟩ rfl (Nat.le_of_ble_eq_true rfl) (atL dAX8_block_2 55 rfl) (fun q273 z273 g273 => ?_)
      obtain ⟨g273a, g273b⟩ := g273
      rw [g273b]
      rw [show wI q273 = some (.int (rt (rnds KR (sch (wdd D fr)) (wm σ 9) k 4) 25)) from congrArg (fun z => some (Value.int z)) g273a]
      show V X _ w _ _ t [.int (rt (rnds KR (sch (wdd D fr)) (wm σ 9) k 4) 25), .int ((rt (rnds KR (sch (wdd D fr)) (wm σ 9) k 4) 6) ^^^ (rt (rnds KR (sch (wdd D fr)) (wm σ 9) k 4) 11)), .int (rnds KR (sch (wdd D fr)) (wm σ 9) k 7)]
      refine v_ixor hX (r := ((rt (rnds KR (sch (wdd D fr)) (wm σ 9) k 4) 6) ^^^ (rt (rnds KR (sch (wdd D fr)) (wm σ 9) k 4) 11)) ^^^ (rt (rnds KR (sch (wdd D fr)) (wm σ 9) k 4) 25)) rfl (atL dAX8_block_2 56 rfl) ?_
      refine v_iadd hX (r := (rnds KR (sch (wdd D fr)) (wm σ 9) k 7) + (((rt (rnds KR (sch (wdd D fr)) (wm σ 9) k 4) 6) ^^^ (rt (rnds KR (sch (wdd D fr)) (wm σ 9) k 4) 11)) ^^^ (rt (rnds KR (sch (wdd D fr)) (wm σ 9) k 4) 25))) rfl (atL dAX8_block_2 57 rfl) ?_
      refine v_iload hX 5 rfl (atL dAX8_block_2 58 rfl) ?_
      refine v_iload hX 6 rfl (atL dAX8_block_2 59 rfl) ?_
      refine v_iand hX (r := (rnds KR (sch (wdd D fr)) (wm σ 9) k 4) &&& (rnds KR (sch (wdd D fr)) (wm σ 9) k 5)) rfl (atL dAX8_block_3 0 rfl) ?_
      refine v_iload hX 5 rfl (atL dAX8_block_3 1 rfl) ?_
      refine v_iconst hX (atL dAX8_block_3 2 rfl) ?_
      refine v_ixor hX (r := (rnds KR (sch (wdd D fr)) (wm σ 9) k 4) ^^^ (iI ((-1)))) rfl (atL dAX8_block_3 3 rfl) ?_
      refine v_iload hX 7 rfl (atL dAX8_block_3 4 rfl) ?_
      refine v_iand hX (r := ((rnds KR (sch (wdd D fr)) (wm σ 9) k 4) ^^^ (iI ((-1)))) &&& (rnds KR (sch (wdd D fr)) (wm σ 9) k 6)) rfl (atL dAX8_block_3 5 rfl) ?_
      refine v_ixor hX (r := ((rnds KR (sch (wdd D fr)) (wm σ 9) k 4) &&& (rnds KR (sch (wdd D fr)) (wm σ 9) k 5)) ^^^ (((rnds KR (sch (wdd D fr)) (wm σ 9) k 4) ^^^ (iI ((-1)))) &&& (rnds KR (sch (wdd D fr)) (wm σ 9) k 6))) rfl (atL dAX8_block_3 6 rfl) ?_
      refine v_iadd hX (r := ((rnds KR (sch (wdd D fr)) (wm σ 9) k 7) + (((rt (rnds KR (sch (wdd D fr)) (wm σ 9) k 4) 6) ^^^ (rt (rnds KR (sch (wdd D fr)) (wm σ 9) k 4) 11)) ^^^ (rt (rnds KR (sch (wdd D fr)) (wm σ 9) k 4) 25))) + (((rnds KR (sch (wdd D fr)) (wm σ 9) k 4) &&& (rnds KR (sch (wdd D fr)) (wm σ 9) k 5)) ^^^ (((rnds KR (sch (wdd D fr)) (wm σ 9) k 4) ^^^ (iI ((-1)))) &&& (rnds KR (sch (wdd D fr)) (wm σ 9) k 6)))) rfl (atL dAX8_block_3 7 rfl) ?_
      refine v_aload_n hX 9 rfl (atL dAX8_block_3 8 rfl) ?_
      refine gf_X8_104 hX hk0 (atL dAX8_block_3 9 rfl) ?_
      refine v_iload hX 0 rfl (atL dAX8_block_3 10 rfl) ?_
      refine v_iald hX (r := iI (t 13 7 k)) k (hQ16 7 (by simp [mn, tp])) (fun _ => rfl) rfl (show k < 64 by omega) (by decide) (congrArg iI (rfl)) (atL dAX8_block_3 11 rfl) ?_
      refine v_iadd hX (r := (((rnds KR (sch (wdd D fr)) (wm σ 9) k 7) + (((rt (rnds KR (sch (wdd D fr)) (wm σ 9) k 4) 6) ^^^ (rt (rnds KR (sch (wdd D fr)) (wm σ 9) k 4) 11)) ^^^ (rt (rnds KR (sch (wdd D fr)) (wm σ 9) k 4) 25))) + (((rnds KR (sch (wdd D fr)) (wm σ 9) k 4) &&& (rnds KR (sch (wdd D fr)) (wm σ 9) k 5)) ^^^ (((rnds KR (sch (wdd D fr)) (wm σ 9) k 4) ^^^ (iI ((-1)))) &&& (rnds KR (sch (wdd D fr)) (wm σ 9) k 6)))) + (iI (t 13 7 k))) rfl (atL dAX8_block_3 12 rfl) ?_
      refine v_aload_n hX 9 rfl (atL dAX8_block_3 13 rfl) ?_
      refine gf_X8_101 hX hk0 (atL dAX8_block_3 14 rfl) ?_
      refine v_iload hX 0 rfl (atL dAX8_block_3 15 rfl) ?_
      refine v_iald hX (r := iI (t 13 6 k)) k (hQ16 6 (by simp [mn, tp])) (fun _ => rfl) rfl (show k < 64 by omega) (by decide) (congrArg iI (rfl)) (atL dAX8_block_3 16 rfl) ?_
      refine v_iadd hX (r := ((((rnds KR (sch (wdd D fr)) (wm σ 9) k 7) + (((rt (rnds KR (sch (wdd D fr)) (wm σ 9) k 4) 6) ^^^ (rt (rnds KR (sch (wdd D fr)) (wm σ 9) k 4) 11)) ^^^ (rt (rnds KR (sch (wdd D fr)) (wm σ 9) k 4) 25))) + (((rnds KR (sch (wdd D fr)) (wm σ 9) k 4) &&& (rnds KR (sch (wdd D fr)) (wm σ 9) k 5)) ^^^ (((rnds KR (sch (wdd D fr)) (wm σ 9) k 4) ^^^ (iI ((-1)))) &&& (rnds KR (sch (wdd D fr)) (wm σ 9) k 6)))) + (iI (t 13 7 k))) + (iI (t 13 6 k))) rfl (atL dAX8_block_3 17 rfl) ?_
      have eX : ((((rnds KR (sch (wdd D fr)) (wm σ 9) k 7) + (((rt (rnds KR (sch (wdd D fr)) (wm σ 9) k 4) 6) ^^^ (rt (rnds KR (sch (wdd D fr)) (wm σ 9) k 4) 11)) ^^^ (rt (rnds KR (sch (wdd D fr)) (wm σ 9) k 4) 25))) + (((rnds KR (sch (wdd D fr)) (wm σ 9) k 4) &&& (rnds KR (sch (wdd D fr)) (wm σ 9) k 5)) ^^^ (((rnds KR (sch (wdd D fr)) (wm σ 9) k 4) ^^^ (iI ((-1)))) &&& (rnds KR (sch (wdd D fr)) (wm σ 9) k 6)))) + (iI (t 13 7 k))) + (iI (t 13 6 k)) = one1 (rnds KR (sch (wdd D fr)) (wm σ 9) k) (KR k + sch (wdd D fr) k) := by rw [hK, hW]; show _ = _ + _ + _ + (KR k + _); rw [← Int32.add_assoc]; rfl
      refine v_istore hX (lv' := [(11, .int (((((rnds KR (sch (wdd D fr)) (wm σ 9) k 7) + (((rt (rnds KR (sch (wdd D fr)) (wm σ 9) k 4) 6) ^^^ (rt (rnds KR (sch (wdd D fr)) (wm σ 9) k 4) 11)) ^^^ (rt (rnds KR (sch (wdd D fr)) (wm σ 9) k 4) 25))) + (((rnds KR (sch (wdd D fr)) (wm σ 9) k 4) &&& (rnds KR (sch (wdd D fr)) (wm σ 9) k 5)) ^^^ (((rnds KR (sch (wdd D fr)) (wm σ 9) k 4) ^^^ (iI ((-1)))) &&& (rnds KR (sch (wdd D fr)) (wm σ 9) k 6)))) + (iI (t 13 7 k))) + (iI (t 13 6 k)))), (10, .int (iI ((k : Int)))), (2, .int (rnds KR (sch (wdd D fr)) (wm σ 9) k 0)), (3, .int (rnds KR (sch (wdd D fr)) (wm σ 9) k 1)), (4, .int (rnds KR (sch (wdd D fr)) (wm σ 9) k 2)), (5, .int (rnds KR (sch (wdd D fr)) (wm σ 9) k 3)), (6, .int (rnds KR (sch (wdd D fr)) (wm σ 9) k 4)), (7, .int (rnds KR (sch (wdd D fr)) (wm σ 9) k 5)), (8, .int (rnds KR (sch (wdd D fr)) (wm σ 9) k 6)), (9, .int (rnds KR (sch (wdd D fr)) (wm σ 9) k 7)), (0, .ref (w.1 13 0)), (1, .int (iI ((fr : Int))))]) (Nat.le_of_ble_eq_true rfl) rfl (atL dAX8_block_3 18 rfl) ?_
      refine v_iload_n hX 2 rfl (atL dAX8_block_3 19 rfl) ?_
      refine v_iconst hX (atL dAX8_block_3 20 rfl) ?_
      refine v_callS hX (As := [.int (rnds KR (sch (wdd D fr)) (wm σ 9) k 0), .int (iI (2))]) (rest := []) (c_X8_across (xl X) w t (rnds KR (sch (wdd D fr)) (wm σ 9) k 0) 2) lk_X8_339 rfl (by rw [hR]; exact ⟨Nat.le_of_ble_eq_true rfl, Nat.le_of_ble_eq_true rfl⟩) ⟨Nat.zero_le _, Nat.zero_le _⟩ rfl (Nat.le_of_ble_eq_true rfl) (atL dAX8_block_3 21 rfl) (fun q312 z312 g312 => ?_)
      obtain ⟨g312a, g312b⟩ := g312
      rw [g312b]
      rw [show wI q312 = some (.int (rt (rnds KR (sch (wdd D fr)) (wm σ 9) k 0) 2)) from congrArg (fun z => some (Value.int z)) g312a]
      show V X _ w _ _ t [.int (rt (rnds KR (sch (wdd D fr)) (wm σ 9) k 0) 2)]
      refine v_iload_n hX 2 rfl (atL dAX8_block_3 22 rfl) ?_
      refine v_bipush hX (by decide +kernel) (atL dAX8_block_3 23 rfl) ?_
      refine v_callS hX (As := [.int (rnds KR (sch (wdd D fr)) (wm σ 9) k 0), .int (iI (13))]) (rest := [.int (rt (rnds KR (sch (wdd D fr)) (wm σ 9) k 0) 2)]) (c_X8_across (xl X) w t (rnds KR (sch (wdd D fr)) (wm σ 9) k 0) 13) lk_X8_339 rfl (by rw [hR]; exact ⟨Nat.le_of_ble_eq_true rfl, Nat.le_of_ble_eq_true rfl⟩) ⟨Nat.zero_le _, Nat.zero_le _⟩ rfl (Nat.le_of_ble_eq_true rfl) (atL dAX8_block_3 24 rfl) (fun q318 z318 g318 => ?_)
      obtain ⟨g318a, g318b⟩ := g318
      rw [g318b]
      rw [show wI q318 = some (.int (rt (rnds KR (sch (wdd D fr)) (wm σ 9) k 0) 13)) from congrArg (fun z => some (Value.int z)) g318a]
      show V X _ w _ _ t [.int (rt (rnds KR (sch (wdd D fr)) (wm σ 9) k 0) 13), .int (rt (rnds KR (sch (wdd D fr)) (wm σ 9) k 0) 2)]
      refine v_ixor hX (r := (rt (rnds KR (sch (wdd D fr)) (wm σ 9) k 0) 2) ^^^ (rt (rnds KR (sch (wdd D fr)) (wm σ 9) k 0) 13)) rfl (atL dAX8_block_3 25 rfl) ?_
      refine v_iload_n hX 2 rfl (atL dAX8_block_3 26 rfl) ?_
      refine v_bipush hX (by decide +kernel) (atL dAX8_block_3 27 rfl) ?_
      refine v_callS hX (As := [.int (rnds KR (sch (wdd D fr)) (wm σ 9) k 0), .int (iI (22))]) (rest := [.int ((rt (rnds KR (sch (wdd D fr)) (wm σ 9) k 0) 2) ^^^ (rt (rnds KR (sch (wdd D fr)) (wm σ 9) k 0) 13))]) (c_X8_across (xl X) w t (rnds KR (sch (wdd D fr)) (wm σ 9) k 0) 22) lk_X8_339 rfl (by rw [hR]; exact ⟨Nat.le_of_ble_eq_true rfl, Nat.le_of_ble_eq_true rfl⟩) ⟨Nat.zero_le _, Nat.zero_le _⟩ rfl (Nat.le_of_ble_eq_true rfl) (atL dAX8_block_3 28 rfl) (fun q325 z325 g325 => ?_)
      obtain ⟨g325a, g325b⟩ := g325
      rw [g325b]
      rw [show wI q325 = some (.int (rt (rnds KR (sch (wdd D fr)) (wm σ 9) k 0) 22)) from congrArg (fun z => some (Value.int z)) g325a]
      show V X _ w _ _ t [.int (rt (rnds KR (sch (wdd D fr)) (wm σ 9) k 0) 22), .int ((rt (rnds KR (sch (wdd D fr)) (wm σ 9) k 0) 2) ^^^ (rt (rnds KR (sch (wdd D fr)) (wm σ 9) k 0) 13))]
      refine v_ixor hX (r := ((rt (rnds KR (sch (wdd D fr)) (wm σ 9) k 0) 2) ^^^ (rt (rnds KR (sch (wdd D fr)) (wm σ 9) k 0) 13)) ^^^ (rt (rnds KR (sch (wdd D fr)) (wm σ 9) k 0) 22)) rfl (atL dAX8_block_3 29 rfl) ?_
      refine v_iload_n hX 2 rfl (atL dAX8_block_3 30 rfl) ?_
      refine v_iload_n hX 3 rfl (atL dAX8_block_3 31 rfl) ?_
      refine v_iand hX (r := (rnds KR (sch (wdd D fr)) (wm σ 9) k 0) &&& (rnds KR (sch (wdd D fr)) (wm σ 9) k 1)) rfl (atL dAX8_block_3 32 rfl) ?_
      refine v_iload_n hX 2 rfl (atL dAX8_block_3 33 rfl) ?_
      refine v_iload hX 4 rfl (atL dAX8_block_3 34 rfl) ?_
      refine v_iand hX (r := (rnds KR (sch (wdd D fr)) (wm σ 9) k 0) &&& (rnds KR (sch (wdd D fr)) (wm σ 9) k 2)) rfl (atL dAX8_block_3 35 rfl) ?_
      refine v_ixor hX (r := ((rnds KR (sch (wdd D fr)) (wm σ 9) k 0) &&& (rnds KR (sch (wdd D fr)) (wm σ 9) k 1)) ^^^ ((rnds KR (sch (wdd D fr)) (wm σ 9) k 0) &&& (rnds KR (sch (wdd D fr)) (wm σ 9) k 2))) rfl (atL dAX8_block_3 36 rfl) ?_
      refine v_iload_n hX 3 rfl (atL dAX8_block_3 37 rfl) ?_
      refine v_iload hX 4 rfl (atL dAX8_block_3 38 rfl) ?_
      refine v_iand hX (r := (rnds KR (sch (wdd D fr)) (wm σ 9) k 1) &&& (rnds KR (sch (wdd D fr)) (wm σ 9) k 2)) rfl (atL dAX8_block_3 39 rfl) ?_
      refine v_ixor hX (r := (((rnds KR (sch (wdd D fr)) (wm σ 9) k 0) &&& (rnds KR (sch (wdd D fr)) (wm σ 9) k 1)) ^^^ ((rnds KR (sch (wdd D fr)) (wm σ 9) k 0) &&& (rnds KR (sch (wdd D fr)) (wm σ 9) k 2))) ^^^ ((rnds KR (sch (wdd D fr)) (wm σ 9) k 1) &&& (rnds KR (sch (wdd D fr)) (wm σ 9) k 2))) rfl (atL dAX8_block_3 40 rfl) ?_
      refine v_iadd hX (r := (((rt (rnds KR (sch (wdd D fr)) (wm σ 9) k 0) 2) ^^^ (rt (rnds KR (sch (wdd D fr)) (wm σ 9) k 0) 13)) ^^^ (rt (rnds KR (sch (wdd D fr)) (wm σ 9) k 0) 22)) + ((((rnds KR (sch (wdd D fr)) (wm σ 9) k 0) &&& (rnds KR (sch (wdd D fr)) (wm σ 9) k 1)) ^^^ ((rnds KR (sch (wdd D fr)) (wm σ 9) k 0) &&& (rnds KR (sch (wdd D fr)) (wm σ 9) k 2))) ^^^ ((rnds KR (sch (wdd D fr)) (wm σ 9) k 1) &&& (rnds KR (sch (wdd D fr)) (wm σ 9) k 2)))) rfl (atL dAX8_block_3 41 rfl) ?_
      refine v_istore hX (lv' := [(12, .int ((((rt (rnds KR (sch (wdd D fr)) (wm σ 9) k 0) 2) ^^^ (rt (rnds KR (sch (wdd D fr)) (wm σ 9) k 0) 13)) ^^^ (rt (rnds KR (sch (wdd D fr)) (wm σ 9) k 0) 22)) + ((((rnds KR (sch (wdd D fr)) (wm σ 9) k 0) &&& (rnds KR (sch (wdd D fr)) (wm σ 9) k 1)) ^^^ ((rnds KR (sch (wdd D fr)) (wm σ 9) k 0) &&& (rnds KR (sch (wdd D fr)) (wm σ 9) k 2))) ^^^ ((rnds KR (sch (wdd D fr)) (wm σ 9) k 1) &&& (rnds KR (sch (wdd D fr)) (wm σ 9) k 2))))), (11, .int (((((rnds KR (sch (wdd D fr)) (wm σ 9) k 7) + (((rt (rnds KR (sch (wdd D fr)) (wm σ 9) k 4) 6) ^^^ (rt (rnds KR (sch (wdd D fr)) (wm σ 9) k 4) 11)) ^^^ (rt (rnds KR (sch (wdd D fr)) (wm σ 9) k 4) 25))) + (((rnds KR (sch (wdd D fr)) (wm σ 9) k 4) &&& (rnds KR (sch (wdd D fr)) (wm σ 9) k 5)) ^^^ (((rnds KR (sch (wdd D fr)) (wm σ 9) k 4) ^^^ (iI ((-1)))) &&& (rnds KR (sch (wdd D fr)) (wm σ 9) k 6)))) + (iI (t 13 7 k))) + (iI (t 13 6 k)))), (10, .int (iI ((k : Int)))), (2, .int (rnds KR (sch (wdd D fr)) (wm σ 9) k 0)), (3, .int (rnds KR (sch (wdd D fr)) (wm σ 9) k 1)), (4, .int (rnds KR (sch (wdd D fr)) (wm σ 9) k 2)), (5, .int (rnds KR (sch (wdd D fr)) (wm σ 9) k 3)), (6, .int (rnds KR (sch (wdd D fr)) (wm σ 9) k 4)), (7, .int (rnds KR (sch (wdd D fr)) (wm σ 9) k 5)), (8, .int (rnds KR (sch (wdd D fr)) (wm σ 9) k 6)), (9, .int (rnds KR (sch (wdd D fr)) (wm σ 9) k 7)), (0, .ref (w.1 13 0)), (1, .int (iI ((fr : Int))))]) (Nat.le_of_ble_eq_true rfl) rfl (atL dAX8_block_3 42 rfl) ?_
      refine v_iload hX 9 rfl (atL dAX8_block_3 43 rfl) ?_
      refine v_istore hX (lv' := [(9, .int (rnds KR (sch (wdd D fr)) (wm σ 9) k 6)), (12, .int ((((rt (rnds KR (sch (wdd D fr)) (wm σ 9) k 0) 2) ^^^ (rt (rnds KR (sch (wdd D fr)) (wm σ 9) k 0) 13)) ^^^ (rt (rnds KR (sch (wdd D fr)) (wm σ 9) k 0) 22)) + ((((rnds KR (sch (wdd D fr)) (wm σ 9) k 0) &&& (rnds KR (sch (wdd D fr)) (wm σ 9) k 1)) ^^^ ((rnds KR (sch (wdd D fr)) (wm σ 9) k 0) &&& (rnds KR (sch (wdd D fr)) (wm σ 9) k 2))) ^^^ ((rnds KR (sch (wdd D fr)) (wm σ 9) k 1) &&& (rnds KR (sch (wdd D fr)) (wm σ 9) k 2))))), (11, .int (((((rnds KR (sch (wdd D fr)) (wm σ 9) k 7) + (((rt (rnds KR (sch (wdd D fr)) (wm σ 9) k 4) 6) ^^^ (rt (rnds KR (sch (wdd D fr)) (wm σ 9) k 4) 11)) ^^^ (rt (rnds KR (sch (wdd D fr)) (wm σ 9) k 4) 25))) + (((rnds KR (sch (wdd D fr)) (wm σ 9) k 4) &&& (rnds KR (sch (wdd D fr)) (wm σ 9) k 5)) ^^^ (((rnds KR (sch (wdd D fr)) (wm σ 9) k 4) ^^^ (iI ((-1)))) &&& (rnds KR (sch (wdd D fr)) (wm σ 9) k 6)))) + (iI (t 13 7 k))) + (iI (t 13 6 k)))), (10, .int (iI ((k : Int)))), (2, .int (rnds KR (sch (wdd D fr)) (wm σ 9) k 0)), (3, .int (rnds KR (sch (wdd D fr)) (wm σ 9) k 1)), (4, .int (rnds KR (sch (wdd D fr)) (wm σ 9) k 2)), (5, .int (rnds KR (sch (wdd D fr)) (wm σ 9) k 3)), (6, .int (rnds KR (sch (wdd D fr)) (wm σ 9) k 4)), (7, .int (rnds KR (sch (wdd D fr)) (wm σ 9) k 5)), (8, .int (rnds KR (sch (wdd D fr)) (wm σ 9) k 6)), (0, .ref (w.1 13 0)), (1, .int (iI ((fr : Int))))]) (Nat.le_of_ble_eq_true rfl) rfl (atL dAX8_block_3 44 rfl) ?_
      refine v_iload hX 9 rfl (atL dAX8_block_3 45 rfl) ?_
      refine v_istore hX (lv' := [(8, .int (rnds KR (sch (wdd D fr)) (wm σ 9) k 5)), (9, .int (rnds KR (sch (wdd D fr)) (wm σ 9) k 6)), (12, .int ((((rt (rnds KR (sch (wdd D fr)) (wm σ 9) k 0) 2) ^^^ (rt (rnds KR (sch (wdd D fr)) (wm σ 9) k 0) 13)) ^^^ (rt (rnds KR (sch (wdd D fr)) (wm σ 9) k 0) 22)) + ((((rnds KR (sch (wdd D fr)) (wm σ 9) k 0) &&& (rnds KR (sch (wdd D fr)) (wm σ 9) k 1)) ^^^ ((rnds KR (sch (wdd D fr)) (wm σ 9) k 0) &&& (rnds KR (sch (wdd D fr)) (wm σ 9) k 2))) ^^^ ((rnds KR (sch (wdd D fr)) (wm σ 9) k 1) &&& (rnds KR (sch (wdd D fr)) (wm σ 9) k 2))))), (11, .int (((((rnds KR (sch (wdd D fr)) (wm σ 9) k 7) + (((rt (rnds KR (sch (wdd D fr)) (wm σ 9) k 4) 6) ^^^ (rt (rnds KR (sch (wdd D fr)) (wm σ 9) k 4) 11)) ^^^ (rt (rnds KR (sch (wdd D fr)) (wm σ 9) k 4) 25))) + (((rnds KR (sch (wdd D fr)) (wm σ 9) k 4) &&& (rnds KR (sch (wdd D fr)) (wm σ 9) k 5)) ^^^ (((rnds KR (sch (wdd D fr)) (wm σ 9) k 4) ^^^ (iI ((-1)))) &&& (rnds KR (sch (wdd D fr)) (wm σ 9) k 6)))) + (iI (t 13 7 k))) + (iI (t 13 6 k)))), (10, .int (iI ((k : Int)))), (2, .int (rnds KR (sch (wdd D fr)) (wm σ 9) k 0)), (3, .int (rnds KR (sch (wdd D fr)) (wm σ 9) k 1)), (4, .int (rnds KR (sch (wdd D fr)) (wm σ 9) k 2)), (5, .int (rnds KR (sch (wdd D fr)) (wm σ 9) k 3)), (6, .int (rnds KR (sch (wdd D fr)) (wm σ 9) k 4)), (7, .int (rnds KR (sch (wdd D fr)) (wm σ 9) k 5)), (0, .ref (w.1 13 0)), (1, .int (iI ((fr : Int))))]) (Nat.le_of_ble_eq_true rfl) rfl (atL dAX8_block_3 46 rfl) ?_
      refine v_iload hX 9 rfl (atL dAX8_block_3 47 rfl) ?_
      refine v_istore hX (lv' := [(7, .int (rnds KR (sch (wdd D fr)) (wm σ 9) k 4)), (8, .int (rnds KR (sch (wdd D fr)) (wm σ 9) k 5)), (9, .int (rnds KR (sch (wdd D fr)) (wm σ 9) k 6)), (12, .int ((((rt (rnds KR (sch (wdd D fr)) (wm σ 9) k 0) 2) ^^^ (rt (rnds KR (sch (wdd D fr)) (wm σ 9) k 0) 13)) ^^^ (rt (rnds KR (sch (wdd D fr)) (wm σ 9) k 0) 22)) + ((((rnds KR (sch (wdd D fr)) (wm σ 9) k 0) &&& (rnds KR (sch (wdd D fr)) (wm σ 9) k 1)) ^^^ ((rnds KR (sch (wdd D fr)) (wm σ 9) k 0) &&& (rnds KR (sch (wdd D fr)) (wm σ 9) k 2))) ^^^ ((rnds KR (sch (wdd D fr)) (wm σ 9) k 1) &&& (rnds KR (sch (wdd D fr)) (wm σ 9) k 2))))), (11, .int (((((rnds KR (sch (wdd D fr)) (wm σ 9) k 7) + (((rt (rnds KR (sch (wdd D fr)) (wm σ 9) k 4) 6) ^^^ (rt (rnds KR (sch (wdd D fr)) (wm σ 9) k 4) 11)) ^^^ (rt (rnds KR (sch (wdd D fr)) (wm σ 9) k 4) 25))) + (((rnds KR (sch (wdd D fr)) (wm σ 9) k 4) &&& (rnds KR (sch (wdd D fr)) (wm σ 9) k 5)) ^^^ (((rnds KR (sch (wdd D fr)) (wm σ 9) k 4) ^^^ (iI ((-1)))) &&& (rnds KR (sch (wdd D fr)) (wm σ 9) k 6)))) + (iI (t 13 7 k))) + (iI (t 13 6 k)))), (10, .int (iI ((k : Int)))), (2, .int (rnds KR (sch (wdd D fr)) (wm σ 9) k 0)), (3, .int (rnds KR (sch (wdd D fr)) (wm σ 9) k 1)), (4, .int (rnds KR (sch (wdd D fr)) (wm σ 9) k 2)), (5, .int (rnds KR (sch (wdd D fr)) (wm σ 9) k 3)), (6, .int (rnds KR (sch (wdd D fr)) (wm σ 9) k 4)), (0, .ref (w.1 13 0)), (1, .int (iI ((fr : Int))))]) (Nat.le_of_ble_eq_true rfl) rfl (atL dAX8_block_3 48 rfl) ?_
      refine v_iload hX 9 rfl (atL dAX8_block_3 49 rfl) ?_
      refine v_iload hX 4 rfl (atL dAX8_block_3 50 rfl) ?_
      refine v_iadd hX (r := (rnds KR (sch (wdd D fr)) (wm σ 9) k 3) + (((((rnds KR (sch (wdd D fr)) (wm σ 9) k 7) + (((rt (rnds KR (sch (wdd D fr)) (wm σ 9) k 4) 6) ^^^ (rt (rnds KR (sch (wdd D fr)) (wm σ 9) k 4) 11)) ^^^ (rt (rnds KR (sch (wdd D fr)) (wm σ 9) k 4) 25))) + (((rnds KR (sch (wdd D fr)) (wm σ 9) k 4) &&& (rnds KR (sch (wdd D fr)) (wm σ 9) k 5)) ^^^ (((rnds KR (sch (wdd D fr)) (wm σ 9) k 4) ^^^ (iI ((-1)))) &&& (rnds KR (sch (wdd D fr)) (wm σ 9) k 6)))) + (iI (t 13 7 k))) + (iI (t 13 6 k)))) rfl (atL dAX8_block_3 51 rfl) ?_
      refine v_istore hX (lv' := [(6, .int ((rnds KR (sch (wdd D fr)) (wm σ 9) k 3) + (((((rnds KR (sch (wdd D fr)) (wm σ 9) k 7) + (((rt (rnds KR (sch (wdd D fr)) (wm σ 9) k 4) 6) ^^^ (rt (rnds KR (sch (wdd D fr)) (wm σ 9) k 4) 11)) ^^^ (rt (rnds KR (sch (wdd D fr)) (wm σ 9) k 4) 25))) + (((rnds KR (sch (wdd D fr)) (wm σ 9) k 4) &&& (rnds KR (sch (wdd D fr)) (wm σ 9) k 5)) ^^^ (((rnds KR (sch (wdd D fr)) (wm σ 9) k 4) ^^^ (iI ((-1)))) &&& (rnds KR (sch (wdd D fr)) (wm σ 9) k 6)))) + (iI (t 13 7 k))) + (iI (t 13 6 k))))), (7, .int (rnds KR (sch (wdd D fr)) (wm σ 9) k 4)), (8, .int (rnds KR (sch (wdd D fr)) (wm σ 9) k 5)), (9, .int (rnds KR (sch (wdd D fr)) (wm σ 9) k 6)), (12, .int ((((rt (rnds KR (sch (wdd D fr)) (wm σ 9) k 0) 2) ^^^ (rt (rnds KR (sch (wdd D fr)) (wm σ 9) k 0) 13)) ^^^ (rt (rnds KR (sch (wdd D fr)) (wm σ 9) k 0) 22)) + ((((rnds KR (sch (wdd D fr)) (wm σ 9) k 0) &&& (rnds KR (sch (wdd D fr)) (wm σ 9) k 1)) ^^^ ((rnds KR (sch (wdd D fr)) (wm σ 9) k 0) &&& (rnds KR (sch (wdd D fr)) (wm σ 9) k 2))) ^^^ ((rnds KR (sch (wdd D fr)) (wm σ 9) k 1) &&& (rnds KR (sch (wdd D fr)) (wm σ 9) k 2))))), (11, .int (((((rnds KR (sch (wdd D fr)) (wm σ 9) k 7) + (((rt (rnds KR (sch (wdd D fr)) (wm σ 9) k 4) 6) ^^^ (rt (rnds KR (sch (wdd D fr)) (wm σ 9) k 4) 11)) ^^^ (rt (rnds KR (sch (wdd D fr)) (wm σ 9) k 4) 25))) + (((rnds KR (sch (wdd D fr)) (wm σ 9) k 4) &&& (rnds KR (sch (wdd D fr)) (wm σ 9) k 5)) ^^^ (((rnds KR (sch (wdd D fr)) (wm σ 9) k 4) ^^^ (iI ((-1)))) &&& (rnds KR (sch (wdd D fr)) (wm σ 9) k 6)))) + (iI (t 13 7 k))) + (iI (t 13 6 k)))), (10, .int (iI ((k : Int)))), (2, .int (rnds KR (sch (wdd D fr)) (wm σ 9) k 0)), (3, .int (rnds KR (sch (wdd D fr)) (wm σ 9) k 1)), (4, .int (rnds KR (sch (wdd D fr)) (wm σ 9) k 2)), (5, .int (rnds KR (sch (wdd D fr)) (wm σ 9) k 3)), (0, .ref (w.1 13 0)), (1, .int (iI ((fr : Int))))]) (Nat.le_of_ble_eq_true rfl) rfl (atL dAX8_block_3 52 rfl) ?_
      refine v_iload hX 9 rfl (atL dAX8_block_3 53 rfl) ?_
      refine v_istore hX (lv' := [(5, .int (rnds KR (sch (wdd D fr)) (wm σ 9) k 2)), (6, .int ((rnds KR (sch (wdd D fr)) (wm σ 9) k 3) + (((((rnds KR (sch (wdd D fr)) (wm σ 9) k 7) + (((rt (rnds KR (sch (wdd D fr)) (wm σ 9) k 4) 6) ^^^ (rt (rnds KR (sch (wdd D fr)) (wm σ 9) k 4) 11)) ^^^ (rt (rnds KR (sch (wdd D fr)) (wm σ 9) k 4) 25))) + (((rnds KR (sch (wdd D fr)) (wm σ 9) k 4) &&& (rnds KR (sch (wdd D fr)) (wm σ 9) k 5)) ^^^ (((rnds KR (sch (wdd D fr)) (wm σ 9) k 4) ^^^ (iI ((-1)))) &&& (rnds KR (sch (wdd D fr)) (wm σ 9) k 6)))) + (iI (t 13 7 k))) + (iI (t 13 6 k))))), (7, .int (rnds KR (sch (wdd D fr)) (wm σ 9) k 4)), (8, .int (rnds KR (sch (wdd D fr)) (wm σ 9) k 5)), (9, .int (rnds KR (sch (wdd D fr)) (wm σ 9) k 6)), (12, .int ((((rt (rnds KR (sch (wdd D fr)) (wm σ 9) k 0) 2) ^^^ (rt (rnds KR (sch (wdd D fr)) (wm σ 9) k 0) 13)) ^^^ (rt (rnds KR (sch (wdd D fr)) (wm σ 9) k 0) 22)) + ((((rnds KR (sch (wdd D fr)) (wm σ 9) k 0) &&& (rnds KR (sch (wdd D fr)) (wm σ 9) k 1)) ^^^ ((rnds KR (sch (wdd D fr)) (wm σ 9) k 0) &&& (rnds KR (sch (wdd D fr)) (wm σ 9) k 2))) ^^^ ((rnds KR (sch (wdd D fr)) (wm σ 9) k 1) &&& (rnds KR (sch (wdd D fr)) (wm σ 9) k 2))))), (11, .int (((((rnds KR (sch (wdd D fr)) (wm σ 9) k 7) + (((rt (rnds KR (sch (wdd D fr)) (wm σ 9) k 4) 6) ^^^ (rt (rnds KR (sch (wdd D fr)) (wm σ 9) k 4) 11)) ^^^ (rt (rnds KR (sch (wdd D fr)) (wm σ 9) k 4) 25))) + (((rnds KR (sch (wdd D fr)) (wm σ 9) k 4) &&& (rnds KR (sch (wdd D fr)) (wm σ 9) k 5)) ^^^ (((rnds KR (sch (wdd D fr)) (wm σ 9) k 4) ^^^ (iI ((-1)))) &&& (rnds KR (sch (wdd D fr)) (wm σ 9) k 6)))) + (iI (t 13 7 k))) + (iI (t 13 6 k)))), (10, .int (iI ((k : Int)))), (2, .int (rnds KR (sch (wdd D fr)) (wm σ 9) k 0)), (3, .int (rnds KR (sch (wdd D fr)) (wm σ 9) k 1)), (4, .int (rnds KR (sch (wdd D fr)) (wm σ 9) k 2)), (0, .ref (w.1 13 0)), (1, .int (iI ((fr : Int))))]) (Nat.le_of_ble_eq_true rfl) rfl (atL dAX8_block_3 54 rfl) ?_
      refine v_iload_n hX 9 rfl (atL dAX8_block_3 55 rfl) ?_
      refine v_istore hX (lv' := [(4, .int (rnds KR (sch (wdd D fr)) (wm σ 9) k 1)), (5, .int (rnds KR (sch (wdd D fr)) (wm σ 9) k 2)), (6, .int ((rnds KR (sch (wdd D fr)) (wm σ 9) k 3) + (((((rnds KR (sch (wdd D fr)) (wm σ 9) k 7) + (((rt (rnds KR (sch (wdd D fr)) (wm σ 9) k 4) 6) ^^^ (rt (rnds KR (sch (wdd D fr)) (wm σ 9) k 4) 11)) ^^^ (rt (rnds KR (sch (wdd D fr)) (wm σ 9) k 4) 25))) + (((rnds KR (sch (wdd D fr)) (wm σ 9) k 4) &&& (rnds KR (sch (wdd D fr)) (wm σ 9) k 5)) ^^^ (((rnds KR (sch (wdd D fr)) (wm σ 9) k 4) ^^^ (iI ((-1)))) &&& (rnds KR (sch (wdd D fr)) (wm σ 9) k 6)))) + (iI (t 13 7 k))) + (iI (t 13 6 k))))), (7, .int (rnds KR (sch (wdd D fr)) (wm σ 9) k 4)), (8, .int (rnds KR (sch (wdd D fr)) (wm σ 9) k 5)), (9, .int (rnds KR (sch (wdd D fr)) (wm σ 9) k 6)), (12, .int ((((rt (rnds KR (sch (wdd D fr)) (wm σ 9) k 0) 2) ^^^ (rt (rnds KR (sch (wdd D fr)) (wm σ 9) k 0) 13)) ^^^ (rt (rnds KR (sch (wdd D fr)) (wm σ 9) k 0) 22)) + ((((rnds KR (sch (wdd D fr)) (wm σ 9) k 0) &&& (rnds KR (sch (wdd D fr)) (wm σ 9) k 1)) ^^^ ((rnds KR (sch (wdd D fr)) (wm σ 9) k 0) &&& (rnds KR (sch (wdd D fr)) (wm σ 9) k 2))) ^^^ ((rnds KR (sch (wdd D fr)) (wm σ 9) k 1) &&& (rnds KR (sch (wdd D fr)) (wm σ 9) k 2))))), (11, .int (((((rnds KR (sch (wdd D fr)) (wm σ 9) k 7) + (((rt (rnds KR (sch (wdd D fr)) (wm σ 9) k 4) 6) ^^^ (rt (rnds KR (sch (wdd D fr)) (wm σ 9) k 4) 11)) ^^^ (rt (rnds KR (sch (wdd D fr)) (wm σ 9) k 4) 25))) + (((rnds KR (sch (wdd D fr)) (wm σ 9) k 4) &&& (rnds KR (sch (wdd D fr)) (wm σ 9) k 5)) ^^^ (((rnds KR (sch (wdd D fr)) (wm σ 9) k 4) ^^^ (iI ((-1)))) &&& (rnds KR (sch (wdd D fr)) (wm σ 9) k 6)))) + (iI (t 13 7 k))) + (iI (t 13 6 k)))), (10, .int (iI ((k : Int)))), (2, .int (rnds KR (sch (wdd D fr)) (wm σ 9) k 0)), (3, .int (rnds KR (sch (wdd D fr)) (wm σ 9) k 1)), (0, .ref (w.1 13 0)), (1, .int (iI ((fr : Int))))]) (Nat.le_of_ble_eq_true rfl) rfl (atL dAX8_block_3 56 rfl) ?_
      refine v_iload_n hX 9 rfl (atL dAX8_block_3 57 rfl) ?_
      refine v_istore_n hX (i := 3) rfl (lv' := [(3, .int (rnds KR (sch (wdd D fr)) (wm σ 9) k 0)), (4, .int (rnds KR (sch (wdd D fr)) (wm σ 9) k 1)), (5, .int (rnds KR (sch (wdd D fr)) (wm σ 9) k 2)), (6, .int ((rnds KR (sch (wdd D fr)) (wm σ 9) k 3) + (((((rnds KR (sch (wdd D fr)) (wm σ 9) k 7) + (((rt (rnds KR (sch (wdd D fr)) (wm σ 9) k 4) 6) ^^^ (rt (rnds KR (sch (wdd D fr)) (wm σ 9) k 4) 11)) ^^^ (rt (rnds KR (sch (wdd D fr)) (wm σ 9) k 4) 25))) + (((rnds KR (sch (wdd D fr)) (wm σ 9) k 4) &&& (rnds KR (sch (wdd D fr)) (wm σ 9) k 5)) ^^^ (((rnds KR (sch (wdd D fr)) (wm σ 9) k 4) ^^^ (iI ((-1)))) &&& (rnds KR (sch (wdd D fr)) (wm σ 9) k 6)))) + (iI (t 13 7 k))) + (iI (t 13 6 k))))), (7, .int (rnds KR (sch (wdd D fr)) (wm σ 9) k 4)), (8, .int (rnds KR (sch (wdd D fr)) (wm σ 9) k 5)), (9, .int (rnds KR (sch (wdd D fr)) (wm σ 9) k 6)), (12, .int ((((rt (rnds KR (sch (wdd D fr)) (wm σ 9) k 0) 2) ^^^ (rt (rnds KR (sch (wdd D fr)) (wm σ 9) k 0) 13)) ^^^ (rt (rnds KR (sch (wdd D fr)) (wm σ 9) k 0) 22)) + ((((rnds KR (sch (wdd D fr)) (wm σ 9) k 0) &&& (rnds KR (sch (wdd D fr)) (wm σ 9) k 1)) ^^^ ((rnds KR (sch (wdd D fr)) (wm σ 9) k 0) &&& (rnds KR (sch (wdd D fr)) (wm σ 9) k 2))) ^^^ ((rnds KR (sch (wdd D fr)) (wm σ 9) k 1) &&& (rnds KR (sch (wdd D fr)) (wm σ 9) k 2))))), (11, .int (((((rnds KR (sch (wdd D fr)) (wm σ 9) k 7) + (((rt (rnds KR (sch (wdd D fr)) (wm σ 9) k 4) 6) ^^^ (rt (rnds KR (sch (wdd D fr)) (wm σ 9) k 4) 11)) ^^^ (rt (rnds KR (sch (wdd D fr)) (wm σ 9) k 4) 25))) + (((rnds KR (sch (wdd D fr)) (wm σ 9) k 4) &&& (rnds KR (sch (wdd D fr)) (wm σ 9) k 5)) ^^^ (((rnds KR (sch (wdd D fr)) (wm σ 9) k 4) ^^^ (iI ((-1)))) &&& (rnds KR (sch (wdd D fr)) (wm σ 9) k 6)))) + (iI (t 13 7 k))) + (iI (t 13 6 k)))), (10, .int (iI ((k : Int)))), (2, .int (rnds KR (sch (wdd D fr)) (wm σ 9) k 0)), (0, .ref (w.1 13 0)), (1, .int (iI ((fr : Int))))]) (Nat.le_of_ble_eq_true rfl) rfl (atL dAX8_block_3 58 rfl) ?_
      refine v_iload hX 8 rfl (atL dAX8_block_3 59 rfl) ?_
      refine v_iload hX 7 rfl (atL dAX8_block_4 0 rfl) ?_
      refine v_iadd hX (r := (((((rnds KR (sch (wdd D fr)) (wm σ 9) k 7) + (((rt (rnds KR (sch (wdd D fr)) (wm σ 9) k 4) 6) ^^^ (rt (rnds KR (sch (wdd D fr)) (wm σ 9) k 4) 11)) ^^^ (rt (rnds KR (sch (wdd D fr)) (wm σ 9) k 4) 25))) + (((rnds KR (sch (wdd D fr)) (wm σ 9) k 4) &&& (rnds KR (sch (wdd D fr)) (wm σ 9) k 5)) ^^^ (((rnds KR (sch (wdd D fr)) (wm σ 9) k 4) ^^^ (iI ((-1)))) &&& (rnds KR (sch (wdd D fr)) (wm σ 9) k 6)))) + (iI (t 13 7 k))) + (iI (t 13 6 k))) + ((((rt (rnds KR (sch (wdd D fr)) (wm σ 9) k 0) 2) ^^^ (rt (rnds KR (sch (wdd D fr)) (wm σ 9) k 0) 13)) ^^^ (rt (rnds KR (sch (wdd D fr)) (wm σ 9) k 0) 22)) + ((((rnds KR (sch (wdd D fr)) (wm σ 9) k 0) &&& (rnds KR (sch (wdd D fr)) (wm σ 9) k 1)) ^^^ ((rnds KR (sch (wdd D fr)) (wm σ 9) k 0) &&& (rnds KR (sch (wdd D fr)) (wm σ 9) k 2))) ^^^ ((rnds KR (sch (wdd D fr)) (wm σ 9) k 1) &&& (rnds KR (sch (wdd D fr)) (wm σ 9) k 2))))) rfl (atL dAX8_block_4 1 rfl) ?_
      refine v_istore_n hX (i := 2) rfl (lv' := [(2, .int ((((((rnds KR (sch (wdd D fr)) (wm σ 9) k 7) + (((rt (rnds KR (sch (wdd D fr)) (wm σ 9) k 4) 6) ^^^ (rt (rnds KR (sch (wdd D fr)) (wm σ 9) k 4) 11)) ^^^ (rt (rnds KR (sch (wdd D fr)) (wm σ 9) k 4) 25))) + (((rnds KR (sch (wdd D fr)) (wm σ 9) k 4) &&& (rnds KR (sch (wdd D fr)) (wm σ 9) k 5)) ^^^ (((rnds KR (sch (wdd D fr)) (wm σ 9) k 4) ^^^ (iI ((-1)))) &&& (rnds KR (sch (wdd D fr)) (wm σ 9) k 6)))) + (iI (t 13 7 k))) + (iI (t 13 6 k))) + ((((rt (rnds KR (sch (wdd D fr)) (wm σ 9) k 0) 2) ^^^ (rt (rnds KR (sch (wdd D fr)) (wm σ 9) k 0) 13)) ^^^ (rt (rnds KR (sch (wdd D fr)) (wm σ 9) k 0) 22)) + ((((rnds KR (sch (wdd D fr)) (wm σ 9) k 0) &&& (rnds KR (sch (wdd D fr)) (wm σ 9) k 1)) ^^^ ((rnds KR (sch (wdd D fr)) (wm σ 9) k 0) &&& (rnds KR (sch (wdd D fr)) (wm σ 9) k 2))) ^^^ ((rnds KR (sch (wdd D fr)) (wm σ 9) k 1) &&& (rnds KR (sch (wdd D fr)) (wm σ 9) k 2)))))), (3, .int (rnds KR (sch (wdd D fr)) (wm σ 9) k 0)), (4, .int (rnds KR (sch (wdd D fr)) (wm σ 9) k 1)), (5, .int (rnds KR (sch (wdd D fr)) (wm σ 9) k 2)), (6, .int ((rnds KR (sch (wdd D fr)) (wm σ 9) k 3) + (((((rnds KR (sch (wdd D fr)) (wm σ 9) k 7) + (((rt (rnds KR (sch (wdd D fr)) (wm σ 9) k 4) 6) ^^^ (rt (rnds KR (sch (wdd D fr)) (wm σ 9) k 4) 11)) ^^^ (rt (rnds KR (sch (wdd D fr)) (wm σ 9) k 4) 25))) + (((rnds KR (sch (wdd D fr)) (wm σ 9) k 4) &&& (rnds KR (sch (wdd D fr)) (wm σ 9) k 5)) ^^^ (((rnds KR (sch (wdd D fr)) (wm σ 9) k 4) ^^^ (iI ((-1)))) &&& (rnds KR (sch (wdd D fr)) (wm σ 9) k 6)))) + (iI (t 13 7 k))) + (iI (t 13 6 k))))), (7, .int (rnds KR (sch (wdd D fr)) (wm σ 9) k 4)), (8, .int (rnds KR (sch (wdd D fr)) (wm σ 9) k 5)), (9, .int (rnds KR (sch (wdd D fr)) (wm σ 9) k 6)), (12, .int ((((rt (rnds KR (sch (wdd D fr)) (wm σ 9) k 0) 2) ^^^ (rt (rnds KR (sch (wdd D fr)) (wm σ 9) k 0) 13)) ^^^ (rt (rnds KR (sch (wdd D fr)) (wm σ 9) k 0) 22)) + ((((rnds KR (sch (wdd D fr)) (wm σ 9) k 0) &&& (rnds KR (sch (wdd D fr)) (wm σ 9) k 1)) ^^^ ((rnds KR (sch (wdd D fr)) (wm σ 9) k 0) &&& (rnds KR (sch (wdd D fr)) (wm σ 9) k 2))) ^^^ ((rnds KR (sch (wdd D fr)) (wm σ 9) k 1) &&& (rnds KR (sch (wdd D fr)) (wm σ 9) k 2))))), (11, .int (((((rnds KR (sch (wdd D fr)) (wm σ 9) k 7) + (((rt (rnds KR (sch (wdd D fr)) (wm σ 9) k 4) 6) ^^^ (rt (rnds KR (sch (wdd D fr)) (wm σ 9) k 4) 11)) ^^^ (rt (rnds KR (sch (wdd D fr)) (wm σ 9) k 4) 25))) + (((rnds KR (sch (wdd D fr)) (wm σ 9) k 4) &&& (rnds KR (sch (wdd D fr)) (wm σ 9) k 5)) ^^^ (((rnds KR (sch (wdd D fr)) (wm σ 9) k 4) ^^^ (iI ((-1)))) &&& (rnds KR (sch (wdd D fr)) (wm σ 9) k 6)))) + (iI (t 13 7 k))) + (iI (t 13 6 k)))), (10, .int (iI ((k : Int)))), (0, .ref (w.1 13 0)), (1, .int (iI ((fr : Int))))]) (Nat.le_of_ble_eq_true rfl) rfl (atL dAX8_block_4 2 rfl) ?_
      refine v_iinc hX (lv' := [(10, .int (iI (((k : Int)) + 1))), (2, .int ((((((rnds KR (sch (wdd D fr)) (wm σ 9) k 7) + (((rt (rnds KR (sch (wdd D fr)) (wm σ 9) k 4) 6) ^^^ (rt (rnds KR (sch (wdd D fr)) (wm σ 9) k 4) 11)) ^^^ (rt (rnds KR (sch (wdd D fr)) (wm σ 9) k 4) 25))) + (((rnds KR (sch (wdd D fr)) (wm σ 9) k 4) &&& (rnds KR (sch (wdd D fr)) (wm σ 9) k 5)) ^^^ (((rnds KR (sch (wdd D fr)) (wm σ 9) k 4) ^^^ (iI ((-1)))) &&& (rnds KR (sch (wdd D fr)) (wm σ 9) k 6)))) + (iI (t 13 7 k))) + (iI (t 13 6 k))) + ((((rt (rnds KR (sch (wdd D fr)) (wm σ 9) k 0) 2) ^^^ (rt (rnds KR (sch (wdd D fr)) (wm σ 9) k 0) 13)) ^^^ (rt (rnds KR (sch (wdd D fr)) (wm σ 9) k 0) 22)) + ((((rnds KR (sch (wdd D fr)) (wm σ 9) k 0) &&& (rnds KR (sch (wdd D fr)) (wm σ 9) k 1)) ^^^ ((rnds KR (sch (wdd D fr)) (wm σ 9) k 0) &&& (rnds KR (sch (wdd D fr)) (wm σ 9) k 2))) ^^^ ((rnds KR (sch (wdd D fr)) (wm σ 9) k 1) &&& (rnds KR (sch (wdd D fr)) (wm σ 9) k 2)))))), (3, .int (rnds KR (sch (wdd D fr)) (wm σ 9) k 0)), (4, .int (rnds KR (sch (wdd D fr)) (wm σ 9) k 1)), (5, .int (rnds KR (sch (wdd D fr)) (wm σ 9) k 2)), (6, .int ((rnds KR (sch (wdd D fr)) (wm σ 9) k 3) + (((((rnds KR (sch (wdd D fr)) (wm σ 9) k 7) + (((rt (rnds KR (sch (wdd D fr)) (wm σ 9) k 4) 6) ^^^ (rt (rnds KR (sch (wdd D fr)) (wm σ 9) k 4) 11)) ^^^ (rt (rnds KR (sch (wdd D fr)) (wm σ 9) k 4) 25))) + (((rnds KR (sch (wdd D fr)) (wm σ 9) k 4) &&& (rnds KR (sch (wdd D fr)) (wm σ 9) k 5)) ^^^ (((rnds KR (sch (wdd D fr)) (wm σ 9) k 4) ^^^ (iI ((-1)))) &&& (rnds KR (sch (wdd D fr)) (wm σ 9) k 6)))) + (iI (t 13 7 k))) + (iI (t 13 6 k))))), (7, .int (rnds KR (sch (wdd D fr)) (wm σ 9) k 4)), (8, .int (rnds KR (sch (wdd D fr)) (wm σ 9) k 5)), (9, .int (rnds KR (sch (wdd D fr)) (wm σ 9) k 6)), (12, .int ((((rt (rnds KR (sch (wdd D fr)) (wm σ 9) k 0) 2) ^^^ (rt (rnds KR (sch (wdd D fr)) (wm σ 9) k 0) 13)) ^^^ (rt (rnds KR (sch (wdd D fr)) (wm σ 9) k 0) 22)) + ((((rnds KR (sch (wdd D fr)) (wm σ 9) k 0) &&& (rnds KR (sch (wdd D fr)) (wm σ 9) k 1)) ^^^ ((rnds KR (sch (wdd D fr)) (wm σ 9) k 0) &&& (rnds KR (sch (wdd D fr)) (wm σ 9) k 2))) ^^^ ((rnds KR (sch (wdd D fr)) (wm σ 9) k 1) &&& (rnds KR (sch (wdd D fr)) (wm σ 9) k 2))))), (11, .int (((((rnds KR (sch (wdd D fr)) (wm σ 9) k 7) + (((rt (rnds KR (sch (wdd D fr)) (wm σ 9) k 4) 6) ^^^ (rt (rnds KR (sch (wdd D fr)) (wm σ 9) k 4) 11)) ^^^ (rt (rnds KR (sch (wdd D fr)) (wm σ 9) k 4) 25))) + (((rnds KR (sch (wdd D fr)) (wm σ 9) k 4) &&& (rnds KR (sch (wdd D fr)) (wm σ 9) k 5)) ^^^ (((rnds KR (sch (wdd D fr)) (wm σ 9) k 4) ^^^ (iI ((-1)))) &&& (rnds KR (sch (wdd D fr)) (wm σ 9) k 6)))) + (iI (t 13 7 k))) + (iI (t 13 6 k)))), (0, .ref (w.1 13 0)), (1, .int (iI ((fr : Int))))]) 10 rfl (iI_add _ _) (Nat.le_of_ble_eq_true rfl) rfl (atL dAX8_block_4 3 rfl) ?_
      refine v_goto hX (tgt := 245) (atL dAX8_block_4 4 rfl) (by decide) ?_
      refine v_sub (lv' := [(10, .int (iI (((k : Int)) + 1))), (2, .int ((((((rnds KR (sch (wdd D fr)) (wm σ 9) k 7) + (((rt (rnds KR (sch (wdd D fr)) (wm σ 9) k 4) 6) ^^^ (rt (rnds KR (sch (wdd D fr)) (wm σ 9) k 4) 11)) ^^^ (rt (rnds KR (sch (wdd D fr)) (wm σ 9) k 4) 25))) + (((rnds KR (sch (wdd D fr)) (wm σ 9) k 4) &&& (rnds KR (sch (wdd D fr)) (wm σ 9) k 5)) ^^^ (((rnds KR (sch (wdd D fr)) (wm σ 9) k 4) ^^^ (iI ((-1)))) &&& (rnds KR (sch (wdd D fr)) (wm σ 9) k 6)))) + (iI (t 13 7 k))) + (iI (t 13 6 k))) + ((((rt (rnds KR (sch (wdd D fr)) (wm σ 9) k 0) 2) ^^^ (rt (rnds KR (sch (wdd D fr)) (wm σ 9) k 0) 13)) ^^^ (rt (rnds KR (sch (wdd D fr)) (wm σ 9) k 0) 22)) + ((((rnds KR (sch (wdd D fr)) (wm σ 9) k 0) &&& (rnds KR (sch (wdd D fr)) (wm σ 9) k 1)) ^^^ ((rnds KR (sch (wdd D fr)) (wm σ 9) k 0) &&& (rnds KR (sch (wdd D fr)) (wm σ 9) k 2))) ^^^ ((rnds KR (sch (wdd D fr)) (wm σ 9) k 1) &&& (rnds KR (sch (wdd D fr)) (wm σ 9) k 2)))))), (3, .int (rnds KR (sch (wdd D fr)) (wm σ 9) k 0)), (4, .int (rnds KR (sch (wdd D fr)) (wm σ 9) k 1)), (5, .int (rnds KR (sch (wdd D fr)) (wm σ 9) k 2)), (6, .int ((rnds KR (sch (wdd D fr)) (wm σ 9) k 3) + (((((rnds KR (sch (wdd D fr)) (wm σ 9) k 7) + (((rt (rnds KR (sch (wdd D fr)) (wm σ 9) k 4) 6) ^^^ (rt (rnds KR (sch (wdd D fr)) (wm σ 9) k 4) 11)) ^^^ (rt (rnds KR (sch (wdd D fr)) (wm σ 9) k 4) 25))) + (((rnds KR (sch (wdd D fr)) (wm σ 9) k 4) &&& (rnds KR (sch (wdd D fr)) (wm σ 9) k 5)) ^^^ (((rnds KR (sch (wdd D fr)) (wm σ 9) k 4) ^^^ (iI ((-1)))) &&& (rnds KR (sch (wdd D fr)) (wm σ 9) k 6)))) + (iI (t 13 7 k))) + (iI (t 13 6 k))))), (7, .int (rnds KR (sch (wdd D fr)) (wm σ 9) k 4)), (8, .int (rnds KR (sch (wdd D fr)) (wm σ 9) k 5)), (9, .int (rnds KR (sch (wdd D fr)) (wm σ 9) k 6)), (0, .ref (w.1 13 0)), (1, .int (iI ((fr : Int))))]) [0, 1, 2, 3, 4, 5, 6, 7, 8, 11, 12] rfl ?_
      rw [show (k : Int) + 1 = ((k + 1 : Nat) : Int) by omega, eX]
      exact ih (k + 1) t (by omega) h6 hf
  have l2 : ∀ (d k : Nat) (t : St), k + d = 64 → 16 ≤ k → (∀ j, j < k → wm t 6 j = sch (wdd D fr) j) → Fr [(13, 6)] σ t → V X (0, 0) w 81 [(2, .int (iI ((k : Int)))), (0, .ref (w.1 13 0)), (1, .int (iI ((fr : Int))))] t [] := by
    intro d
    induction d with
    | zero =>
      intro k t hk h16 h6 hf
      obtain rfl : k = 64 := by omega
      refine v_iload_n hX 0 rfl (atL dAX8_block_1 0 rfl) ?_
      refine v_bipush hX (by decide +kernel) (atL dAX8_block_1 1 rfl) ?_
      refine v_icmp_ge hX ⟨by omega, by omega⟩ ⟨by omega, by omega⟩ (tgt := 178) (atL dAX8_block_1 2 rfl) (by decide) (fun h84 => ?_) (fun h84 => absurd h84 (by omega))
      refine v_aload_n hX 1 rfl (atL dAX8_block_2 0 rfl) ?_
      refine gf_X8_110 hX hk0 (atL dAX8_block_2 1 rfl) ?_
      refine v_iconst hX (atL dAX8_block_2 2 rfl) ?_
      refine v_iald hX (r := iI (σ 13 9 0)) 0 (hQ16 9 (by simp [mn, tp])) (fun _ => rfl) rfl (by decide) (by decide) (congrArg iI ((congrFun (hf 13 9 (by simp)) 0))) (atL dAX8_block_2 3 rfl) ?_
      refine v_istore_n hX (i := 2) rfl (lv' := [(2, .int (iI (σ 13 9 0))), (0, .ref (w.1 13 0)), (1, .int (iI ((fr : Int))))]) (Nat.le_of_ble_eq_true rfl) rfl (atL dAX8_block_2 4 rfl) ?_
      refine v_aload_n hX 1 rfl (atL dAX8_block_2 5 rfl) ?_
      refine gf_X8_110 hX hk0 (atL dAX8_block_2 6 rfl) ?_
      refine v_iconst hX (atL dAX8_block_2 7 rfl) ?_
      refine v_iald hX (r := iI (σ 13 9 1)) 1 (hQ16 9 (by simp [mn, tp])) (fun _ => rfl) rfl (by decide) (by decide) (congrArg iI ((congrFun (hf 13 9 (by simp)) 1))) (atL dAX8_block_2 8 rfl) ?_
      refine v_istore_n hX (i := 3) rfl (lv' := [(3, .int (iI (σ 13 9 1))), (2, .int (iI (σ 13 9 0))), (0, .ref (w.1 13 0)), (1, .int (iI ((fr : Int))))]) (Nat.le_of_ble_eq_true rfl) rfl (atL dAX8_block_2 9 rfl) ?_
      refine v_aload_n hX 2 rfl (atL dAX8_block_2 10 rfl) ?_
      refine gf_X8_110 hX hk0 (atL dAX8_block_2 11 rfl) ?_
      refine v_iconst hX (atL dAX8_block_2 12 rfl) ?_
      refine v_iald hX (r := iI (σ 13 9 2)) 2 (hQ16 9 (by simp [mn, tp])) (fun _ => rfl) rfl (by decide) (by decide) (congrArg iI ((congrFun (hf 13 9 (by simp)) 2))) (atL dAX8_block_2 13 rfl) ?_
      refine v_istore hX (lv' := [(4, .int (iI (σ 13 9 2))), (3, .int (iI (σ 13 9 1))), (2, .int (iI (σ 13 9 0))), (0, .ref (w.1 13 0)), (1, .int (iI ((fr : Int))))]) (Nat.le_of_ble_eq_true rfl) rfl (atL dAX8_block_2 14 rfl) ?_
      refine v_aload_n hX 3 rfl (atL dAX8_block_2 15 rfl) ?_
      refine gf_X8_110 hX hk0 (atL dAX8_block_2 16 rfl) ?_
      refine v_iconst hX (atL dAX8_block_2 17 rfl) ?_
      refine v_iald hX (r := iI (σ 13 9 3)) 3 (hQ16 9 (by simp [mn, tp])) (fun _ => rfl) rfl (by decide) (by decide) (congrArg iI ((congrFun (hf 13 9 (by simp)) 3))) (atL dAX8_block_2 18 rfl) ?_
      refine v_istore hX (lv' := [(5, .int (iI (σ 13 9 3))), (4, .int (iI (σ 13 9 2))), (3, .int (iI (σ 13 9 1))), (2, .int (iI (σ 13 9 0))), (0, .ref (w.1 13 0)), (1, .int (iI ((fr : Int))))]) (Nat.le_of_ble_eq_true rfl) rfl (atL dAX8_block_2 19 rfl) ?_
      refine v_aload_n hX 4 rfl (atL dAX8_block_2 20 rfl) ?_
      refine gf_X8_110 hX hk0 (atL dAX8_block_2 21 rfl) ?_
      refine v_iconst hX (atL dAX8_block_2 22 rfl) ?_
      refine v_iald hX (r := iI (σ 13 9 4)) 4 (hQ16 9 (by simp [mn, tp])) (fun _ => rfl) rfl (by decide) (by decide) (congrArg iI ((congrFun (hf 13 9 (by simp)) 4))) (atL dAX8_block_2 23 rfl) ?_
      refine v_istore hX (lv' := [(6, .int (iI (σ 13 9 4))), (5, .int (iI (σ 13 9 3))), (4, .int (iI (σ 13 9 2))), (3, .int (iI (σ 13 9 1))), (2, .int (iI (σ 13 9 0))), (0, .ref (w.1 13 0)), (1, .int (iI ((fr : Int))))]) (Nat.le_of_ble_eq_true rfl) rfl (atL dAX8_block_2 24 rfl) ?_
      refine v_aload_n hX 5 rfl (atL dAX8_block_2 25 rfl) ?_
      refine gf_X8_110 hX hk0 (atL dAX8_block_2 26 rfl) ?_
      refine v_iconst hX (atL dAX8_block_2 27 rfl) ?_
      refine v_iald hX (r := iI (σ 13 9 5)) 5 (hQ16 9 (by simp [mn, tp])) (fun _ => rfl) rfl (by decide) (by decide) (congrArg iI ((congrFun (hf 13 9 (by simp)) 5))) (atL dAX8_block_2 28 rfl) ?_
      refine v_istore hX (lv' := [(7, .int (iI (σ 13 9 5))), (6, .int (iI (σ 13 9 4))), (5, .int (iI (σ 13 9 3))), (4, .int (iI (σ 13 9 2))), (3, .int (iI (σ 13 9 1))), (2, .int (iI (σ 13 9 0))), (0, .ref (w.1 13 0)), (1, .int (iI ((fr : Int))))]) (Nat.le_of_ble_eq_true rfl) rfl (atL dAX8_block_2 29 rfl) ?_
      refine v_aload_n hX 6 rfl (atL dAX8_block_2 30 rfl) ?_
      refine gf_X8_110 hX hk0 (atL dAX8_block_2 31 rfl) ?_
      refine v_bipush hX (by decide +kernel) (atL dAX8_block_2 32 rfl) ?_
      refine v_iald hX (r := iI (σ 13 9 6)) 6 (hQ16 9 (by simp [mn, tp])) (fun _ => rfl) rfl (by decide) (by decide) (congrArg iI ((congrFun (hf 13 9 (by simp)) 6))) (atL dAX8_block_2 33 rfl) ?_
      refine v_istore hX (lv' := [(8, .int (iI (σ 13 9 6))), (7, .int (iI (σ 13 9 5))), (6, .int (iI (σ 13 9 4))), (5, .int (iI (σ 13 9 3))), (4, .int (iI (σ 13 9 2))), (3, .int (iI (σ 13 9 1))), (2, .int (iI (σ 13 9 0))), (0, .ref (w.1 13 0)), (1, .int (iI ((fr : Int))))]) (Nat.le_of_ble_eq_true rfl) rfl (atL dAX8_block_2 34 rfl) ?_
      refine v_aload_n hX 7 rfl (atL dAX8_block_2 35 rfl) ?_
      refine gf_X8_110 hX hk0 (atL dAX8_block_2 36 rfl) ?_
      refine v_bipush hX (by decide +kernel) (atL dAX8_block_2 37 rfl) ?_
      refine v_iald hX (r := iI (σ 13 9 7)) 7 (hQ16 9 (by simp [mn, tp])) (fun _ => rfl) rfl (by decide) (by decide) (congrArg iI ((congrFun (hf 13 9 (by simp)) 7))) (atL dAX8_block_2 38 rfl) ?_
      refine v_istore hX (lv' := [(9, .int (iI (σ 13 9 7))), (8, .int (iI (σ 13 9 6))), (7, .int (iI (σ 13 9 5))), (6, .int (iI (σ 13 9 4))), (5, .int (iI (σ 13 9 3))), (4, .int (iI (σ 13 9 2))), (3, .int (iI (σ 13 9 1))), (2, .int (iI (σ 13 9 0))), (0, .ref (w.1 13 0)), (1, .int (iI ((fr : Int))))]) (Nat.le_of_ble_eq_true rfl) rfl (atL dAX8_block_2 39 rfl) ?_
      refine v_iconst hX (atL dAX8_block_2 40 rfl) ?_
      refine v_istore hX (lv' := [(10, .int (iI (0))), (9, .int (iI (σ 13 9 7))), (8, .int (iI (σ 13 9 6))), (7, .int (iI (σ 13 9 5))), (6, .int (iI (σ 13 9 4))), (5, .int (iI (σ 13 9 3))), (4, .int (iI (σ 13 9 2))), (3, .int (iI (σ 13 9 1))), (2, .int (iI (σ 13 9 0))), (0, .ref (w.1 13 0)), (1, .int (iI ((fr : Int))))]) (Nat.le_of_ble_eq_true rfl) rfl (atL dAX8_block_2 41 rfl) ?_
      refine v_sub (lv' := [(10, .int (iI (0))), (2, .int (iI (σ 13 9 0))), (3, .int (iI (σ 13 9 1))), (4, .int (iI (σ 13 9 2))), (5, .int (iI (σ 13 9 3))), (6, .int (iI (σ 13 9 4))), (7, .int (iI (σ 13 9 5))), (8, .int (iI (σ 13 9 6))), (9, .int (iI (σ 13 9 7))), (0, .ref (w.1 13 0)), (1, .int (iI ((fr : Int))))]) [0, 8, 7, 6, 5, 4, 3, 2, 1, 9, 10] rfl ?_
      exact l3 64 0 t (by omega) h6 hf
    | succ d ih =>
      intro k t hk h16 h6 hf
      refine v_iload_n hX 0 rfl (atL dAX8_block_1 0 rfl) ?_
      refine v_bipush hX (by decide +kernel) (atL dAX8_block_1 1 rfl) ?_
      refine v_icmp_ge hX ⟨by omega, by omega⟩ ⟨by omega, by omega⟩ (tgt := 178) (atL dAX8_block_1 2 rfl) (by decide) (fun h84 => absurd h84 (by omega)) (fun h84 => ?_)
      refine v_aload_n hX 1 rfl (atL dAX8_block_1 3 rfl) ?_
      refine gf_X8_101 hX hk0 (atL dAX8_block_1 4 rfl) ?_
      refine v_iload_n hX 0 rfl (atL dAX8_block_1 5 rfl) ?_
      refine v_bipush hX (by decide +kernel) (atL dAX8_block_1 6 rfl) ?_
      refine v_isub hX (iI_sub _ _) (atL dAX8_block_1 7 rfl) ?_
      refine v_iald hX (r := iI (t 13 6 ((k - 15)))) ((k - 15)) (hQ16 6 (by simp [mn, tp])) (fun _ => rfl) (by omega) (show k - 15 < 64 by omega) (by decide) (congrArg iI (rfl)) (atL dAX8_block_1 8 rfl) ?_
      refine v_istore_n hX (i := 3) rfl (lv' := [(3, .int (iI (t 13 6 ((k - 15))))), (2, .int (iI ((k : Int)))), (0, .ref (w.1 13 0)), (1, .int (iI ((fr : Int))))]) (Nat.le_of_ble_eq_true rfl) rfl (atL dAX8_block_1 9 rfl) ?_
      refine v_aload_n hX 2 rfl (atL dAX8_block_1 10 rfl) ?_
      refine gf_X8_101 hX hk0 (atL dAX8_block_1 11 rfl) ?_
      refine v_iload_n hX 1 rfl (atL dAX8_block_1 12 rfl) ?_
      refine v_iconst hX (atL dAX8_block_1 13 rfl) ?_
      refine v_isub hX (iI_sub _ _) (atL dAX8_block_1 14 rfl) ?_
      refine v_iald hX (r := iI (t 13 6 ((k - 2)))) ((k - 2)) (hQ16 6 (by simp [mn, tp])) (fun _ => rfl) (by omega) (show k - 2 < 64 by omega) (by decide) (congrArg iI (rfl)) (atL dAX8_block_1 15 rfl) ?_
      refine v_istore hX (lv' := [(4, .int (iI (t 13 6 ((k - 2))))), (3, .int (iI (t 13 6 ((k - 15))))), (2, .int (iI ((k : Int)))), (0, .ref (w.1 13 0)), (1, .int (iI ((fr : Int))))]) (Nat.le_of_ble_eq_true rfl) rfl (atL dAX8_block_1 16 rfl) ?_
      refine v_aload_n hX 3 rfl (atL dAX8_block_1 17 rfl) ?_
      refine gf_X8_101 hX hk0 (atL dAX8_block_1 18 rfl) ?_
      refine v_iload_n hX 2 rfl (atL dAX8_block_1 19 rfl) ?_
      refine v_iload hX 0 rfl (atL dAX8_block_1 20 rfl) ?_
      refine v_bipush hX (by decide +kernel) (atL dAX8_block_1 21 rfl) ?_
      refine v_callS hX (As := [.int (iI (t 13 6 ((k - 2)))), .int (iI (17))]) (rest := [.int (iI ((k : Int))), .ref (w.1 16 6)]) (c_X8_across (xl X) w t (iI (t 13 6 (k - 2))) 17) lk_X8_339 rfl (by rw [hR]; exact ⟨Nat.le_of_ble_eq_true rfl, Nat.le_of_ble_eq_true rfl⟩) ⟨Nat.zero_le _, Nat.zero_le _⟩ rfl (Nat.le_of_ble_eq_true rfl) (atL dAX8_block_1 22 rfl) (fun q116 z116 g116 => ?_)
      obtain ⟨g116a, g116b⟩ := g116
      rw [g116b]
      rw [show wI q116 = some (.int (rt (iI (t 13 6 (k - 2))) 17)) from congrArg (fun z => some (Value.int z)) g116a]
      show V X _ w _ _ t [.int (rt (iI (t 13 6 (k - 2))) 17), .int (iI ((k : Int))), .ref (w.1 16 6)]
      refine v_iload hX 0 rfl (atL dAX8_block_1 23 rfl) ?_
      refine v_bipush hX (by decide +kernel) (atL dAX8_block_1 24 rfl) ?_
      refine v_callS hX (As := [.int (iI (t 13 6 ((k - 2)))), .int (iI (19))]) (rest := [.int (rt (iI (t 13 6 (k - 2))) 17), .int (iI ((k : Int))), .ref (w.1 16 6)]) (c_X8_across (xl X) w t (iI (t 13 6 (k - 2))) 19) lk_X8_339 rfl (by rw [hR]; exact ⟨Nat.le_of_ble_eq_true rfl, Nat.le_of_ble_eq_true rfl⟩) ⟨Nat.zero_le _, Nat.zero_le _⟩ rfl (Nat.le_of_ble_eq_true rfl) (atL dAX8_block_1 25 rfl) (fun q123 z123 g123 => ?_)
      obtain ⟨g123a, g123b⟩ := g123
      rw [g123b]
      rw [show wI q123 = some (.int (rt (iI (t 13 6 (k - 2))) 19)) from congrArg (fun z => some (Value.int z)) g123a]
      show V X _ w _ _ t [.int (rt (iI (t 13 6 (k - 2))) 19), .int (rt (iI (t 13 6 (k - 2))) 17), .int (iI ((k : Int))), .ref (w.1 16 6)]
      refine v_ixor hX (r := (rt (iI (t 13 6 (k - 2))) 17) ^^^ (rt (iI (t 13 6 (k - 2))) 19)) rfl (atL dAX8_block_1 26 rfl) ?_
      refine v_iload hX 0 rfl (atL dAX8_block_1 27 rfl) ?_
      refine v_bipush hX (by decide +kernel) (atL dAX8_block_1 28 rfl) ?_
      refine v_iushr hX (r := us (iI (t 13 6 ((k - 2)))) (iI (10))) rfl (atL dAX8_block_1 29 rfl) ?_
      refine v_ixor hX (r := ((rt (iI (t 13 6 (k - 2))) 17) ^^^ (rt (iI (t 13 6 (k - 2))) 19)) ^^^ (us (iI (t 13 6 ((k - 2)))) (iI (10)))) rfl (atL dAX8_block_1 30 rfl) ?_
      refine v_aload_n hX 3 rfl (atL dAX8_block_1 31 rfl) ?_
      refine gf_X8_101 hX hk0 (atL dAX8_block_1 32 rfl) ?_
      refine v_iload_n hX 2 rfl (atL dAX8_block_1 33 rfl) ?_
      refine v_bipush hX (by decide +kernel) (atL dAX8_block_1 34 rfl) ?_
      refine v_isub hX (iI_sub _ _) (atL dAX8_block_1 35 rfl) ?_
      refine v_iald hX (r := iI (t 13 6 ((k - 7)))) ((k - 7)) (hQ16 6 (by simp [mn, tp])) (fun _ => rfl) (by omega) (show k - 7 < 64 by omega) (by decide) (congrArg iI (rfl)) (atL dAX8_block_1 36 rfl) ?_
      refine v_iadd hX (r := (((rt (iI (t 13 6 (k - 2))) 17) ^^^ (rt (iI (t 13 6 (k - 2))) 19)) ^^^ (us (iI (t 13 6 ((k - 2)))) (iI (10)))) + (iI (t 13 6 ((k - 7))))) rfl (atL dAX8_block_1 37 rfl) ?_
      refine v_iload_n hX 1 rfl (atL dAX8_block_1 38 rfl) ?_
      refine v_bipush hX (by decide +kernel) (atL dAX8_block_1 39 rfl) ?_
      refine v_callS hX (As := [.int (iI (t 13 6 ((k - 15)))), .int (iI (7))]) (rest := [.int ((((rt (iI (t 13 6 (k - 2))) 17) ^^^ (rt (iI (t 13 6 (k - 2))) 19)) ^^^ (us (iI (t 13 6 ((k - 2)))) (iI (10)))) + (iI (t 13 6 ((k - 7))))), .int (iI ((k : Int))), .ref (w.1 16 6)]) (c_X8_across (xl X) w t (iI (t 13 6 (k - 15))) 7) lk_X8_339 rfl (by rw [hR]; exact ⟨Nat.le_of_ble_eq_true rfl, Nat.le_of_ble_eq_true rfl⟩) ⟨Nat.zero_le _, Nat.zero_le _⟩ rfl (Nat.le_of_ble_eq_true rfl) (atL dAX8_block_1 40 rfl) (fun q146 z146 g146 => ?_)
      obtain ⟨g146a, g146b⟩ := g146
      rw [g146b]
      rw [show wI q146 = some (.int (rt (iI (t 13 6 (k - 15))) 7)) from congrArg (fun z => some (Value.int z)) g146a]
      show V X _ w _ _ t [.int (rt (iI (t 13 6 (k - 15))) 7), .int ((((rt (iI (t 13 6 (k - 2))) 17) ^^^ (rt (iI (t 13 6 (k - 2))) 19)) ^^^ (us (iI (t 13 6 ((k - 2)))) (iI (10)))) + (iI (t 13 6 ((k - 7))))), .int (iI ((k : Int))), .ref (w.1 16 6)]
      refine v_iload_n hX 1 rfl (atL dAX8_block_1 41 rfl) ?_
      refine v_bipush hX (by decide +kernel) (atL dAX8_block_1 42 rfl) ?_
      refine v_callS hX (As := [.int (iI (t 13 6 ((k - 15)))), .int (iI (18))]) (rest := [.int (rt (iI (t 13 6 (k - 15))) 7), .int ((((rt (iI (t 13 6 (k - 2))) 17) ^^^ (rt (iI (t 13 6 (k - 2))) 19)) ^^^ (us (iI (t 13 6 ((k - 2)))) (iI (10)))) + (iI (t 13 6 ((k - 7))))), .int (iI ((k : Int))), .ref (w.1 16 6)]) (c_X8_across (xl X) w t (iI (t 13 6 (k - 15))) 18) lk_X8_339 rfl (by rw [hR]; exact ⟨Nat.le_of_ble_eq_true rfl, Nat.le_of_ble_eq_true rfl⟩) ⟨Nat.zero_le _, Nat.zero_le _⟩ rfl (Nat.le_of_ble_eq_true rfl) (atL dAX8_block_1 43 rfl) (fun q152 z152 g152 => ?_)
      obtain ⟨g152a, g152b⟩ := g152
      rw [g152b]
      rw [show wI q152 = some (.int (rt (iI (t 13 6 (k - 15))) 18)) from congrArg (fun z => some (Value.int z)) g152a]
      show V X _ w _ _ t [.int (rt (iI (t 13 6 (k - 15))) 18), .int (rt (iI (t 13 6 (k - 15))) 7), .int ((((rt (iI (t 13 6 (k - 2))) 17) ^^^ (rt (iI (t 13 6 (k - 2))) 19)) ^^^ (us (iI (t 13 6 ((k - 2)))) (iI (10)))) + (iI (t 13 6 ((k - 7))))), .int (iI ((k : Int))), .ref (w.1 16 6)]
      refine v_ixor hX (r := (rt (iI (t 13 6 (k - 15))) 7) ^^^ (rt (iI (t 13 6 (k - 15))) 18)) rfl (atL dAX8_block_1 44 rfl) ?_
      refine v_iload_n hX 1 rfl (atL dAX8_block_1 45 rfl) ?_
      refine v_iconst hX (atL dAX8_block_1 46 rfl) ?_
      refine v_iushr hX (r := us (iI (t 13 6 ((k - 15)))) (iI (3))) rfl (atL dAX8_block_1 47 rfl) ?_
      refine v_ixor hX (r := ((rt (iI (t 13 6 (k - 15))) 7) ^^^ (rt (iI (t 13 6 (k - 15))) 18)) ^^^ (us (iI (t 13 6 ((k - 15)))) (iI (3)))) rfl (atL dAX8_block_1 48 rfl) ?_
      refine v_iadd hX (r := ((((rt (iI (t 13 6 (k - 2))) 17) ^^^ (rt (iI (t 13 6 (k - 2))) 19)) ^^^ (us (iI (t 13 6 ((k - 2)))) (iI (10)))) + (iI (t 13 6 ((k - 7))))) + (((rt (iI (t 13 6 (k - 15))) 7) ^^^ (rt (iI (t 13 6 (k - 15))) 18)) ^^^ (us (iI (t 13 6 ((k - 15)))) (iI (3))))) rfl (atL dAX8_block_1 49 rfl) ?_
      refine v_aload_n hX 3 rfl (atL dAX8_block_1 50 rfl) ?_
      refine gf_X8_101 hX hk0 (atL dAX8_block_1 51 rfl) ?_
      refine v_iload_n hX 2 rfl (atL dAX8_block_1 52 rfl) ?_
      refine v_bipush hX (by decide +kernel) (atL dAX8_block_1 53 rfl) ?_
      refine v_isub hX (iI_sub _ _) (atL dAX8_block_1 54 rfl) ?_
      refine v_iald hX (r := iI (t 13 6 ((k - 16)))) ((k - 16)) (hQ16 6 (by simp [mn, tp])) (fun _ => rfl) (by omega) (show k - 16 < 64 by omega) (by decide) (congrArg iI (rfl)) (atL dAX8_block_1 55 rfl) ?_
      refine v_iadd hX (r := (((((rt (iI (t 13 6 (k - 2))) 17) ^^^ (rt (iI (t 13 6 (k - 2))) 19)) ^^^ (us (iI (t 13 6 ((k - 2)))) (iI (10)))) + (iI (t 13 6 ((k - 7))))) + (((rt (iI (t 13 6 (k - 15))) 7) ^^^ (rt (iI (t 13 6 (k - 15))) 18)) ^^^ (us (iI (t 13 6 ((k - 15)))) (iI (3))))) + (iI (t 13 6 ((k - 16))))) rfl (atL dAX8_block_1 56 rfl) ?_
      refine v_iastR hX (c := 13) k (hQ16 6 (by simp [mn, tp])) (by decide) (fun _ _ => rfl) rfl (show k < 64 by omega) (by decide) (atL dAX8_block_1 57 rfl) ?_
      refine v_iinc hX (lv' := [(2, .int (iI (((k : Int)) + 1))), (4, .int (iI (t 13 6 ((k - 2))))), (3, .int (iI (t 13 6 ((k - 15))))), (0, .ref (w.1 13 0)), (1, .int (iI ((fr : Int))))]) 2 rfl (iI_add _ _) (Nat.le_of_ble_eq_true rfl) rfl (atL dAX8_block_1 58 rfl) ?_
      refine v_goto hX (tgt := 81) (atL dAX8_block_1 59 rfl) (by decide) ?_
      refine v_sub (lv' := [(2, .int (iI (((k : Int)) + 1))), (0, .ref (w.1 13 0)), (1, .int (iI ((fr : Int))))]) [0, 3, 4] rfl ?_
      rw [show (k : Int) + 1 = ((k + 1 : Nat) : Int) by omega]
      refine ih (k + 1) _ (by omega) (by omega) (fun j hj => ?_) (hf.tr' (Fr.su (by simp)))
      by_cases e : j = k
      · rw [e, wm_s, sch_hi (by omega), ← h6 (k - 2) (by omega), ← h6 (k - 7) (by omega), ← h6 (k - 15) (by omega), ← h6 (k - 16) (by omega)]; rfl
      · rw [wm_j e]; exact h6 j (by omega)
  have l1 : ∀ (d k : Nat) (t : St), k + d = 16 → (∀ j, j < k → wm t 6 j = wdd D fr j) → Fr [(13, 6)] σ t → V X (0, 0) w 2 [(2, .int (iI ((k : Int)))), (0, .ref (w.1 13 0)), (1, .int (iI ((fr : Int))))] t [] := by
    intro d
    induction d with
    | zero =>
      intro k t hk h6 hf
      obtain rfl : k = 16 := by omega
      refine v_iload_n hX 0 rfl (atL dAX8_block_0 2 rfl) ?_
      refine v_bipush hX (by decide +kernel) (atL dAX8_block_0 3 rfl) ?_
      refine v_icmp_ge hX ⟨by omega, by omega⟩ ⟨by omega, by omega⟩ (tgt := 78) (atL dAX8_block_0 4 rfl) (by decide) (fun h5 => ?_) (fun h5 => absurd h5 (by omega))
      refine v_bipush hX (by decide +kernel) (atL dAX8_block_0 58 rfl) ?_
      refine v_istore_n hX (i := 2) rfl (lv' := [(2, .int (iI (16))), (0, .ref (w.1 13 0)), (1, .int (iI ((fr : Int))))]) (Nat.le_of_ble_eq_true rfl) rfl (atL dAX8_block_0 59 rfl) ?_
      refine v_sub (lv' := [(2, .int (iI (16))), (0, .ref (w.1 13 0)), (1, .int (iI ((fr : Int))))]) [0, 1, 2] rfl ?_
      exact l2 48 16 t (by omega) (by omega) (fun j hj => by rw [h6 j hj, sch_lo hj]) hf
    | succ d ih =>
      intro k t hk h6 hf
      have hx0 : t 13 4 (fr + 4 * k) = ((D.getD (fr + 4 * k) 0 : Nat) : Int) := by rw [hf 13 4 (by simp)]; exact hD.get (by omega)
      have hx1 : t 13 4 (fr + 4 * k + 1) = ((D.getD (fr + 4 * k + 1) 0 : Nat) : Int) := by rw [hf 13 4 (by simp)]; exact hD.get (by omega)
      have hx2 : t 13 4 (fr + 4 * k + 2) = ((D.getD (fr + 4 * k + 2) 0 : Nat) : Int) := by rw [hf 13 4 (by simp)]; exact hD.get (by omega)
      have hx3 : t 13 4 (fr + 4 * k + 3) = ((D.getD (fr + 4 * k + 3) 0 : Nat) : Int) := by rw [hf 13 4 (by simp)]; exact hD.get (by omega)
      refine v_iload_n hX 0 rfl (atL dAX8_block_0 2 rfl) ?_
      refine v_bipush hX (by decide +kernel) (atL dAX8_block_0 3 rfl) ?_
      refine v_icmp_ge hX ⟨by omega, by omega⟩ ⟨by omega, by omega⟩ (tgt := 78) (atL dAX8_block_0 4 rfl) (by decide) (fun h5 => absurd h5 (by omega)) (fun h5 => ?_)
      refine v_aload_n hX 1 rfl (atL dAX8_block_0 5 rfl) ?_
      refine gf_X8_101 hX hk0 (atL dAX8_block_0 6 rfl) ?_
      refine v_iload_n hX 0 rfl (atL dAX8_block_0 7 rfl) ?_
      refine v_aload_n hX 1 rfl (atL dAX8_block_0 8 rfl) ?_
      refine gf_X8_95 hX hk0 (atL dAX8_block_0 9 rfl) ?_
      refine v_iload_n hX 2 rfl (atL dAX8_block_0 10 rfl) ?_
      refine v_iconst hX (atL dAX8_block_0 11 rfl) ?_
      refine v_iload_n hX 0 rfl (atL dAX8_block_0 12 rfl) ?_
      refine v_imul hX (iI_mul _ _) (atL dAX8_block_0 13 rfl) ?_
      refine v_iadd hX (iI_add _ _) (atL dAX8_block_0 14 rfl) ?_
      refine v_iald hX (r := iI (((D.getD (fr + 4 * k) 0 : Nat) : Int))) ((fr + 4 * k)) (hQ16 4 (by simp [mn, tp])) (fun _ => rfl) (by omega) (show fr + 4 * k < 700 by omega) (by decide) (congrArg iI hx0) (atL dAX8_block_0 15 rfl) ?_
      refine v_bipush hX (by decide +kernel) (atL dAX8_block_0 16 rfl) ?_
      refine v_ishl hX (r := iI ((((D.getD (fr + 4 * k) 0 : Nat) : Int)) * 16777216)) (iI_shl _ 24 (by decide)) (atL dAX8_block_0 17 rfl) ?_
      refine v_aload_n hX 1 rfl (atL dAX8_block_0 18 rfl) ?_
      refine gf_X8_95 hX hk0 (atL dAX8_block_0 19 rfl) ?_
      refine v_iload_n hX 2 rfl (atL dAX8_block_0 20 rfl) ?_
      refine v_iconst hX (atL dAX8_block_0 21 rfl) ?_
      refine v_iload_n hX 0 rfl (atL dAX8_block_0 22 rfl) ?_
      refine v_imul hX (iI_mul _ _) (atL dAX8_block_0 23 rfl) ?_
      refine v_iadd hX (iI_add _ _) (atL dAX8_block_0 24 rfl) ?_
      refine v_iconst hX (atL dAX8_block_0 25 rfl) ?_
      refine v_iadd hX (iI_add _ _) (atL dAX8_block_0 26 rfl) ?_
      refine v_iald hX (r := iI (((D.getD (fr + 4 * k + 1) 0 : Nat) : Int))) ((fr + 4 * k + 1)) (hQ16 4 (by simp [mn, tp])) (fun _ => rfl) (by omega) (show fr + 4 * k + 1 < 700 by omega) (by decide) (congrArg iI hx1) (atL dAX8_block_0 27 rfl) ?_
      refine v_bipush hX (by decide +kernel) (atL dAX8_block_0 28 rfl) ?_
      refine v_ishl hX (r := iI ((((D.getD (fr + 4 * k + 1) 0 : Nat) : Int)) * 65536)) (iI_shl _ 16 (by decide)) (atL dAX8_block_0 29 rfl) ?_
      refine v_ior hX (r := (iI ((((D.getD (fr + 4 * k) 0 : Nat) : Int)) * 16777216)) ||| (iI ((((D.getD (fr + 4 * k + 1) 0 : Nat) : Int)) * 65536))) rfl (atL dAX8_block_0 30 rfl) ?_
      refine v_aload_n hX 1 rfl (atL dAX8_block_0 31 rfl) ?_
      refine gf_X8_95 hX hk0 (atL dAX8_block_0 32 rfl) ?_
      refine v_iload_n hX 2 rfl (atL dAX8_block_0 33 rfl) ?_
      refine v_iconst hX (atL dAX8_block_0 34 rfl) ?_
      refine v_iload_n hX 0 rfl (atL dAX8_block_0 35 rfl) ?_
      refine v_imul hX (iI_mul _ _) (atL dAX8_block_0 36 rfl) ?_
      refine v_iadd hX (iI_add _ _) (atL dAX8_block_0 37 rfl) ?_
      refine v_iconst hX (atL dAX8_block_0 38 rfl) ?_
      refine v_iadd hX (iI_add _ _) (atL dAX8_block_0 39 rfl) ?_
      refine v_iald hX (r := iI (((D.getD (fr + 4 * k + 2) 0 : Nat) : Int))) ((fr + 4 * k + 2)) (hQ16 4 (by simp [mn, tp])) (fun _ => rfl) (by omega) (show fr + 4 * k + 2 < 700 by omega) (by decide) (congrArg iI hx2) (atL dAX8_block_0 40 rfl) ?_
      refine v_bipush hX (by decide +kernel) (atL dAX8_block_0 41 rfl) ?_
      refine v_ishl hX (r := iI ((((D.getD (fr + 4 * k + 2) 0 : Nat) : Int)) * 256)) (iI_shl _ 8 (by decide)) (atL dAX8_block_0 42 rfl) ?_
      refine v_ior hX (r := ((iI ((((D.getD (fr + 4 * k) 0 : Nat) : Int)) * 16777216)) ||| (iI ((((D.getD (fr + 4 * k + 1) 0 : Nat) : Int)) * 65536))) ||| (iI ((((D.getD (fr + 4 * k + 2) 0 : Nat) : Int)) * 256))) rfl (atL dAX8_block_0 43 rfl) ?_
      refine v_aload_n hX 1 rfl (atL dAX8_block_0 44 rfl) ?_
      refine gf_X8_95 hX hk0 (atL dAX8_block_0 45 rfl) ?_
      refine v_iload_n hX 2 rfl (atL dAX8_block_0 46 rfl) ?_
      refine v_iconst hX (atL dAX8_block_0 47 rfl) ?_
      refine v_iload_n hX 0 rfl (atL dAX8_block_0 48 rfl) ?_
      refine v_imul hX (iI_mul _ _) (atL dAX8_block_0 49 rfl) ?_
      refine v_iadd hX (iI_add _ _) (atL dAX8_block_0 50 rfl) ?_
      refine v_iconst hX (atL dAX8_block_0 51 rfl) ?_
      refine v_iadd hX (iI_add _ _) (atL dAX8_block_0 52 rfl) ?_
      refine v_iald hX (r := iI (((D.getD (fr + 4 * k + 3) 0 : Nat) : Int))) ((fr + 4 * k + 3)) (hQ16 4 (by simp [mn, tp])) (fun _ => rfl) (by omega) (show fr + 4 * k + 3 < 700 by omega) (by decide) (congrArg iI hx3) (atL dAX8_block_0 53 rfl) ?_
      refine v_ior hX (r := (((iI ((((D.getD (fr + 4 * k) 0 : Nat) : Int)) * 16777216)) ||| (iI ((((D.getD (fr + 4 * k + 1) 0 : Nat) : Int)) * 65536))) ||| (iI ((((D.getD (fr + 4 * k + 2) 0 : Nat) : Int)) * 256))) ||| (iI (((D.getD (fr + 4 * k + 3) 0 : Nat) : Int)))) rfl (atL dAX8_block_0 54 rfl) ?_
      refine v_iastR hX (c := 13) k (hQ16 6 (by simp [mn, tp])) (by decide) (fun _ _ => rfl) rfl (show k < 64 by omega) (by decide) (atL dAX8_block_0 55 rfl) ?_
      refine v_iinc hX (lv' := [(2, .int (iI (((k : Int)) + 1))), (0, .ref (w.1 13 0)), (1, .int (iI ((fr : Int))))]) 0 rfl (iI_add _ _) (Nat.le_of_ble_eq_true rfl) rfl (atL dAX8_block_0 56 rfl) ?_
      refine v_goto hX (tgt := 2) (atL dAX8_block_0 57 rfl) (by decide) ?_
      refine v_sub (lv' := [(2, .int (iI (((k : Int)) + 1))), (0, .ref (w.1 13 0)), (1, .int (iI ((fr : Int))))]) [0, 1, 2] rfl ?_
      rw [show (k : Int) + 1 = ((k + 1 : Nat) : Int) by omega]
      refine ih (k + 1) _ (by omega) (fun j hj => ?_) (hf.tr' (Fr.su (by simp)))
      by_cases e : j = k
      · rw [e, wm_s]; rfl
      · rw [wm_j e]; exact h6 j (by omega)
  refine v_iconst hX (atL dAX8_block_0 0 rfl) ?_
  refine v_istore_n hX (i := 2) rfl (lv' := [(2, .int (iI (0))), (0, .ref (w.1 13 0)), (1, .int (iI ((fr : Int))))]) (Nat.le_of_ble_eq_true rfl) rfl (atL dAX8_block_0 1 rfl) ?_
  refine v_sub (lv' := [(2, .int (iI (0))), (0, .ref (w.1 13 0)), (1, .int (iI ((fr : Int))))]) [0, 1, 2] rfl ?_
  exact l1 16 0 σ (by omega) (fun j hj => absurd hj (by omega)) Fr.rf
