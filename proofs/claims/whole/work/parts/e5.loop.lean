/-! the law, from call to call -/
set_option maxHeartbeats 2000000 in
set_option maxRecDepth 100000 in
theorem law_loop {p : Program} {l : Launch} {e : Env} {s : State} {m : MethodId} {below : List Frame} {meth : Method} {c : Code} {b L : Nat} {sc : Nat → Int32} {D : va_G} {g : Nat → ClassId} (hX : okX (lawX p l e s m below meth c b D g) code 7 RL ret) (hst : l.stackTraces = false) (hN : va_Nc eA eI s) (hS : XS (lawX p l e s m below meth c b D g) b L sc) (hL : L ≤ 3584) : ∀ (d n : Nat), 7 * n ≤ L → L ≤ 7 * n + 7 * d → NX (lawX p l e s m below meth c b D g) b n := by
  intro d
  induction d with
  | zero =>
    intro n hn hd G z w σ A hG hI hZ
    refine v_iload hX 0 rfl (atL dAL_law_0 13 rfl) ?_
    refine v_aload_n hX 4 rfl (atL dAL_law_0 14 rfl) ?_
    refine v_sclen hX hS (atL dAL_law_0 15 rfl) ?_
    refine v_bipush hX (by decide +kernel) (atL dAL_law_0 16 rfl) ?_
    refine v_isub hX (iI_sub _ _) (atL dAL_law_0 17 rfl) ?_
    refine v_icmp_gt hX ⟨by omega, by omega⟩ ⟨by omega, by omega⟩ (tgt := 2317) (atL dAL_law_0 18 rfl) (by decide) (fun h30 => ?_) (fun h30 => absurd h30 (by omega))
    refine v_iconst hX (atL dAL_law_25 16 rfl) ?_
    exact v_lawret hX ⟨by have := hZ.1; omega, by have := hZ.2; omega⟩ (atL dAL_law_25 17 rfl)
  | succ d ih =>
    intro n hn hd G z w σ A hG hI hZ
    refine v_iload hX 0 rfl (atL dAL_law_0 13 rfl) ?_
    refine v_aload_n hX 4 rfl (atL dAL_law_0 14 rfl) ?_
    refine v_sclen hX hS (atL dAL_law_0 15 rfl) ?_
    refine v_bipush hX (by decide +kernel) (atL dAL_law_0 16 rfl) ?_
    refine v_isub hX (iI_sub _ _) (atL dAL_law_0 17 rfl) ?_
    refine v_icmp_gt hX ⟨by omega, by omega⟩ ⟨by omega, by omega⟩ (tgt := 2317) (atL dAL_law_0 18 rfl) (by decide) (fun h30 => ?_) (fun h30 => ?_)
    · refine v_iconst hX (atL dAL_law_25 16 rfl) ?_
      exact v_lawret hX ⟨by have := hZ.1; omega, by have := hZ.2; omega⟩ (atL dAL_law_25 17 rfl)
    · have hn7 : 7 * n + 7 ≤ L := by omega
      have hnx := ih (n + 1) (by omega) (by omega)
      refine v_aload_n hX 4 rfl (atL dAL_law_0 19 rfl) ?_
      refine v_iload hX 0 rfl (atL dAL_law_0 20 rfl) ?_
      refine v_scld hX hS (7 * n) (by omega) (by omega) hL (atL dAL_law_0 21 rfl) ?_
      obtain ⟨v, hv⟩ : ∃ q, q = (sc (7 * n)).toInt := ⟨_, rfl⟩
      rw [← hv]
      refine v_bipush hX (by decide +kernel) (atL dAL_law_0 22 rfl) ?_
      refine v_iand hX (r := iI (v % 32)) (iI_mask _ 5 (by decide)) (atL dAL_law_0 23 rfl) ?_
      rcases (show v % 32 = 0 ∨ v % 32 = 1 ∨ v % 32 = 2 ∨ v % 32 = 3 ∨ v % 32 = 4 ∨ v % 32 = 5 ∨ v % 32 = 6 ∨ v % 32 = 7 ∨ v % 32 = 8 ∨ v % 32 = 9 ∨ v % 32 = 10 ∨ v % 32 = 11 ∨ v % 32 = 12 ∨ v % 32 = 13 ∨ v % 32 = 14 ∨ v % 32 = 15 ∨ v % 32 = 16 ∨ v % 32 = 17 ∨ v % 32 = 18 ∨ v % 32 = 19 ∨ v % 32 = 20 ∨ v % 32 = 21 ∨ v % 32 = 22 ∨ v % 32 = 23 ∨ v % 32 = 24 ∨ v % 32 = 25 ∨ v % 32 = 26 ∨ (v % 32 < 0 ∨ 26 < v % 32) by omega) with tq | tq | tq | tq | tq | tq | tq | tq | tq | tq | tq | tq | tq | tq | tq | tq | tq | tq | tq | tq | tq | tq | tq | tq | tq | tq | tq | tq
      · exact v_tsIn hX (c := 0) tq ⟨by omega, by omega⟩ (atL dAL_law_0 24 rfl) (by decide) (by decide) rfl (tgt := 164) (by decide) (case_feed hX rfl hst hN hS hL hn7 hG hI hZ hnx)
      · exact v_tsIn hX (c := 1) tq ⟨by omega, by omega⟩ (atL dAL_law_0 24 rfl) (by decide) (by decide) rfl (tgt := 237) (by decide) (case_load hX rfl hst hN hS hL hn7 hG hI hZ hnx)
      · exact v_tsIn hX (c := 2) tq ⟨by omega, by omega⟩ (atL dAL_law_0 24 rfl) (by decide) (by decide) rfl (tgt := 285) (by decide) (case_size hX rfl hst hN hS hL hn7 hG hI hZ hnx)
      · exact v_tsIn hX (c := 3) tq ⟨by omega, by omega⟩ (atL dAL_law_0 24 rfl) (by decide) (by decide) rfl (tgt := 341) (by decide) (case_octet hX rfl hst hN hS hL hn7 hG hI hZ hnx)
      · exact v_tsIn hX (c := 4) tq ⟨by omega, by omega⟩ (atL dAL_law_0 24 rfl) (by decide) (by decide) rfl (tgt := 409) (by decide) (case_cut hX rfl hst hN hS hL hn7 hG hI hZ hnx)
      · exact v_tsIn hX (c := 5) tq ⟨by omega, by omega⟩ (atL dAL_law_0 24 rfl) (by decide) (by decide) rfl (tgt := 501) (by decide) (case_join hX rfl hst hN hS hL hn7 hG hI hZ hnx)
      · exact v_tsIn hX (c := 6) tq ⟨by omega, by omega⟩ (atL dAL_law_0 24 rfl) (by decide) (by decide) rfl (tgt := 581) (by decide) (case_change hX rfl hst hN hS hL hn7 hG hI hZ hnx)
      · exact v_tsIn hX (c := 7) tq ⟨by omega, by omega⟩ (atL dAL_law_0 24 rfl) (by decide) (by decide) rfl (tgt := 661) (by decide) (case_calc hX rfl hst hN hS hL hn7 hG hI hZ hnx)
      · exact v_tsIn hX (c := 8) tq ⟨by omega, by omega⟩ (atL dAL_law_0 24 rfl) (by decide) (by decide) rfl (tgt := 765) (by decide) (case_compare hX rfl hst hN hS hL hn7 hG hI hZ hnx)
      · exact v_tsIn hX (c := 9) tq ⟨by omega, by omega⟩ (atL dAL_law_0 24 rfl) (by decide) (by decide) rfl (tgt := 833) (by decide) (case_bits hX rfl hst hN hS hL hn7 hG hI hZ hnx)
      · exact v_tsIn hX (c := 10) tq ⟨by omega, by omega⟩ (atL dAL_law_0 24 rfl) (by decide) (by decide) rfl (tgt := 889) (by decide) (case_probable hX rfl hst hN hS hL hn7 hG hI hZ hnx)
      · exact v_tsIn hX (c := 11) tq ⟨by omega, by omega⟩ (atL dAL_law_0 24 rfl) (by decide) (by decide) rfl (tgt := 952) (by decide) (case_next hX rfl hst hN hS hL hn7 hG hI hZ hnx)
      · exact v_tsIn hX (c := 12) tq ⟨by omega, by omega⟩ (atL dAL_law_0 24 rfl) (by decide) (by decide) rfl (tgt := 1020) (by decide) (case_digest hX rfl hst hN hS hL hn7 hG hI hZ hnx)
      · exact v_tsIn hX (c := 13) tq ⟨by omega, by omega⟩ (atL dAL_law_0 24 rfl) (by decide) (by decide) rfl (tgt := 1100) (by decide) (case_mask hX rfl hst hN hS hL hn7 hG hI hZ hnx)
      · exact v_tsIn hX (c := 14) tq ⟨by omega, by omega⟩ (atL dAL_law_0 24 rfl) (by decide) (by decide) rfl (tgt := 1192) (by decide) (case_key hX rfl hst hN hS hL hn7 hG hI hZ hnx)
      · exact v_tsIn hX (c := 15) tq ⟨by omega, by omega⟩ (atL dAL_law_0 24 rfl) (by decide) (by decide) rfl (tgt := 1272) (by decide) (case_open hX rfl hst hN hS hL hn7 hG hI hZ hnx)
      · exact v_tsIn hX (c := 16) tq ⟨by omega, by omega⟩ (atL dAL_law_0 24 rfl) (by decide) (by decide) rfl (tgt := 1340) (by decide) (case_part hX rfl hst hN hS hL hn7 hG hI hZ hnx)
      · exact v_tsIn hX (c := 17) tq ⟨by omega, by omega⟩ (atL dAL_law_0 24 rfl) (by decide) (by decide) rfl (tgt := 1420) (by decide) (case_turn hX rfl hst hN hS hL hn7 hG hI hZ hnx)
      · exact v_tsIn hX (c := 18) tq ⟨by omega, by omega⟩ (atL dAL_law_0 24 rfl) (by decide) (by decide) rfl (tgt := 1512) (by decide) (case_hide hX rfl hst hN hS hL hn7 hG hI hZ hnx)
      · exact v_tsIn hX (c := 19) tq ⟨by omega, by omega⟩ (atL dAL_law_0 24 rfl) (by decide) (by decide) rfl (tgt := 1630) (by decide) (case_show hX rfl hst hN hS hL hn7 hG hI hZ hnx)
      · exact v_tsIn hX (c := 20) tq ⟨by omega, by omega⟩ (atL dAL_law_0 24 rfl) (by decide) (by decide) rfl (tgt := 1734) (by decide) (case_fill hX rfl hst hN hS hL hn7 hG hI hZ hnx)
      · exact v_tsIn hX (c := 21) tq ⟨by omega, by omega⟩ (atL dAL_law_0 24 rfl) (by decide) (by decide) rfl (tgt := 1826) (by decide) (case_empty hX rfl hst hN hS hL hn7 hG hI hZ hnx)
      · exact v_tsIn hX (c := 22) tq ⟨by omega, by omega⟩ (atL dAL_law_0 24 rfl) (by decide) (by decide) rfl (tgt := 1906) (by decide) (case_sign hX rfl hst hN hS hL hn7 hG hI hZ hnx)
      · exact v_tsIn hX (c := 23) tq ⟨by omega, by omega⟩ (atL dAL_law_0 24 rfl) (by decide) (by decide) rfl (tgt := 1998) (by decide) (case_prove hX rfl hst hN hS hL hn7 hG hI hZ hnx)
      · exact v_tsIn hX (c := 24) tq ⟨by omega, by omega⟩ (atL dAL_law_0 24 rfl) (by decide) (by decide) rfl (tgt := 2090) (by decide) (case_salt hX rfl hst hN hS hL hn7 hG hI hZ hnx)
      · exact v_tsIn hX (c := 25) tq ⟨by omega, by omega⟩ (atL dAL_law_0 24 rfl) (by decide) (by decide) rfl (tgt := 2194) (by decide) (case_taste hX rfl hst hN hS hL hn7 hG hI hZ hnx)
      · exact v_tsIn hX (c := 26) tq ⟨by omega, by omega⟩ (atL dAL_law_0 24 rfl) (by decide) (by decide) rfl (tgt := 2298) (by decide) (case_keys hX rfl hst hN hS hL hn7 hG hI hZ hnx)
      · refine v_tsOut hX ⟨by omega, by omega⟩ tq (atL dAL_law_0 24 rfl) (tgt := 2311) (by decide) ?_
        exact v_fin hX (cn_next (mc := 0) (ms := 0) hnx hG hZ (by decide) (by decide) hI)
