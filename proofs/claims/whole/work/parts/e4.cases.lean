/-! the law, call by call -/
set_option maxHeartbeats 1000000 in
set_option maxRecDepth 100000 in
theorem case_feed [G : Gh] {X : CX} (hX : okX X code 7 RL ret) (hR : xR X = room_1) (hst : (xl X).stackTraces = false) (hN : va_Nc eA eI (xs X)) {b L : Nat} {sc : Nat → Int32} (hS : XS X b L sc) (hL : L ≤ 3584) {n : Nat} (hn : 7 * n + 7 ≤ L) (hG : ghk = 0 ∨ ghk = 1) {z : Nat × Nat} {w : Wl} {σ : St} {A : Ab} (hI : LwS w σ A) (hZ : ZB n z) (nx : NX X b (n + 1)) : V X z w 164 (lvw w b n) σ [] := by
  obtain ⟨hH, hM, hK, h0, h13, h18, h19⟩ := hI
  have z1 : z.1 ≤ 40000 := by have := hZ.1; omega
  have z2 : z.2 ≤ 600000 := by have := hZ.2; omega
  obtain ⟨p1, hp1⟩ : ∃ q, q = (sc (7 * n + 1)).toInt := ⟨_, rfl⟩
  have hr1 : rI p1 := by rw [hp1]; exact rI_of _
  obtain ⟨p2, hp2⟩ : ∃ q, q = (sc (7 * n + 2)).toInt := ⟨_, rfl⟩
  have hr2 : rI p2 := by rw [hp2]; exact rI_of _
  obtain ⟨p3, hp3⟩ : ∃ q, q = (sc (7 * n + 3)).toInt := ⟨_, rfl⟩
  have hr3 : rI p3 := by rw [hp3]; exact rI_of _
  obtain ⟨p4, hp4⟩ : ∃ q, q = (sc (7 * n + 4)).toInt := ⟨_, rfl⟩
  have hr4 : rI p4 := by rw [hp4]; exact rI_of _
  obtain ⟨p5, hp5⟩ : ∃ q, q = (sc (7 * n + 5)).toInt := ⟨_, rfl⟩
  have hr5 : rI p5 := by rw [hp5]; exact rI_of _
  refine v_aload_n hX 3 rfl (atL dAL_law_0 25 rfl) ?_
  refine v_aload_n hX 4 rfl (atL dAL_law_0 26 rfl) ?_
  refine v_iload hX 0 rfl (atL dAL_law_0 27 rfl) ?_
  refine v_iconst hX (atL dAL_law_0 28 rfl) ?_
  refine v_iadd hX (iI_add _ _) (atL dAL_law_0 29 rfl) ?_
  refine v_scld hX hS (7 * n + 1) (by omega) (by omega) hL (atL dAL_law_0 30 rfl) ?_
  rw [← hp1]
  refine v_aload_n hX 4 rfl (atL dAL_law_0 31 rfl) ?_
  refine v_iload hX 0 rfl (atL dAL_law_0 32 rfl) ?_
  refine v_iconst hX (atL dAL_law_0 33 rfl) ?_
  refine v_iadd hX (iI_add _ _) (atL dAL_law_0 34 rfl) ?_
  refine v_scld hX hS (7 * n + 2) (by omega) (by omega) hL (atL dAL_law_0 35 rfl) ?_
  rw [← hp2]
  refine v_aload_n hX 4 rfl (atL dAL_law_0 36 rfl) ?_
  refine v_iload hX 0 rfl (atL dAL_law_0 37 rfl) ?_
  refine v_iconst hX (atL dAL_law_0 38 rfl) ?_
  refine v_iadd hX (iI_add _ _) (atL dAL_law_0 39 rfl) ?_
  refine v_scld hX hS (7 * n + 3) (by omega) (by omega) hL (atL dAL_law_0 40 rfl) ?_
  rw [← hp3]
  refine v_aload_n hX 4 rfl (atL dAL_law_0 41 rfl) ?_
  refine v_iload hX 0 rfl (atL dAL_law_0 42 rfl) ?_
  refine v_iconst hX (atL dAL_law_0 43 rfl) ?_
  refine v_iadd hX (iI_add _ _) (atL dAL_law_0 44 rfl) ?_
  refine v_scld hX hS (7 * n + 4) (by omega) (by omega) hL (atL dAL_law_0 45 rfl) ?_
  rw [← hp4]
  refine v_aload_n hX 4 rfl (atL dAL_law_0 46 rfl) ?_
  refine v_iload hX 0 rfl (atL dAL_law_0 47 rfl) ?_
  refine v_iconst hX (atL dAL_law_0 48 rfl) ?_
  refine v_iadd hX (iI_add _ _) (atL dAL_law_0 49 rfl) ?_
  refine v_scld hX hS (7 * n + 5) (by omega) (by omega) hL (atL dAL_law_0 50 rfl) ?_
  rw [← hp5]
  refine v_callV hX (As := [.int (iI p1), .int (iI p2), .int (iI p3), .int (iI p4), .int (iI p5)]) (rest := []) (c_X6_feed (xl X) w σ h0 A hH p1 hr1 p2 hr2 p3 hr3 p4 hr4 p5 hr5) lk_L_100 h0 (fun _ => rfl) rfl rfl rfl (by rw [hR]; exact ⟨Nat.le_of_ble_eq_true rfl, Nat.le_of_ble_eq_true rfl⟩) (by rw [hR]; exact ⟨by show z.1 ≤ 601024; omega, by show z.2 ≤ 7293034; omega⟩) rfl (Nat.le_of_ble_eq_true rfl) (atL dAL_law_0 51 rfl) (fun a1 s1 hq1 => ?_)
  obtain ⟨A1, hR1, hH1, hF1⟩ := hq1
  have hM1 : HM s1 A := hM.eq (fun c h1 _ => hF1 c h1)
  show V X _ w _ _ s1 [.int (iI a1)]
  refine v_aload_n hX 2 rfl (atL dAL_law_0 52 rfl) ?_
  refine v_aload_n hX 4 rfl (atL dAL_law_0 53 rfl) ?_
  refine v_iload hX 0 rfl (atL dAL_law_0 54 rfl) ?_
  refine v_iconst hX (atL dAL_law_0 55 rfl) ?_
  refine v_iadd hX (iI_add _ _) (atL dAL_law_0 56 rfl) ?_
  refine v_scld hX hS (7 * n + 1) (by omega) (by omega) hL (atL dAL_law_0 57 rfl) ?_
  rw [← hp1]
  refine v_aload_n hX 4 rfl (atL dAL_law_0 58 rfl) ?_
  refine v_iload hX 0 rfl (atL dAL_law_0 59 rfl) ?_
  refine v_iconst hX (atL dAL_law_1 0 rfl) ?_
  refine v_iadd hX (iI_add _ _) (atL dAL_law_1 1 rfl) ?_
  refine v_scld hX hS (7 * n + 2) (by omega) (by omega) hL (atL dAL_law_1 2 rfl) ?_
  rw [← hp2]
  refine v_aload_n hX 4 rfl (atL dAL_law_1 3 rfl) ?_
  refine v_iload hX 0 rfl (atL dAL_law_1 4 rfl) ?_
  refine v_iconst hX (atL dAL_law_1 5 rfl) ?_
  refine v_iadd hX (iI_add _ _) (atL dAL_law_1 6 rfl) ?_
  refine v_scld hX hS (7 * n + 3) (by omega) (by omega) hL (atL dAL_law_1 7 rfl) ?_
  rw [← hp3]
  refine v_aload_n hX 4 rfl (atL dAL_law_1 8 rfl) ?_
  refine v_iload hX 0 rfl (atL dAL_law_1 9 rfl) ?_
  refine v_iconst hX (atL dAL_law_1 10 rfl) ?_
  refine v_iadd hX (iI_add _ _) (atL dAL_law_1 11 rfl) ?_
  refine v_scld hX hS (7 * n + 4) (by omega) (by omega) hL (atL dAL_law_1 12 rfl) ?_
  rw [← hp4]
  refine v_aload_n hX 4 rfl (atL dAL_law_1 13 rfl) ?_
  refine v_iload hX 0 rfl (atL dAL_law_1 14 rfl) ?_
  refine v_iconst hX (atL dAL_law_1 15 rfl) ?_
  refine v_iadd hX (iI_add _ _) (atL dAL_law_1 16 rfl) ?_
  refine v_scld hX hS (7 * n + 5) (by omega) (by omega) hL (atL dAL_law_1 17 rfl) ?_
  rw [← hp5]
  refine v_callV hX (As := [.int (iI p1), .int (iI p2), .int (iI p3), .int (iI p4), .int (iI p5)]) (rest := [.int (iI a1)]) (c_X8_feed (xl X) w s1 h13 A hM1 p1 hr1 p2 hr2 p3 hr3 p4 hr4 p5 hr5) lk_L_103 h13 (fun _ => rfl) rfl rfl rfl (by rw [hR]; exact ⟨Nat.le_of_ble_eq_true rfl, Nat.le_of_ble_eq_true rfl⟩) (by rw [hR]; exact ⟨by show z.1 ≤ 601024; omega, by show z.2 ≤ 7293034; omega⟩) rfl (Nat.le_of_ble_eq_true rfl) (atL dAL_law_1 18 rfl) (fun b2 s2 hq2 => ?_)
  show V X _ w _ _ s2 [.int (iI b2), .int (iI a1)]
  obtain ⟨A2, hR2, hM2, hC2⟩ := hq2
  obtain ⟨ek, ea, eA⟩ := res_eq (hR1.symm.trans hR2)
  subst ea
  subst eA
  have hH2 : HS s2 A1 := hH1.eq (fun c hc => funext fun i => hC2 c i (Or.inl hc))
  rw [← iI_oI a1]
  have hK2 : KW w A1.2.1 := by rw [show A1.2.1 = (f_feed A p1 p2 p3 p4 p5).2.2.2.1 by rw [hR1], kc_feed]; exact hK
  refine v_icmp_eq hX (rI_oI a1) (rI_oI a1) (tgt := 2311) (atL dAL_law_1 19 rfl) (by decide) (fun _ => ?_) (fun h => absurd rfl h)
  exact v_fin hX (cn_next (mc := 0) (ms := 0) nx hG hZ (by decide) (by decide) ⟨hH2, hM2, hK2, h0, h13, h18, h19⟩)

set_option maxHeartbeats 1000000 in
set_option maxRecDepth 100000 in
theorem case_load [G : Gh] {X : CX} (hX : okX X code 7 RL ret) (hR : xR X = room_1) (hst : (xl X).stackTraces = false) (hN : va_Nc eA eI (xs X)) {b L : Nat} {sc : Nat → Int32} (hS : XS X b L sc) (hL : L ≤ 3584) {n : Nat} (hn : 7 * n + 7 ≤ L) (hG : ghk = 0 ∨ ghk = 1) {z : Nat × Nat} {w : Wl} {σ : St} {A : Ab} (hI : LwS w σ A) (hZ : ZB n z) (nx : NX X b (n + 1)) : V X z w 237 (lvw w b n) σ [] := by
  obtain ⟨hH, hM, hK, h0, h13, h18, h19⟩ := hI
  have z1 : z.1 ≤ 40000 := by have := hZ.1; omega
  have z2 : z.2 ≤ 600000 := by have := hZ.2; omega
  obtain ⟨p1, hp1⟩ : ∃ q, q = (sc (7 * n + 1)).toInt := ⟨_, rfl⟩
  have hr1 : rI p1 := by rw [hp1]; exact rI_of _
  obtain ⟨p2, hp2⟩ : ∃ q, q = (sc (7 * n + 2)).toInt := ⟨_, rfl⟩
  have hr2 : rI p2 := by rw [hp2]; exact rI_of _
  refine v_aload_n hX 3 rfl (atL dAL_law_1 22 rfl) ?_
  refine v_aload_n hX 4 rfl (atL dAL_law_1 23 rfl) ?_
  refine v_iload hX 0 rfl (atL dAL_law_1 24 rfl) ?_
  refine v_iconst hX (atL dAL_law_1 25 rfl) ?_
  refine v_iadd hX (iI_add _ _) (atL dAL_law_1 26 rfl) ?_
  refine v_scld hX hS (7 * n + 1) (by omega) (by omega) hL (atL dAL_law_1 27 rfl) ?_
  rw [← hp1]
  refine v_aload_n hX 4 rfl (atL dAL_law_1 28 rfl) ?_
  refine v_iload hX 0 rfl (atL dAL_law_1 29 rfl) ?_
  refine v_iconst hX (atL dAL_law_1 30 rfl) ?_
  refine v_iadd hX (iI_add _ _) (atL dAL_law_1 31 rfl) ?_
  refine v_scld hX hS (7 * n + 2) (by omega) (by omega) hL (atL dAL_law_1 32 rfl) ?_
  rw [← hp2]
  refine v_callSH hX (As := [.ref (w.1 0 0), .int (iI p1), .int (iI p2)]) (rest := []) (c_L_load (xl X) hst w σ h0 h18 A hH hK p1 hr1 p2 hr2) hN lh_load rfl (by rw [hR]; exact ⟨Nat.le_of_ble_eq_true rfl, Nat.le_of_ble_eq_true rfl⟩) (by rw [hR]; exact ⟨by show z.1 + 2 ≤ 601024; omega, by show z.2 + 12 ≤ 7293034; omega⟩) rfl (Nat.le_of_ble_eq_true rfl) (atL dAL_law_1 33 rfl) (fun k1 w1 s1 hq1 => ?_)
  obtain ⟨a1, A1, hR1, hH1, hF1, ho1, hW1, hK1, hk1⟩ := hq1
  have hM1 : HM s1 A := hM.eq (fun c h1 h2 => hF1 c h1 (by omega) (by omega))
  have g0 := (hW1.1 0 0 h0).1
  have g13 := (hW1.1 13 0 h13).1
  have g18 := (hW1.1 18 0 h18).1
  have g19 : ∀ q, ¬ w1.2 19 q := fun q hq => (hW1.2 19 q hq).elim (h19 q) (fun h => by omega)
  show V X (z.1 + 2, z.2 + 12) w1 _ (lvw w b n) s1 [.int (iI k1)]
  have e0 := (hW1.1 0 0 h0).2
  have e13 := (hW1.1 13 0 h13).2
  have e18 := (hW1.1 18 0 h18).2
  rw [show lvw w b n = lvw w1 b n by show [_, _, _, _, _] = [_, _, _, _, _]; rw [e0, e13, e18]]
  refine v_istore hX (lv' := [(5, .int (iI k1)), (4, .int (iI (7 * (n : Int)))), (3, .ref (w1.1 18 0)), (2, .ref (w1.1 13 0)), (1, .ref (w1.1 0 0)), (0, .ref b)]) (Nat.le_of_ble_eq_true rfl) rfl (atL dAL_law_1 34 rfl) ?_
  refine v_aload_n hX 3 rfl (atL dAL_law_1 35 rfl) ?_
  refine v_aload_n hX 5 rfl (atL dAL_law_1 36 rfl) ?_
  refine v_iload hX 1 rfl (atL dAL_law_1 37 rfl) ?_
  refine v_iconst hX (atL dAL_law_1 38 rfl) ?_
  refine v_iadd hX (iI_add _ _) (atL dAL_law_1 39 rfl) ?_
  refine v_scld hX hS (7 * n + 1) (by omega) (by omega) hL (atL dAL_law_1 40 rfl) ?_
  rw [← hp1]
  refine v_aload_n hX 5 rfl (atL dAL_law_1 41 rfl) ?_
  refine v_iload hX 1 rfl (atL dAL_law_1 42 rfl) ?_
  refine v_iconst hX (atL dAL_law_1 43 rfl) ?_
  refine v_iadd hX (iI_add _ _) (atL dAL_law_1 44 rfl) ?_
  refine v_scld hX hS (7 * n + 2) (by omega) (by omega) hL (atL dAL_law_1 45 rfl) ?_
  rw [← hp2]
  refine v_callV hX (As := [.int (iI p1), .int (iI p2)]) (rest := []) (c_X8_load (xl X) w1 s1 g13 A hM1 p1 hr1 p2 hr2) lk_L_109 g13 (fun _ => rfl) rfl rfl rfl (by rw [hR]; exact ⟨Nat.le_of_ble_eq_true rfl, Nat.le_of_ble_eq_true rfl⟩) (by rw [hR]; exact ⟨by show z.1 + 2 ≤ 601024; omega, by show z.2 + 12 ≤ 7293034; omega⟩) rfl (Nat.le_of_ble_eq_true rfl) (atL dAL_law_1 46 rfl) (fun b2 s2 hq2 => ?_)
  obtain ⟨A2, hR2, hM2, hC2⟩ := hq2
  obtain ⟨ek, ea, eA⟩ := res_eq (uq_res hR1 hR2)
  subst eA
  have hH2 : HS s2 A1 := hH1.eq (fun c hc => funext fun i => hC2 c i (Or.inl hc))
  have fin : V X (z.1 + 2, z.2 + 12) w1 2311 (lvw w1 b n) s2 [] := v_fin hX (cn_next (mc := 2) (ms := 12) nx hG hZ (by decide) (by decide) ⟨hH2, hM2, hK1, g0, g13, g18, g19⟩)
  have hzq : ((z.1 + 2, z.2 + 12) : Nat × Nat).1 ≤ 601024 ∧ ((z.1 + 2, z.2 + 12) : Nat × Nat).2 ≤ 7293034 := ⟨by show z.1 + 2 ≤ 601024; omega, by show z.2 + 12 ≤ 7293034; omega⟩
  show V X (z.1 + 2, z.2 + 12) w1 _ _ s2 []
  refine v_aload_n hX 3 rfl (atL dAL_law_1 47 rfl) ?_
  refine v_callV hX (As := []) (rest := []) (c_X8_thrown (xl X) w1 s2 g13) lk_L_110 g13 (fun _ => rfl) rfl rfl rfl (by rw [hR]; exact ⟨Nat.le_of_ble_eq_true rfl, Nat.le_of_ble_eq_true rfl⟩) (by rw [hR]; exact hzq) rfl (Nat.le_of_ble_eq_true rfl) (atL dAL_law_1 48 rfl) (fun r3 s3 hq3 => ?_)
  obtain ⟨er, es⟩ := hq3
  rw [es, er, ← ek]
  show V X (z.1 + 2, z.2 + 12) w1 _ _ s2 [.int (iI k1)]
  refine v_iload hX 0 rfl (atL dAL_law_1 49 rfl) ?_
  refine v_icmp_eq hX ⟨by omega, by omega⟩ ⟨by omega, by omega⟩ (tgt := 282) (atL dAL_law_1 50 rfl) (by decide) (fun _ => ?_) (fun h => absurd rfl h)
  refine v_goto hX (tgt := 2311) (atL dAL_law_1 53 rfl) (by decide) ?_
  exact v_sub (lv' := lvw w1 b n) [1, 2, 3, 4, 5] rfl fin

set_option maxHeartbeats 1000000 in
set_option maxRecDepth 100000 in
theorem case_size [G : Gh] {X : CX} (hX : okX X code 7 RL ret) (hR : xR X = room_1) (hst : (xl X).stackTraces = false) (hN : va_Nc eA eI (xs X)) {b L : Nat} {sc : Nat → Int32} (hS : XS X b L sc) (hL : L ≤ 3584) {n : Nat} (hn : 7 * n + 7 ≤ L) (hG : ghk = 0 ∨ ghk = 1) {z : Nat × Nat} {w : Wl} {σ : St} {A : Ab} (hI : LwS w σ A) (hZ : ZB n z) (nx : NX X b (n + 1)) : V X z w 285 (lvw w b n) σ [] := by
  obtain ⟨hH, hM, hK, h0, h13, h18, h19⟩ := hI
  have z1 : z.1 ≤ 40000 := by have := hZ.1; omega
  have z2 : z.2 ≤ 600000 := by have := hZ.2; omega
  obtain ⟨p1, hp1⟩ : ∃ q, q = (sc (7 * n + 1)).toInt := ⟨_, rfl⟩
  have hr1 : rI p1 := by rw [hp1]; exact rI_of _
  refine v_aload_n hX 3 rfl (atL dAL_law_1 54 rfl) ?_
  refine v_aload_n hX 4 rfl (atL dAL_law_1 55 rfl) ?_
  refine v_iload hX 0 rfl (atL dAL_law_1 56 rfl) ?_
  refine v_iconst hX (atL dAL_law_1 57 rfl) ?_
  refine v_iadd hX (iI_add _ _) (atL dAL_law_1 58 rfl) ?_
  refine v_scld hX hS (7 * n + 1) (by omega) (by omega) hL (atL dAL_law_1 59 rfl) ?_
  rw [← hp1]
  refine v_aload_n hX 1 rfl (atL dAL_law_2 0 rfl) ?_
  refine v_callSH hX (As := [.ref (w.1 0 0), .int (iI p1), .ref (w.1 18 0)]) (rest := []) (c_L_size (xl X) hst w σ h0 h18 A hH hK p1 hr1) hN lh_size rfl (by rw [hR]; exact ⟨Nat.le_of_ble_eq_true rfl, Nat.le_of_ble_eq_true rfl⟩) (by rw [hR]; exact ⟨by show z.1 + 1 ≤ 601024; omega, by show z.2 + 6 ≤ 7293034; omega⟩) rfl (Nat.le_of_ble_eq_true rfl) (atL dAL_law_2 1 rfl) (fun k1 w1 s1 hq1 => ?_)
  obtain ⟨a1, A1, hR1, hH1, hF1, ho1, hW1, hK1, hk1⟩ := hq1
  have hM1 : HM s1 A := hM.eq (fun c h1 h2 => hF1 c h1 (by omega) (by omega))
  have g0 := (hW1.1 0 0 h0).1
  have g13 := (hW1.1 13 0 h13).1
  have g18 := (hW1.1 18 0 h18).1
  have g19 : ∀ q, ¬ w1.2 19 q := fun q hq => (hW1.2 19 q hq).elim (h19 q) (fun h => by omega)
  show V X (z.1 + 1, z.2 + 6) w1 _ (lvw w b n) s1 [.int (iI k1)]
  have e0 := (hW1.1 0 0 h0).2
  have e13 := (hW1.1 13 0 h13).2
  have e18 := (hW1.1 18 0 h18).2
  rw [show lvw w b n = lvw w1 b n by show [_, _, _, _, _] = [_, _, _, _, _]; rw [e0, e13, e18]]
  refine v_istore hX (lv' := [(5, .int (iI k1)), (4, .int (iI (7 * (n : Int)))), (3, .ref (w1.1 18 0)), (2, .ref (w1.1 13 0)), (1, .ref (w1.1 0 0)), (0, .ref b)]) (Nat.le_of_ble_eq_true rfl) rfl (atL dAL_law_2 2 rfl) ?_
  refine v_aload_n hX 3 rfl (atL dAL_law_2 3 rfl) ?_
  refine v_aload_n hX 5 rfl (atL dAL_law_2 4 rfl) ?_
  refine v_iload hX 1 rfl (atL dAL_law_2 5 rfl) ?_
  refine v_iconst hX (atL dAL_law_2 6 rfl) ?_
  refine v_iadd hX (iI_add _ _) (atL dAL_law_2 7 rfl) ?_
  refine v_scld hX hS (7 * n + 1) (by omega) (by omega) hL (atL dAL_law_2 8 rfl) ?_
  rw [← hp1]
  refine v_callV hX (As := [.int (iI p1)]) (rest := []) (c_X8_size (xl X) w1 s1 g13 A hM1 p1 hr1) lk_L_117 g13 (fun _ => rfl) rfl rfl rfl (by rw [hR]; exact ⟨Nat.le_of_ble_eq_true rfl, Nat.le_of_ble_eq_true rfl⟩) (by rw [hR]; exact ⟨by show z.1 + 1 ≤ 601024; omega, by show z.2 + 6 ≤ 7293034; omega⟩) rfl (Nat.le_of_ble_eq_true rfl) (atL dAL_law_2 9 rfl) (fun b2 s2 hq2 => ?_)
  obtain ⟨A2, hR2, hM2, hC2⟩ := hq2
  obtain ⟨ek, ea, eA⟩ := res_eq (uq_res hR1 hR2)
  subst eA
  subst ea
  have hH2 : HS s2 A1 := hH1.eq (fun c hc => funext fun i => hC2 c i (Or.inl hc))
  have fin : V X (z.1 + 1, z.2 + 6) w1 2311 (lvw w1 b n) s2 [] := v_fin hX (cn_next (mc := 1) (ms := 6) nx hG hZ (by decide) (by decide) ⟨hH2, hM2, hK1, g0, g13, g18, g19⟩)
  have hzq : ((z.1 + 1, z.2 + 6) : Nat × Nat).1 ≤ 601024 ∧ ((z.1 + 1, z.2 + 6) : Nat × Nat).2 ≤ 7293034 := ⟨by show z.1 + 1 ≤ 601024; omega, by show z.2 + 6 ≤ 7293034; omega⟩
  show V X (z.1 + 1, z.2 + 6) w1 _ _ s2 [.int (iI a1)]
  refine v_istore hX (lv' := [(6, .int (iI a1)), (5, .int (iI k1)), (4, .int (iI (7 * (n : Int)))), (3, .ref (w1.1 18 0)), (2, .ref (w1.1 13 0)), (1, .ref (w1.1 0 0)), (0, .ref b)]) (Nat.le_of_ble_eq_true rfl) rfl (atL dAL_law_2 10 rfl) ?_
  refine v_aload_n hX 4 rfl (atL dAL_law_2 11 rfl) ?_
  refine v_callV hX (As := []) (rest := []) (c_X8_thrown (xl X) w1 s2 g13) lk_L_110 g13 (fun _ => rfl) rfl rfl rfl (by rw [hR]; exact ⟨Nat.le_of_ble_eq_true rfl, Nat.le_of_ble_eq_true rfl⟩) (by rw [hR]; exact hzq) rfl (Nat.le_of_ble_eq_true rfl) (atL dAL_law_2 12 rfl) (fun r3 s3 hq3 => ?_)
  obtain ⟨er, es⟩ := hq3
  rw [es, er, ← ek]
  show V X (z.1 + 1, z.2 + 6) w1 _ _ s2 [.int (iI k1)]
  refine v_iload hX 1 rfl (atL dAL_law_2 13 rfl) ?_
  refine v_icmp_eq hX ⟨by omega, by omega⟩ ⟨by omega, by omega⟩ (tgt := 321) (atL dAL_law_2 14 rfl) (by decide) (fun _ => ?_) (fun h => absurd rfl h)
  refine v_iload hX 1 rfl (atL dAL_law_2 17 rfl) ?_
  refine v_if_ne hX ⟨by omega, by omega⟩ (tgt := 338) (atL dAL_law_2 18 rfl) (by decide) (fun hkk => ?_) (fun hkk => ?_)
  · refine v_goto hX (tgt := 2311) (atL dAL_law_2 28 rfl) (by decide) ?_
    exact v_sub (lv' := lvw w1 b n) [2, 3, 4, 5, 6] rfl fin
  · have hv : s2 15 0 0 = oI a1 := (congrFun (hC2 15 0 (Or.inr (Or.inl rfl))) 0).trans (ho1 hkk)
    refine v_aload_n hX 3 rfl (atL dAL_law_2 19 rfl) ?_
    refine v_iconst hX (atL dAL_law_2 20 rfl) ?_
    refine v_lald hX (r := jI (oI a1)) 0 g18 (fun _ => rfl) rfl (by decide) (by decide) (congrArg jI hv) (atL dAL_law_2 21 rfl) ?_
    refine v_iload hX 0 rfl (atL dAL_law_2 22 rfl) ?_
    refine v_i2l hX (i2l_of a1) (atL dAL_law_2 23 rfl) ?_
    refine v_lcmp_eq hX (rJ_oI a1) (rJ_oI a1) (atL dAL_law_2 24 rfl) (atL dAL_law_2 25 rfl) (tgt := 338) (by decide) (fun _ => ?_) (fun h => absurd rfl h)
    refine v_goto hX (tgt := 2311) (atL dAL_law_2 28 rfl) (by decide) ?_
    exact v_sub (lv' := lvw w1 b n) [2, 3, 4, 5, 6] rfl fin

set_option maxHeartbeats 1000000 in
set_option maxRecDepth 100000 in
theorem case_octet [G : Gh] {X : CX} (hX : okX X code 7 RL ret) (hR : xR X = room_1) (hst : (xl X).stackTraces = false) (hN : va_Nc eA eI (xs X)) {b L : Nat} {sc : Nat → Int32} (hS : XS X b L sc) (hL : L ≤ 3584) {n : Nat} (hn : 7 * n + 7 ≤ L) (hG : ghk = 0 ∨ ghk = 1) {z : Nat × Nat} {w : Wl} {σ : St} {A : Ab} (hI : LwS w σ A) (hZ : ZB n z) (nx : NX X b (n + 1)) : V X z w 341 (lvw w b n) σ [] := by
  obtain ⟨hH, hM, hK, h0, h13, h18, h19⟩ := hI
  have z1 : z.1 ≤ 40000 := by have := hZ.1; omega
  have z2 : z.2 ≤ 600000 := by have := hZ.2; omega
  obtain ⟨p1, hp1⟩ : ∃ q, q = (sc (7 * n + 1)).toInt := ⟨_, rfl⟩
  have hr1 : rI p1 := by rw [hp1]; exact rI_of _
  obtain ⟨p2, hp2⟩ : ∃ q, q = (sc (7 * n + 2)).toInt := ⟨_, rfl⟩
  have hr2 : rI p2 := by rw [hp2]; exact rI_of _
  refine v_aload_n hX 3 rfl (atL dAL_law_2 29 rfl) ?_
  refine v_aload_n hX 4 rfl (atL dAL_law_2 30 rfl) ?_
  refine v_iload hX 0 rfl (atL dAL_law_2 31 rfl) ?_
  refine v_iconst hX (atL dAL_law_2 32 rfl) ?_
  refine v_iadd hX (iI_add _ _) (atL dAL_law_2 33 rfl) ?_
  refine v_scld hX hS (7 * n + 1) (by omega) (by omega) hL (atL dAL_law_2 34 rfl) ?_
  rw [← hp1]
  refine v_aload_n hX 4 rfl (atL dAL_law_2 35 rfl) ?_
  refine v_iload hX 0 rfl (atL dAL_law_2 36 rfl) ?_
  refine v_iconst hX (atL dAL_law_2 37 rfl) ?_
  refine v_iadd hX (iI_add _ _) (atL dAL_law_2 38 rfl) ?_
  refine v_scld hX hS (7 * n + 2) (by omega) (by omega) hL (atL dAL_law_2 39 rfl) ?_
  rw [← hp2]
  refine v_aload_n hX 1 rfl (atL dAL_law_2 40 rfl) ?_
  refine v_callSH hX (As := [.ref (w.1 0 0), .int (iI p1), .int (iI p2), .ref (w.1 18 0)]) (rest := []) (c_L_octet (xl X) hst w σ h0 h18 A hH hK p1 hr1 p2 hr2) hN lh_octet rfl (by rw [hR]; exact ⟨Nat.le_of_ble_eq_true rfl, Nat.le_of_ble_eq_true rfl⟩) (by rw [hR]; exact ⟨by show z.1 + 1 ≤ 601024; omega, by show z.2 + 6 ≤ 7293034; omega⟩) rfl (Nat.le_of_ble_eq_true rfl) (atL dAL_law_2 41 rfl) (fun k1 w1 s1 hq1 => ?_)
  obtain ⟨a1, A1, hR1, hH1, hF1, ho1, hW1, hK1, hk1⟩ := hq1
  have hM1 : HM s1 A := hM.eq (fun c h1 h2 => hF1 c h1 (by omega) (by omega))
  have g0 := (hW1.1 0 0 h0).1
  have g13 := (hW1.1 13 0 h13).1
  have g18 := (hW1.1 18 0 h18).1
  have g19 : ∀ q, ¬ w1.2 19 q := fun q hq => (hW1.2 19 q hq).elim (h19 q) (fun h => by omega)
  show V X (z.1 + 1, z.2 + 6) w1 _ (lvw w b n) s1 [.int (iI k1)]
  have e0 := (hW1.1 0 0 h0).2
  have e13 := (hW1.1 13 0 h13).2
  have e18 := (hW1.1 18 0 h18).2
  rw [show lvw w b n = lvw w1 b n by show [_, _, _, _, _] = [_, _, _, _, _]; rw [e0, e13, e18]]
  refine v_istore hX (lv' := [(5, .int (iI k1)), (4, .int (iI (7 * (n : Int)))), (3, .ref (w1.1 18 0)), (2, .ref (w1.1 13 0)), (1, .ref (w1.1 0 0)), (0, .ref b)]) (Nat.le_of_ble_eq_true rfl) rfl (atL dAL_law_2 42 rfl) ?_
  refine v_aload_n hX 3 rfl (atL dAL_law_2 43 rfl) ?_
  refine v_aload_n hX 5 rfl (atL dAL_law_2 44 rfl) ?_
  refine v_iload hX 1 rfl (atL dAL_law_2 45 rfl) ?_
  refine v_iconst hX (atL dAL_law_2 46 rfl) ?_
  refine v_iadd hX (iI_add _ _) (atL dAL_law_2 47 rfl) ?_
  refine v_scld hX hS (7 * n + 1) (by omega) (by omega) hL (atL dAL_law_2 48 rfl) ?_
  rw [← hp1]
  refine v_aload_n hX 5 rfl (atL dAL_law_2 49 rfl) ?_
  refine v_iload hX 1 rfl (atL dAL_law_2 50 rfl) ?_
  refine v_iconst hX (atL dAL_law_2 51 rfl) ?_
  refine v_iadd hX (iI_add _ _) (atL dAL_law_2 52 rfl) ?_
  refine v_scld hX hS (7 * n + 2) (by omega) (by omega) hL (atL dAL_law_2 53 rfl) ?_
  rw [← hp2]
  refine v_callV hX (As := [.int (iI p1), .int (iI p2)]) (rest := []) (c_X8_octet (xl X) w1 s1 g13 A hM1 p1 hr1 p2 hr2) lk_L_121 g13 (fun _ => rfl) rfl rfl rfl (by rw [hR]; exact ⟨Nat.le_of_ble_eq_true rfl, Nat.le_of_ble_eq_true rfl⟩) (by rw [hR]; exact ⟨by show z.1 + 1 ≤ 601024; omega, by show z.2 + 6 ≤ 7293034; omega⟩) rfl (Nat.le_of_ble_eq_true rfl) (atL dAL_law_2 54 rfl) (fun b2 s2 hq2 => ?_)
  obtain ⟨A2, hR2, hM2, hC2⟩ := hq2
  obtain ⟨ek, ea, eA⟩ := res_eq (uq_res hR1 hR2)
  subst eA
  subst ea
  have hH2 : HS s2 A1 := hH1.eq (fun c hc => funext fun i => hC2 c i (Or.inl hc))
  have fin : V X (z.1 + 1, z.2 + 6) w1 2311 (lvw w1 b n) s2 [] := v_fin hX (cn_next (mc := 1) (ms := 6) nx hG hZ (by decide) (by decide) ⟨hH2, hM2, hK1, g0, g13, g18, g19⟩)
  have hzq : ((z.1 + 1, z.2 + 6) : Nat × Nat).1 ≤ 601024 ∧ ((z.1 + 1, z.2 + 6) : Nat × Nat).2 ≤ 7293034 := ⟨by show z.1 + 1 ≤ 601024; omega, by show z.2 + 6 ≤ 7293034; omega⟩
  show V X (z.1 + 1, z.2 + 6) w1 _ _ s2 [.int (iI a1)]
  refine v_istore hX (lv' := [(6, .int (iI a1)), (5, .int (iI k1)), (4, .int (iI (7 * (n : Int)))), (3, .ref (w1.1 18 0)), (2, .ref (w1.1 13 0)), (1, .ref (w1.1 0 0)), (0, .ref b)]) (Nat.le_of_ble_eq_true rfl) rfl (atL dAL_law_2 55 rfl) ?_
  refine v_aload_n hX 4 rfl (atL dAL_law_2 56 rfl) ?_
  refine v_callV hX (As := []) (rest := []) (c_X8_thrown (xl X) w1 s2 g13) lk_L_110 g13 (fun _ => rfl) rfl rfl rfl (by rw [hR]; exact ⟨Nat.le_of_ble_eq_true rfl, Nat.le_of_ble_eq_true rfl⟩) (by rw [hR]; exact hzq) rfl (Nat.le_of_ble_eq_true rfl) (atL dAL_law_2 57 rfl) (fun r3 s3 hq3 => ?_)
  obtain ⟨er, es⟩ := hq3
  rw [es, er, ← ek]
  show V X (z.1 + 1, z.2 + 6) w1 _ _ s2 [.int (iI k1)]
  refine v_iload hX 1 rfl (atL dAL_law_2 58 rfl) ?_
  refine v_icmp_eq hX ⟨by omega, by omega⟩ ⟨by omega, by omega⟩ (tgt := 389) (atL dAL_law_2 59 rfl) (by decide) (fun _ => ?_) (fun h => absurd rfl h)
  refine v_iload hX 1 rfl (atL dAL_law_3 2 rfl) ?_
  refine v_if_ne hX ⟨by omega, by omega⟩ (tgt := 406) (atL dAL_law_3 3 rfl) (by decide) (fun hkk => ?_) (fun hkk => ?_)
  · refine v_goto hX (tgt := 2311) (atL dAL_law_3 13 rfl) (by decide) ?_
    exact v_sub (lv' := lvw w1 b n) [2, 3, 4, 5, 6] rfl fin
  · have hv : s2 15 0 0 = oI a1 := (congrFun (hC2 15 0 (Or.inr (Or.inl rfl))) 0).trans (ho1 hkk)
    refine v_aload_n hX 3 rfl (atL dAL_law_3 4 rfl) ?_
    refine v_iconst hX (atL dAL_law_3 5 rfl) ?_
    refine v_lald hX (r := jI (oI a1)) 0 g18 (fun _ => rfl) rfl (by decide) (by decide) (congrArg jI hv) (atL dAL_law_3 6 rfl) ?_
    refine v_iload hX 0 rfl (atL dAL_law_3 7 rfl) ?_
    refine v_i2l hX (i2l_of a1) (atL dAL_law_3 8 rfl) ?_
    refine v_lcmp_eq hX (rJ_oI a1) (rJ_oI a1) (atL dAL_law_3 9 rfl) (atL dAL_law_3 10 rfl) (tgt := 406) (by decide) (fun _ => ?_) (fun h => absurd rfl h)
    refine v_goto hX (tgt := 2311) (atL dAL_law_3 13 rfl) (by decide) ?_
    exact v_sub (lv' := lvw w1 b n) [2, 3, 4, 5, 6] rfl fin

set_option maxHeartbeats 1000000 in
set_option maxRecDepth 100000 in
theorem case_cut [G : Gh] {X : CX} (hX : okX X code 7 RL ret) (hR : xR X = room_1) (hst : (xl X).stackTraces = false) (hN : va_Nc eA eI (xs X)) {b L : Nat} {sc : Nat → Int32} (hS : XS X b L sc) (hL : L ≤ 3584) {n : Nat} (hn : 7 * n + 7 ≤ L) (hG : ghk = 0 ∨ ghk = 1) {z : Nat × Nat} {w : Wl} {σ : St} {A : Ab} (hI : LwS w σ A) (hZ : ZB n z) (nx : NX X b (n + 1)) : V X z w 409 (lvw w b n) σ [] := by
  obtain ⟨hH, hM, hK, h0, h13, h18, h19⟩ := hI
  have z1 : z.1 ≤ 40000 := by have := hZ.1; omega
  have z2 : z.2 ≤ 600000 := by have := hZ.2; omega
  obtain ⟨p1, hp1⟩ : ∃ q, q = (sc (7 * n + 1)).toInt := ⟨_, rfl⟩
  have hr1 : rI p1 := by rw [hp1]; exact rI_of _
  obtain ⟨p2, hp2⟩ : ∃ q, q = (sc (7 * n + 2)).toInt := ⟨_, rfl⟩
  have hr2 : rI p2 := by rw [hp2]; exact rI_of _
  obtain ⟨p3, hp3⟩ : ∃ q, q = (sc (7 * n + 3)).toInt := ⟨_, rfl⟩
  have hr3 : rI p3 := by rw [hp3]; exact rI_of _
  obtain ⟨p4, hp4⟩ : ∃ q, q = (sc (7 * n + 4)).toInt := ⟨_, rfl⟩
  have hr4 : rI p4 := by rw [hp4]; exact rI_of _
  refine v_aload_n hX 3 rfl (atL dAL_law_3 14 rfl) ?_
  refine v_aload_n hX 4 rfl (atL dAL_law_3 15 rfl) ?_
  refine v_iload hX 0 rfl (atL dAL_law_3 16 rfl) ?_
  refine v_iconst hX (atL dAL_law_3 17 rfl) ?_
  refine v_iadd hX (iI_add _ _) (atL dAL_law_3 18 rfl) ?_
  refine v_scld hX hS (7 * n + 1) (by omega) (by omega) hL (atL dAL_law_3 19 rfl) ?_
  rw [← hp1]
  refine v_aload_n hX 4 rfl (atL dAL_law_3 20 rfl) ?_
  refine v_iload hX 0 rfl (atL dAL_law_3 21 rfl) ?_
  refine v_iconst hX (atL dAL_law_3 22 rfl) ?_
  refine v_iadd hX (iI_add _ _) (atL dAL_law_3 23 rfl) ?_
  refine v_scld hX hS (7 * n + 2) (by omega) (by omega) hL (atL dAL_law_3 24 rfl) ?_
  rw [← hp2]
  refine v_aload_n hX 4 rfl (atL dAL_law_3 25 rfl) ?_
  refine v_iload hX 0 rfl (atL dAL_law_3 26 rfl) ?_
  refine v_iconst hX (atL dAL_law_3 27 rfl) ?_
  refine v_iadd hX (iI_add _ _) (atL dAL_law_3 28 rfl) ?_
  refine v_scld hX hS (7 * n + 3) (by omega) (by omega) hL (atL dAL_law_3 29 rfl) ?_
  rw [← hp3]
  refine v_aload_n hX 4 rfl (atL dAL_law_3 30 rfl) ?_
  refine v_iload hX 0 rfl (atL dAL_law_3 31 rfl) ?_
  refine v_iconst hX (atL dAL_law_3 32 rfl) ?_
  refine v_iadd hX (iI_add _ _) (atL dAL_law_3 33 rfl) ?_
  refine v_scld hX hS (7 * n + 4) (by omega) (by omega) hL (atL dAL_law_3 34 rfl) ?_
  rw [← hp4]
  refine v_aload_n hX 1 rfl (atL dAL_law_3 35 rfl) ?_
  refine v_callSH hX (As := [.ref (w.1 0 0), .int (iI p1), .int (iI p2), .int (iI p3), .int (iI p4), .ref (w.1 18 0)]) (rest := []) (c_L_cut (xl X) hst w σ h0 h18 A hH hK p1 hr1 p2 hr2 p3 hr3 p4 hr4) hN lh_cut rfl (by rw [hR]; exact ⟨Nat.le_of_ble_eq_true rfl, Nat.le_of_ble_eq_true rfl⟩) (by rw [hR]; exact ⟨by show z.1 + 3 ≤ 601024; omega, by show z.2 + 18 ≤ 7293034; omega⟩) rfl (Nat.le_of_ble_eq_true rfl) (atL dAL_law_3 36 rfl) (fun k1 w1 s1 hq1 => ?_)
  obtain ⟨a1, A1, hR1, hH1, hF1, ho1, hW1, hK1, hk1⟩ := hq1
  have hM1 : HM s1 A := hM.eq (fun c h1 h2 => hF1 c h1 (by omega) (by omega))
  have g0 := (hW1.1 0 0 h0).1
  have g13 := (hW1.1 13 0 h13).1
  have g18 := (hW1.1 18 0 h18).1
  have g19 : ∀ q, ¬ w1.2 19 q := fun q hq => (hW1.2 19 q hq).elim (h19 q) (fun h => by omega)
  show V X (z.1 + 3, z.2 + 18) w1 _ (lvw w b n) s1 [.int (iI k1)]
  have e0 := (hW1.1 0 0 h0).2
  have e13 := (hW1.1 13 0 h13).2
  have e18 := (hW1.1 18 0 h18).2
  rw [show lvw w b n = lvw w1 b n by show [_, _, _, _, _] = [_, _, _, _, _]; rw [e0, e13, e18]]
  refine v_istore hX (lv' := [(5, .int (iI k1)), (4, .int (iI (7 * (n : Int)))), (3, .ref (w1.1 18 0)), (2, .ref (w1.1 13 0)), (1, .ref (w1.1 0 0)), (0, .ref b)]) (Nat.le_of_ble_eq_true rfl) rfl (atL dAL_law_3 37 rfl) ?_
  refine v_aload_n hX 3 rfl (atL dAL_law_3 38 rfl) ?_
  refine v_aload_n hX 5 rfl (atL dAL_law_3 39 rfl) ?_
  refine v_iload hX 1 rfl (atL dAL_law_3 40 rfl) ?_
  refine v_iconst hX (atL dAL_law_3 41 rfl) ?_
  refine v_iadd hX (iI_add _ _) (atL dAL_law_3 42 rfl) ?_
  refine v_scld hX hS (7 * n + 1) (by omega) (by omega) hL (atL dAL_law_3 43 rfl) ?_
  rw [← hp1]
  refine v_aload_n hX 5 rfl (atL dAL_law_3 44 rfl) ?_
  refine v_iload hX 1 rfl (atL dAL_law_3 45 rfl) ?_
  refine v_iconst hX (atL dAL_law_3 46 rfl) ?_
  refine v_iadd hX (iI_add _ _) (atL dAL_law_3 47 rfl) ?_
  refine v_scld hX hS (7 * n + 2) (by omega) (by omega) hL (atL dAL_law_3 48 rfl) ?_
  rw [← hp2]
  refine v_aload_n hX 5 rfl (atL dAL_law_3 49 rfl) ?_
  refine v_iload hX 1 rfl (atL dAL_law_3 50 rfl) ?_
  refine v_iconst hX (atL dAL_law_3 51 rfl) ?_
  refine v_iadd hX (iI_add _ _) (atL dAL_law_3 52 rfl) ?_
  refine v_scld hX hS (7 * n + 3) (by omega) (by omega) hL (atL dAL_law_3 53 rfl) ?_
  rw [← hp3]
  refine v_aload_n hX 5 rfl (atL dAL_law_3 54 rfl) ?_
  refine v_iload hX 1 rfl (atL dAL_law_3 55 rfl) ?_
  refine v_iconst hX (atL dAL_law_3 56 rfl) ?_
  refine v_iadd hX (iI_add _ _) (atL dAL_law_3 57 rfl) ?_
  refine v_scld hX hS (7 * n + 4) (by omega) (by omega) hL (atL dAL_law_3 58 rfl) ?_
  rw [← hp4]
  refine v_callV hX (As := [.int (iI p1), .int (iI p2), .int (iI p3), .int (iI p4)]) (rest := []) (c_X8_cut (xl X) w1 s1 g13 A hM1 p1 hr1 p2 hr2 p3 hr3 p4 hr4) lk_L_125 g13 (fun _ => rfl) rfl rfl rfl (by rw [hR]; exact ⟨Nat.le_of_ble_eq_true rfl, Nat.le_of_ble_eq_true rfl⟩) (by rw [hR]; exact ⟨by show z.1 + 3 ≤ 601024; omega, by show z.2 + 18 ≤ 7293034; omega⟩) rfl (Nat.le_of_ble_eq_true rfl) (atL dAL_law_3 59 rfl) (fun b2 s2 hq2 => ?_)
  obtain ⟨A2, hR2, hM2, hC2⟩ := hq2
  obtain ⟨ek, ea, eA⟩ := res_eq (uq_res hR1 hR2)
  subst eA
  subst ea
  have hH2 : HS s2 A1 := hH1.eq (fun c hc => funext fun i => hC2 c i (Or.inl hc))
  have fin : V X (z.1 + 3, z.2 + 18) w1 2311 (lvw w1 b n) s2 [] := v_fin hX (cn_next (mc := 3) (ms := 18) nx hG hZ (by decide) (by decide) ⟨hH2, hM2, hK1, g0, g13, g18, g19⟩)
  have hzq : ((z.1 + 3, z.2 + 18) : Nat × Nat).1 ≤ 601024 ∧ ((z.1 + 3, z.2 + 18) : Nat × Nat).2 ≤ 7293034 := ⟨by show z.1 + 3 ≤ 601024; omega, by show z.2 + 18 ≤ 7293034; omega⟩
  show V X (z.1 + 3, z.2 + 18) w1 _ _ s2 [.int (iI a1)]
  refine v_istore hX (lv' := [(6, .int (iI a1)), (5, .int (iI k1)), (4, .int (iI (7 * (n : Int)))), (3, .ref (w1.1 18 0)), (2, .ref (w1.1 13 0)), (1, .ref (w1.1 0 0)), (0, .ref b)]) (Nat.le_of_ble_eq_true rfl) rfl (atL dAL_law_4 0 rfl) ?_
  refine v_aload_n hX 4 rfl (atL dAL_law_4 1 rfl) ?_
  refine v_callV hX (As := []) (rest := []) (c_X8_thrown (xl X) w1 s2 g13) lk_L_110 g13 (fun _ => rfl) rfl rfl rfl (by rw [hR]; exact ⟨Nat.le_of_ble_eq_true rfl, Nat.le_of_ble_eq_true rfl⟩) (by rw [hR]; exact hzq) rfl (Nat.le_of_ble_eq_true rfl) (atL dAL_law_4 2 rfl) (fun r3 s3 hq3 => ?_)
  obtain ⟨er, es⟩ := hq3
  rw [es, er, ← ek]
  show V X (z.1 + 3, z.2 + 18) w1 _ _ s2 [.int (iI k1)]
  refine v_iload hX 1 rfl (atL dAL_law_4 3 rfl) ?_
  refine v_icmp_eq hX ⟨by omega, by omega⟩ ⟨by omega, by omega⟩ (tgt := 481) (atL dAL_law_4 4 rfl) (by decide) (fun _ => ?_) (fun h => absurd rfl h)
  refine v_iload hX 1 rfl (atL dAL_law_4 7 rfl) ?_
  refine v_if_ne hX ⟨by omega, by omega⟩ (tgt := 498) (atL dAL_law_4 8 rfl) (by decide) (fun hkk => ?_) (fun hkk => ?_)
  · refine v_goto hX (tgt := 2311) (atL dAL_law_4 18 rfl) (by decide) ?_
    exact v_sub (lv' := lvw w1 b n) [2, 3, 4, 5, 6] rfl fin
  · have hv : s2 15 0 0 = oI a1 := (congrFun (hC2 15 0 (Or.inr (Or.inl rfl))) 0).trans (ho1 hkk)
    refine v_aload_n hX 3 rfl (atL dAL_law_4 9 rfl) ?_
    refine v_iconst hX (atL dAL_law_4 10 rfl) ?_
    refine v_lald hX (r := jI (oI a1)) 0 g18 (fun _ => rfl) rfl (by decide) (by decide) (congrArg jI hv) (atL dAL_law_4 11 rfl) ?_
    refine v_iload hX 0 rfl (atL dAL_law_4 12 rfl) ?_
    refine v_i2l hX (i2l_of a1) (atL dAL_law_4 13 rfl) ?_
    refine v_lcmp_eq hX (rJ_oI a1) (rJ_oI a1) (atL dAL_law_4 14 rfl) (atL dAL_law_4 15 rfl) (tgt := 498) (by decide) (fun _ => ?_) (fun h => absurd rfl h)
    refine v_goto hX (tgt := 2311) (atL dAL_law_4 18 rfl) (by decide) ?_
    exact v_sub (lv' := lvw w1 b n) [2, 3, 4, 5, 6] rfl fin

set_option maxHeartbeats 1000000 in
set_option maxRecDepth 100000 in
theorem case_join [G : Gh] {X : CX} (hX : okX X code 7 RL ret) (hR : xR X = room_1) (hst : (xl X).stackTraces = false) (hN : va_Nc eA eI (xs X)) {b L : Nat} {sc : Nat → Int32} (hS : XS X b L sc) (hL : L ≤ 3584) {n : Nat} (hn : 7 * n + 7 ≤ L) (hG : ghk = 0 ∨ ghk = 1) {z : Nat × Nat} {w : Wl} {σ : St} {A : Ab} (hI : LwS w σ A) (hZ : ZB n z) (nx : NX X b (n + 1)) : V X z w 501 (lvw w b n) σ [] := by
  obtain ⟨hH, hM, hK, h0, h13, h18, h19⟩ := hI
  have z1 : z.1 ≤ 40000 := by have := hZ.1; omega
  have z2 : z.2 ≤ 600000 := by have := hZ.2; omega
  obtain ⟨p1, hp1⟩ : ∃ q, q = (sc (7 * n + 1)).toInt := ⟨_, rfl⟩
  have hr1 : rI p1 := by rw [hp1]; exact rI_of _
  obtain ⟨p2, hp2⟩ : ∃ q, q = (sc (7 * n + 2)).toInt := ⟨_, rfl⟩
  have hr2 : rI p2 := by rw [hp2]; exact rI_of _
  obtain ⟨p3, hp3⟩ : ∃ q, q = (sc (7 * n + 3)).toInt := ⟨_, rfl⟩
  have hr3 : rI p3 := by rw [hp3]; exact rI_of _
  refine v_aload_n hX 3 rfl (atL dAL_law_4 19 rfl) ?_
  refine v_aload_n hX 4 rfl (atL dAL_law_4 20 rfl) ?_
  refine v_iload hX 0 rfl (atL dAL_law_4 21 rfl) ?_
  refine v_iconst hX (atL dAL_law_4 22 rfl) ?_
  refine v_iadd hX (iI_add _ _) (atL dAL_law_4 23 rfl) ?_
  refine v_scld hX hS (7 * n + 1) (by omega) (by omega) hL (atL dAL_law_4 24 rfl) ?_
  rw [← hp1]
  refine v_aload_n hX 4 rfl (atL dAL_law_4 25 rfl) ?_
  refine v_iload hX 0 rfl (atL dAL_law_4 26 rfl) ?_
  refine v_iconst hX (atL dAL_law_4 27 rfl) ?_
  refine v_iadd hX (iI_add _ _) (atL dAL_law_4 28 rfl) ?_
  refine v_scld hX hS (7 * n + 2) (by omega) (by omega) hL (atL dAL_law_4 29 rfl) ?_
  rw [← hp2]
  refine v_aload_n hX 4 rfl (atL dAL_law_4 30 rfl) ?_
  refine v_iload hX 0 rfl (atL dAL_law_4 31 rfl) ?_
  refine v_iconst hX (atL dAL_law_4 32 rfl) ?_
  refine v_iadd hX (iI_add _ _) (atL dAL_law_4 33 rfl) ?_
  refine v_scld hX hS (7 * n + 3) (by omega) (by omega) hL (atL dAL_law_4 34 rfl) ?_
  rw [← hp3]
  refine v_aload_n hX 1 rfl (atL dAL_law_4 35 rfl) ?_
  refine v_callSH hX (As := [.ref (w.1 0 0), .int (iI p1), .int (iI p2), .int (iI p3), .ref (w.1 18 0)]) (rest := []) (c_L_join (xl X) hst w σ h0 h18 A hH hK p1 hr1 p2 hr2 p3 hr3) hN lh_join rfl (by rw [hR]; exact ⟨Nat.le_of_ble_eq_true rfl, Nat.le_of_ble_eq_true rfl⟩) (by rw [hR]; exact ⟨by show z.1 + 3 ≤ 601024; omega, by show z.2 + 18 ≤ 7293034; omega⟩) rfl (Nat.le_of_ble_eq_true rfl) (atL dAL_law_4 36 rfl) (fun k1 w1 s1 hq1 => ?_)
  obtain ⟨a1, A1, hR1, hH1, hF1, ho1, hW1, hK1, hk1⟩ := hq1
  have hM1 : HM s1 A := hM.eq (fun c h1 h2 => hF1 c h1 (by omega) (by omega))
  have g0 := (hW1.1 0 0 h0).1
  have g13 := (hW1.1 13 0 h13).1
  have g18 := (hW1.1 18 0 h18).1
  have g19 : ∀ q, ¬ w1.2 19 q := fun q hq => (hW1.2 19 q hq).elim (h19 q) (fun h => by omega)
  show V X (z.1 + 3, z.2 + 18) w1 _ (lvw w b n) s1 [.int (iI k1)]
  have e0 := (hW1.1 0 0 h0).2
  have e13 := (hW1.1 13 0 h13).2
  have e18 := (hW1.1 18 0 h18).2
  rw [show lvw w b n = lvw w1 b n by show [_, _, _, _, _] = [_, _, _, _, _]; rw [e0, e13, e18]]
  refine v_istore hX (lv' := [(5, .int (iI k1)), (4, .int (iI (7 * (n : Int)))), (3, .ref (w1.1 18 0)), (2, .ref (w1.1 13 0)), (1, .ref (w1.1 0 0)), (0, .ref b)]) (Nat.le_of_ble_eq_true rfl) rfl (atL dAL_law_4 37 rfl) ?_
  refine v_aload_n hX 3 rfl (atL dAL_law_4 38 rfl) ?_
  refine v_aload_n hX 5 rfl (atL dAL_law_4 39 rfl) ?_
  refine v_iload hX 1 rfl (atL dAL_law_4 40 rfl) ?_
  refine v_iconst hX (atL dAL_law_4 41 rfl) ?_
  refine v_iadd hX (iI_add _ _) (atL dAL_law_4 42 rfl) ?_
  refine v_scld hX hS (7 * n + 1) (by omega) (by omega) hL (atL dAL_law_4 43 rfl) ?_
  rw [← hp1]
  refine v_aload_n hX 5 rfl (atL dAL_law_4 44 rfl) ?_
  refine v_iload hX 1 rfl (atL dAL_law_4 45 rfl) ?_
  refine v_iconst hX (atL dAL_law_4 46 rfl) ?_
  refine v_iadd hX (iI_add _ _) (atL dAL_law_4 47 rfl) ?_
  refine v_scld hX hS (7 * n + 2) (by omega) (by omega) hL (atL dAL_law_4 48 rfl) ?_
  rw [← hp2]
  refine v_aload_n hX 5 rfl (atL dAL_law_4 49 rfl) ?_
  refine v_iload hX 1 rfl (atL dAL_law_4 50 rfl) ?_
  refine v_iconst hX (atL dAL_law_4 51 rfl) ?_
  refine v_iadd hX (iI_add _ _) (atL dAL_law_4 52 rfl) ?_
  refine v_scld hX hS (7 * n + 3) (by omega) (by omega) hL (atL dAL_law_4 53 rfl) ?_
  rw [← hp3]
  refine v_callV hX (As := [.int (iI p1), .int (iI p2), .int (iI p3)]) (rest := []) (c_X8_join (xl X) w1 s1 g13 A hM1 p1 hr1 p2 hr2 p3 hr3) lk_L_129 g13 (fun _ => rfl) rfl rfl rfl (by rw [hR]; exact ⟨Nat.le_of_ble_eq_true rfl, Nat.le_of_ble_eq_true rfl⟩) (by rw [hR]; exact ⟨by show z.1 + 3 ≤ 601024; omega, by show z.2 + 18 ≤ 7293034; omega⟩) rfl (Nat.le_of_ble_eq_true rfl) (atL dAL_law_4 54 rfl) (fun b2 s2 hq2 => ?_)
  obtain ⟨A2, hR2, hM2, hC2⟩ := hq2
  obtain ⟨ek, ea, eA⟩ := res_eq (uq_res hR1 hR2)
  subst eA
  subst ea
  have hH2 : HS s2 A1 := hH1.eq (fun c hc => funext fun i => hC2 c i (Or.inl hc))
  have fin : V X (z.1 + 3, z.2 + 18) w1 2311 (lvw w1 b n) s2 [] := v_fin hX (cn_next (mc := 3) (ms := 18) nx hG hZ (by decide) (by decide) ⟨hH2, hM2, hK1, g0, g13, g18, g19⟩)
  have hzq : ((z.1 + 3, z.2 + 18) : Nat × Nat).1 ≤ 601024 ∧ ((z.1 + 3, z.2 + 18) : Nat × Nat).2 ≤ 7293034 := ⟨by show z.1 + 3 ≤ 601024; omega, by show z.2 + 18 ≤ 7293034; omega⟩
  show V X (z.1 + 3, z.2 + 18) w1 _ _ s2 [.int (iI a1)]
  refine v_istore hX (lv' := [(6, .int (iI a1)), (5, .int (iI k1)), (4, .int (iI (7 * (n : Int)))), (3, .ref (w1.1 18 0)), (2, .ref (w1.1 13 0)), (1, .ref (w1.1 0 0)), (0, .ref b)]) (Nat.le_of_ble_eq_true rfl) rfl (atL dAL_law_4 55 rfl) ?_
  refine v_aload_n hX 4 rfl (atL dAL_law_4 56 rfl) ?_
  refine v_callV hX (As := []) (rest := []) (c_X8_thrown (xl X) w1 s2 g13) lk_L_110 g13 (fun _ => rfl) rfl rfl rfl (by rw [hR]; exact ⟨Nat.le_of_ble_eq_true rfl, Nat.le_of_ble_eq_true rfl⟩) (by rw [hR]; exact hzq) rfl (Nat.le_of_ble_eq_true rfl) (atL dAL_law_4 57 rfl) (fun r3 s3 hq3 => ?_)
  obtain ⟨er, es⟩ := hq3
  rw [es, er, ← ek]
  show V X (z.1 + 3, z.2 + 18) w1 _ _ s2 [.int (iI k1)]
  refine v_iload hX 1 rfl (atL dAL_law_4 58 rfl) ?_
  refine v_icmp_eq hX ⟨by omega, by omega⟩ ⟨by omega, by omega⟩ (tgt := 561) (atL dAL_law_4 59 rfl) (by decide) (fun _ => ?_) (fun h => absurd rfl h)
  refine v_iload hX 1 rfl (atL dAL_law_5 2 rfl) ?_
  refine v_if_ne hX ⟨by omega, by omega⟩ (tgt := 578) (atL dAL_law_5 3 rfl) (by decide) (fun hkk => ?_) (fun hkk => ?_)
  · refine v_goto hX (tgt := 2311) (atL dAL_law_5 13 rfl) (by decide) ?_
    exact v_sub (lv' := lvw w1 b n) [2, 3, 4, 5, 6] rfl fin
  · have hv : s2 15 0 0 = oI a1 := (congrFun (hC2 15 0 (Or.inr (Or.inl rfl))) 0).trans (ho1 hkk)
    refine v_aload_n hX 3 rfl (atL dAL_law_5 4 rfl) ?_
    refine v_iconst hX (atL dAL_law_5 5 rfl) ?_
    refine v_lald hX (r := jI (oI a1)) 0 g18 (fun _ => rfl) rfl (by decide) (by decide) (congrArg jI hv) (atL dAL_law_5 6 rfl) ?_
    refine v_iload hX 0 rfl (atL dAL_law_5 7 rfl) ?_
    refine v_i2l hX (i2l_of a1) (atL dAL_law_5 8 rfl) ?_
    refine v_lcmp_eq hX (rJ_oI a1) (rJ_oI a1) (atL dAL_law_5 9 rfl) (atL dAL_law_5 10 rfl) (tgt := 578) (by decide) (fun _ => ?_) (fun h => absurd rfl h)
    refine v_goto hX (tgt := 2311) (atL dAL_law_5 13 rfl) (by decide) ?_
    exact v_sub (lv' := lvw w1 b n) [2, 3, 4, 5, 6] rfl fin

set_option maxHeartbeats 1000000 in
set_option maxRecDepth 100000 in
theorem case_change [G : Gh] {X : CX} (hX : okX X code 7 RL ret) (hR : xR X = room_1) (hst : (xl X).stackTraces = false) (hN : va_Nc eA eI (xs X)) {b L : Nat} {sc : Nat → Int32} (hS : XS X b L sc) (hL : L ≤ 3584) {n : Nat} (hn : 7 * n + 7 ≤ L) (hG : ghk = 0 ∨ ghk = 1) {z : Nat × Nat} {w : Wl} {σ : St} {A : Ab} (hI : LwS w σ A) (hZ : ZB n z) (nx : NX X b (n + 1)) : V X z w 581 (lvw w b n) σ [] := by
  obtain ⟨hH, hM, hK, h0, h13, h18, h19⟩ := hI
  have z1 : z.1 ≤ 40000 := by have := hZ.1; omega
  have z2 : z.2 ≤ 600000 := by have := hZ.2; omega
  obtain ⟨p1, hp1⟩ : ∃ q, q = (sc (7 * n + 1)).toInt := ⟨_, rfl⟩
  have hr1 : rI p1 := by rw [hp1]; exact rI_of _
  obtain ⟨p2, hp2⟩ : ∃ q, q = (sc (7 * n + 2)).toInt := ⟨_, rfl⟩
  have hr2 : rI p2 := by rw [hp2]; exact rI_of _
  obtain ⟨p3, hp3⟩ : ∃ q, q = (sc (7 * n + 3)).toInt := ⟨_, rfl⟩
  have hr3 : rI p3 := by rw [hp3]; exact rI_of _
  refine v_aload_n hX 3 rfl (atL dAL_law_5 14 rfl) ?_
  refine v_aload_n hX 4 rfl (atL dAL_law_5 15 rfl) ?_
  refine v_iload hX 0 rfl (atL dAL_law_5 16 rfl) ?_
  refine v_iconst hX (atL dAL_law_5 17 rfl) ?_
  refine v_iadd hX (iI_add _ _) (atL dAL_law_5 18 rfl) ?_
  refine v_scld hX hS (7 * n + 1) (by omega) (by omega) hL (atL dAL_law_5 19 rfl) ?_
  rw [← hp1]
  refine v_aload_n hX 4 rfl (atL dAL_law_5 20 rfl) ?_
  refine v_iload hX 0 rfl (atL dAL_law_5 21 rfl) ?_
  refine v_iconst hX (atL dAL_law_5 22 rfl) ?_
  refine v_iadd hX (iI_add _ _) (atL dAL_law_5 23 rfl) ?_
  refine v_scld hX hS (7 * n + 2) (by omega) (by omega) hL (atL dAL_law_5 24 rfl) ?_
  rw [← hp2]
  refine v_aload_n hX 4 rfl (atL dAL_law_5 25 rfl) ?_
  refine v_iload hX 0 rfl (atL dAL_law_5 26 rfl) ?_
  refine v_iconst hX (atL dAL_law_5 27 rfl) ?_
  refine v_iadd hX (iI_add _ _) (atL dAL_law_5 28 rfl) ?_
  refine v_scld hX hS (7 * n + 3) (by omega) (by omega) hL (atL dAL_law_5 29 rfl) ?_
  rw [← hp3]
  refine v_aload_n hX 1 rfl (atL dAL_law_5 30 rfl) ?_
  refine v_callSH hX (As := [.ref (w.1 0 0), .int (iI p1), .int (iI p2), .int (iI p3), .ref (w.1 18 0)]) (rest := []) (c_L_change (xl X) hst w σ h0 h18 A hH hK p1 hr1 p2 hr2 p3 hr3) hN lh_change rfl (by rw [hR]; exact ⟨Nat.le_of_ble_eq_true rfl, Nat.le_of_ble_eq_true rfl⟩) (by rw [hR]; exact ⟨by show z.1 + 2 ≤ 601024; omega, by show z.2 + 12 ≤ 7293034; omega⟩) rfl (Nat.le_of_ble_eq_true rfl) (atL dAL_law_5 31 rfl) (fun k1 w1 s1 hq1 => ?_)
  obtain ⟨a1, A1, hR1, hH1, hF1, ho1, hW1, hK1, hk1⟩ := hq1
  have hM1 : HM s1 A := hM.eq (fun c h1 h2 => hF1 c h1 (by omega) (by omega))
  have g0 := (hW1.1 0 0 h0).1
  have g13 := (hW1.1 13 0 h13).1
  have g18 := (hW1.1 18 0 h18).1
  have g19 : ∀ q, ¬ w1.2 19 q := fun q hq => (hW1.2 19 q hq).elim (h19 q) (fun h => by omega)
  show V X (z.1 + 2, z.2 + 12) w1 _ (lvw w b n) s1 [.int (iI k1)]
  have e0 := (hW1.1 0 0 h0).2
  have e13 := (hW1.1 13 0 h13).2
  have e18 := (hW1.1 18 0 h18).2
  rw [show lvw w b n = lvw w1 b n by show [_, _, _, _, _] = [_, _, _, _, _]; rw [e0, e13, e18]]
  refine v_istore hX (lv' := [(5, .int (iI k1)), (4, .int (iI (7 * (n : Int)))), (3, .ref (w1.1 18 0)), (2, .ref (w1.1 13 0)), (1, .ref (w1.1 0 0)), (0, .ref b)]) (Nat.le_of_ble_eq_true rfl) rfl (atL dAL_law_5 32 rfl) ?_
  refine v_aload_n hX 3 rfl (atL dAL_law_5 33 rfl) ?_
  refine v_aload_n hX 5 rfl (atL dAL_law_5 34 rfl) ?_
  refine v_iload hX 1 rfl (atL dAL_law_5 35 rfl) ?_
  refine v_iconst hX (atL dAL_law_5 36 rfl) ?_
  refine v_iadd hX (iI_add _ _) (atL dAL_law_5 37 rfl) ?_
  refine v_scld hX hS (7 * n + 1) (by omega) (by omega) hL (atL dAL_law_5 38 rfl) ?_
  rw [← hp1]
  refine v_aload_n hX 5 rfl (atL dAL_law_5 39 rfl) ?_
  refine v_iload hX 1 rfl (atL dAL_law_5 40 rfl) ?_
  refine v_iconst hX (atL dAL_law_5 41 rfl) ?_
  refine v_iadd hX (iI_add _ _) (atL dAL_law_5 42 rfl) ?_
  refine v_scld hX hS (7 * n + 2) (by omega) (by omega) hL (atL dAL_law_5 43 rfl) ?_
  rw [← hp2]
  refine v_aload_n hX 5 rfl (atL dAL_law_5 44 rfl) ?_
  refine v_iload hX 1 rfl (atL dAL_law_5 45 rfl) ?_
  refine v_iconst hX (atL dAL_law_5 46 rfl) ?_
  refine v_iadd hX (iI_add _ _) (atL dAL_law_5 47 rfl) ?_
  refine v_scld hX hS (7 * n + 3) (by omega) (by omega) hL (atL dAL_law_5 48 rfl) ?_
  rw [← hp3]
  refine v_callV hX (As := [.int (iI p1), .int (iI p2), .int (iI p3)]) (rest := []) (c_X8_change (xl X) w1 s1 g13 A hM1 p1 hr1 p2 hr2 p3 hr3) lk_L_132 g13 (fun _ => rfl) rfl rfl rfl (by rw [hR]; exact ⟨Nat.le_of_ble_eq_true rfl, Nat.le_of_ble_eq_true rfl⟩) (by rw [hR]; exact ⟨by show z.1 + 2 ≤ 601024; omega, by show z.2 + 12 ≤ 7293034; omega⟩) rfl (Nat.le_of_ble_eq_true rfl) (atL dAL_law_5 49 rfl) (fun b2 s2 hq2 => ?_)
  obtain ⟨A2, hR2, hM2, hC2⟩ := hq2
  obtain ⟨ek, ea, eA⟩ := res_eq (uq_res hR1 hR2)
  subst eA
  subst ea
  have hH2 : HS s2 A1 := hH1.eq (fun c hc => funext fun i => hC2 c i (Or.inl hc))
  have fin : V X (z.1 + 2, z.2 + 12) w1 2311 (lvw w1 b n) s2 [] := v_fin hX (cn_next (mc := 2) (ms := 12) nx hG hZ (by decide) (by decide) ⟨hH2, hM2, hK1, g0, g13, g18, g19⟩)
  have hzq : ((z.1 + 2, z.2 + 12) : Nat × Nat).1 ≤ 601024 ∧ ((z.1 + 2, z.2 + 12) : Nat × Nat).2 ≤ 7293034 := ⟨by show z.1 + 2 ≤ 601024; omega, by show z.2 + 12 ≤ 7293034; omega⟩
  show V X (z.1 + 2, z.2 + 12) w1 _ _ s2 [.int (iI a1)]
  refine v_istore hX (lv' := [(6, .int (iI a1)), (5, .int (iI k1)), (4, .int (iI (7 * (n : Int)))), (3, .ref (w1.1 18 0)), (2, .ref (w1.1 13 0)), (1, .ref (w1.1 0 0)), (0, .ref b)]) (Nat.le_of_ble_eq_true rfl) rfl (atL dAL_law_5 50 rfl) ?_
  refine v_aload_n hX 4 rfl (atL dAL_law_5 51 rfl) ?_
  refine v_callV hX (As := []) (rest := []) (c_X8_thrown (xl X) w1 s2 g13) lk_L_110 g13 (fun _ => rfl) rfl rfl rfl (by rw [hR]; exact ⟨Nat.le_of_ble_eq_true rfl, Nat.le_of_ble_eq_true rfl⟩) (by rw [hR]; exact hzq) rfl (Nat.le_of_ble_eq_true rfl) (atL dAL_law_5 52 rfl) (fun r3 s3 hq3 => ?_)
  obtain ⟨er, es⟩ := hq3
  rw [es, er, ← ek]
  show V X (z.1 + 2, z.2 + 12) w1 _ _ s2 [.int (iI k1)]
  refine v_iload hX 1 rfl (atL dAL_law_5 53 rfl) ?_
  refine v_icmp_eq hX ⟨by omega, by omega⟩ ⟨by omega, by omega⟩ (tgt := 641) (atL dAL_law_5 54 rfl) (by decide) (fun _ => ?_) (fun h => absurd rfl h)
  refine v_iload hX 1 rfl (atL dAL_law_5 57 rfl) ?_
  refine v_if_ne hX ⟨by omega, by omega⟩ (tgt := 658) (atL dAL_law_5 58 rfl) (by decide) (fun hkk => ?_) (fun hkk => ?_)
  · refine v_goto hX (tgt := 2311) (atL dAL_law_6 8 rfl) (by decide) ?_
    exact v_sub (lv' := lvw w1 b n) [2, 3, 4, 5, 6] rfl fin
  · have hv : s2 15 0 0 = oI a1 := (congrFun (hC2 15 0 (Or.inr (Or.inl rfl))) 0).trans (ho1 hkk)
    refine v_aload_n hX 3 rfl (atL dAL_law_5 59 rfl) ?_
    refine v_iconst hX (atL dAL_law_6 0 rfl) ?_
    refine v_lald hX (r := jI (oI a1)) 0 g18 (fun _ => rfl) rfl (by decide) (by decide) (congrArg jI hv) (atL dAL_law_6 1 rfl) ?_
    refine v_iload hX 0 rfl (atL dAL_law_6 2 rfl) ?_
    refine v_i2l hX (i2l_of a1) (atL dAL_law_6 3 rfl) ?_
    refine v_lcmp_eq hX (rJ_oI a1) (rJ_oI a1) (atL dAL_law_6 4 rfl) (atL dAL_law_6 5 rfl) (tgt := 658) (by decide) (fun _ => ?_) (fun h => absurd rfl h)
    refine v_goto hX (tgt := 2311) (atL dAL_law_6 8 rfl) (by decide) ?_
    exact v_sub (lv' := lvw w1 b n) [2, 3, 4, 5, 6] rfl fin

set_option maxHeartbeats 1000000 in
set_option maxRecDepth 100000 in
theorem case_calc [G : Gh] {X : CX} (hX : okX X code 7 RL ret) (hR : xR X = room_1) (hst : (xl X).stackTraces = false) (hN : va_Nc eA eI (xs X)) {b L : Nat} {sc : Nat → Int32} (hS : XS X b L sc) (hL : L ≤ 3584) {n : Nat} (hn : 7 * n + 7 ≤ L) (hG : ghk = 0 ∨ ghk = 1) {z : Nat × Nat} {w : Wl} {σ : St} {A : Ab} (hI : LwS w σ A) (hZ : ZB n z) (nx : NX X b (n + 1)) : V X z w 661 (lvw w b n) σ [] := by
  obtain ⟨hH, hM, hK, h0, h13, h18, h19⟩ := hI
  have z1 : z.1 ≤ 40000 := by have := hZ.1; omega
  have z2 : z.2 ≤ 600000 := by have := hZ.2; omega
  obtain ⟨p1, hp1⟩ : ∃ q, q = (sc (7 * n + 1)).toInt := ⟨_, rfl⟩
  have hr1 : rI p1 := by rw [hp1]; exact rI_of _
  obtain ⟨p2, hp2⟩ : ∃ q, q = (sc (7 * n + 2)).toInt := ⟨_, rfl⟩
  have hr2 : rI p2 := by rw [hp2]; exact rI_of _
  obtain ⟨p3, hp3⟩ : ∃ q, q = (sc (7 * n + 3)).toInt := ⟨_, rfl⟩
  have hr3 : rI p3 := by rw [hp3]; exact rI_of _
  obtain ⟨p4, hp4⟩ : ∃ q, q = (sc (7 * n + 4)).toInt := ⟨_, rfl⟩
  have hr4 : rI p4 := by rw [hp4]; exact rI_of _
  obtain ⟨p5, hp5⟩ : ∃ q, q = (sc (7 * n + 5)).toInt := ⟨_, rfl⟩
  have hr5 : rI p5 := by rw [hp5]; exact rI_of _
  refine v_aload_n hX 3 rfl (atL dAL_law_6 9 rfl) ?_
  refine v_aload_n hX 4 rfl (atL dAL_law_6 10 rfl) ?_
  refine v_iload hX 0 rfl (atL dAL_law_6 11 rfl) ?_
  refine v_iconst hX (atL dAL_law_6 12 rfl) ?_
  refine v_iadd hX (iI_add _ _) (atL dAL_law_6 13 rfl) ?_
  refine v_scld hX hS (7 * n + 1) (by omega) (by omega) hL (atL dAL_law_6 14 rfl) ?_
  rw [← hp1]
  refine v_aload_n hX 4 rfl (atL dAL_law_6 15 rfl) ?_
  refine v_iload hX 0 rfl (atL dAL_law_6 16 rfl) ?_
  refine v_iconst hX (atL dAL_law_6 17 rfl) ?_
  refine v_iadd hX (iI_add _ _) (atL dAL_law_6 18 rfl) ?_
  refine v_scld hX hS (7 * n + 2) (by omega) (by omega) hL (atL dAL_law_6 19 rfl) ?_
  rw [← hp2]
  refine v_aload_n hX 4 rfl (atL dAL_law_6 20 rfl) ?_
  refine v_iload hX 0 rfl (atL dAL_law_6 21 rfl) ?_
  refine v_iconst hX (atL dAL_law_6 22 rfl) ?_
  refine v_iadd hX (iI_add _ _) (atL dAL_law_6 23 rfl) ?_
  refine v_scld hX hS (7 * n + 3) (by omega) (by omega) hL (atL dAL_law_6 24 rfl) ?_
  rw [← hp3]
  refine v_aload_n hX 4 rfl (atL dAL_law_6 25 rfl) ?_
  refine v_iload hX 0 rfl (atL dAL_law_6 26 rfl) ?_
  refine v_iconst hX (atL dAL_law_6 27 rfl) ?_
  refine v_iadd hX (iI_add _ _) (atL dAL_law_6 28 rfl) ?_
  refine v_scld hX hS (7 * n + 4) (by omega) (by omega) hL (atL dAL_law_6 29 rfl) ?_
  rw [← hp4]
  refine v_aload_n hX 4 rfl (atL dAL_law_6 30 rfl) ?_
  refine v_iload hX 0 rfl (atL dAL_law_6 31 rfl) ?_
  refine v_iconst hX (atL dAL_law_6 32 rfl) ?_
  refine v_iadd hX (iI_add _ _) (atL dAL_law_6 33 rfl) ?_
  refine v_scld hX hS (7 * n + 5) (by omega) (by omega) hL (atL dAL_law_6 34 rfl) ?_
  rw [← hp5]
  refine v_aload_n hX 1 rfl (atL dAL_law_6 35 rfl) ?_
  refine v_callSH hX (As := [.ref (w.1 0 0), .int (iI p1), .int (iI p2), .int (iI p3), .int (iI p4), .int (iI p5), .ref (w.1 18 0)]) (rest := []) (c_L_calc (xl X) hst w σ h0 h18 A hH hK p1 hr1 p2 hr2 p3 hr3 p4 hr4 p5 hr5) hN lh_calc rfl (by rw [hR]; exact ⟨Nat.le_of_ble_eq_true rfl, Nat.le_of_ble_eq_true rfl⟩) (by rw [hR]; exact ⟨by show z.1 + 5 ≤ 601024; omega, by show z.2 + 30 ≤ 7293034; omega⟩) rfl (Nat.le_of_ble_eq_true rfl) (atL dAL_law_6 36 rfl) (fun k1 w1 s1 hq1 => ?_)
  obtain ⟨a1, A1, hR1, hH1, hF1, ho1, hW1, hK1, hk1⟩ := hq1
  have hM1 : HM s1 A := hM.eq (fun c h1 h2 => hF1 c h1 (by omega) (by omega))
  have g0 := (hW1.1 0 0 h0).1
  have g13 := (hW1.1 13 0 h13).1
  have g18 := (hW1.1 18 0 h18).1
  have g19 : ∀ q, ¬ w1.2 19 q := fun q hq => (hW1.2 19 q hq).elim (h19 q) (fun h => by omega)
  show V X (z.1 + 5, z.2 + 30) w1 _ (lvw w b n) s1 [.int (iI k1)]
  have e0 := (hW1.1 0 0 h0).2
  have e13 := (hW1.1 13 0 h13).2
  have e18 := (hW1.1 18 0 h18).2
  rw [show lvw w b n = lvw w1 b n by show [_, _, _, _, _] = [_, _, _, _, _]; rw [e0, e13, e18]]
  refine v_istore hX (lv' := [(5, .int (iI k1)), (4, .int (iI (7 * (n : Int)))), (3, .ref (w1.1 18 0)), (2, .ref (w1.1 13 0)), (1, .ref (w1.1 0 0)), (0, .ref b)]) (Nat.le_of_ble_eq_true rfl) rfl (atL dAL_law_6 37 rfl) ?_
  refine v_aload_n hX 3 rfl (atL dAL_law_6 38 rfl) ?_
  refine v_aload_n hX 5 rfl (atL dAL_law_6 39 rfl) ?_
  refine v_iload hX 1 rfl (atL dAL_law_6 40 rfl) ?_
  refine v_iconst hX (atL dAL_law_6 41 rfl) ?_
  refine v_iadd hX (iI_add _ _) (atL dAL_law_6 42 rfl) ?_
  refine v_scld hX hS (7 * n + 1) (by omega) (by omega) hL (atL dAL_law_6 43 rfl) ?_
  rw [← hp1]
  refine v_aload_n hX 5 rfl (atL dAL_law_6 44 rfl) ?_
  refine v_iload hX 1 rfl (atL dAL_law_6 45 rfl) ?_
  refine v_iconst hX (atL dAL_law_6 46 rfl) ?_
  refine v_iadd hX (iI_add _ _) (atL dAL_law_6 47 rfl) ?_
  refine v_scld hX hS (7 * n + 2) (by omega) (by omega) hL (atL dAL_law_6 48 rfl) ?_
  rw [← hp2]
  refine v_aload_n hX 5 rfl (atL dAL_law_6 49 rfl) ?_
  refine v_iload hX 1 rfl (atL dAL_law_6 50 rfl) ?_
  refine v_iconst hX (atL dAL_law_6 51 rfl) ?_
  refine v_iadd hX (iI_add _ _) (atL dAL_law_6 52 rfl) ?_
  refine v_scld hX hS (7 * n + 3) (by omega) (by omega) hL (atL dAL_law_6 53 rfl) ?_
  rw [← hp3]
  refine v_aload_n hX 5 rfl (atL dAL_law_6 54 rfl) ?_
  refine v_iload hX 1 rfl (atL dAL_law_6 55 rfl) ?_
  refine v_iconst hX (atL dAL_law_6 56 rfl) ?_
  refine v_iadd hX (iI_add _ _) (atL dAL_law_6 57 rfl) ?_
  refine v_scld hX hS (7 * n + 4) (by omega) (by omega) hL (atL dAL_law_6 58 rfl) ?_
  rw [← hp4]
  refine v_aload_n hX 5 rfl (atL dAL_law_6 59 rfl) ?_
  refine v_iload hX 1 rfl (atL dAL_law_7 0 rfl) ?_
  refine v_iconst hX (atL dAL_law_7 1 rfl) ?_
  refine v_iadd hX (iI_add _ _) (atL dAL_law_7 2 rfl) ?_
  refine v_scld hX hS (7 * n + 5) (by omega) (by omega) hL (atL dAL_law_7 3 rfl) ?_
  rw [← hp5]
  refine v_callV hX (As := [.int (iI p1), .int (iI p2), .int (iI p3), .int (iI p4), .int (iI p5)]) (rest := []) (c_X8_calc (xl X) w1 s1 g13 A hM1 p1 hr1 p2 hr2 p3 hr3 p4 hr4 p5 hr5) lk_L_136 g13 (fun _ => rfl) rfl rfl rfl (by rw [hR]; exact ⟨Nat.le_of_ble_eq_true rfl, Nat.le_of_ble_eq_true rfl⟩) (by rw [hR]; exact ⟨by show z.1 + 5 ≤ 601024; omega, by show z.2 + 30 ≤ 7293034; omega⟩) rfl (Nat.le_of_ble_eq_true rfl) (atL dAL_law_7 4 rfl) (fun b2 s2 hq2 => ?_)
  obtain ⟨A2, hR2, hM2, hC2⟩ := hq2
  obtain ⟨ek, ea, eA⟩ := res_eq (uq_res hR1 hR2)
  subst eA
  subst ea
  have hH2 : HS s2 A1 := hH1.eq (fun c hc => funext fun i => hC2 c i (Or.inl hc))
  have fin : V X (z.1 + 5, z.2 + 30) w1 2311 (lvw w1 b n) s2 [] := v_fin hX (cn_next (mc := 5) (ms := 30) nx hG hZ (by decide) (by decide) ⟨hH2, hM2, hK1, g0, g13, g18, g19⟩)
  have hzq : ((z.1 + 5, z.2 + 30) : Nat × Nat).1 ≤ 601024 ∧ ((z.1 + 5, z.2 + 30) : Nat × Nat).2 ≤ 7293034 := ⟨by show z.1 + 5 ≤ 601024; omega, by show z.2 + 30 ≤ 7293034; omega⟩
  show V X (z.1 + 5, z.2 + 30) w1 _ _ s2 [.int (iI a1)]
  refine v_istore hX (lv' := [(6, .int (iI a1)), (5, .int (iI k1)), (4, .int (iI (7 * (n : Int)))), (3, .ref (w1.1 18 0)), (2, .ref (w1.1 13 0)), (1, .ref (w1.1 0 0)), (0, .ref b)]) (Nat.le_of_ble_eq_true rfl) rfl (atL dAL_law_7 5 rfl) ?_
  refine v_aload_n hX 4 rfl (atL dAL_law_7 6 rfl) ?_
  refine v_callV hX (As := []) (rest := []) (c_X8_thrown (xl X) w1 s2 g13) lk_L_110 g13 (fun _ => rfl) rfl rfl rfl (by rw [hR]; exact ⟨Nat.le_of_ble_eq_true rfl, Nat.le_of_ble_eq_true rfl⟩) (by rw [hR]; exact hzq) rfl (Nat.le_of_ble_eq_true rfl) (atL dAL_law_7 7 rfl) (fun r3 s3 hq3 => ?_)
  obtain ⟨er, es⟩ := hq3
  rw [es, er, ← ek]
  show V X (z.1 + 5, z.2 + 30) w1 _ _ s2 [.int (iI k1)]
  refine v_iload hX 1 rfl (atL dAL_law_7 8 rfl) ?_
  refine v_icmp_eq hX ⟨by omega, by omega⟩ ⟨by omega, by omega⟩ (tgt := 745) (atL dAL_law_7 9 rfl) (by decide) (fun _ => ?_) (fun h => absurd rfl h)
  refine v_iload hX 1 rfl (atL dAL_law_7 12 rfl) ?_
  refine v_if_ne hX ⟨by omega, by omega⟩ (tgt := 762) (atL dAL_law_7 13 rfl) (by decide) (fun hkk => ?_) (fun hkk => ?_)
  · refine v_goto hX (tgt := 2311) (atL dAL_law_7 23 rfl) (by decide) ?_
    exact v_sub (lv' := lvw w1 b n) [2, 3, 4, 5, 6] rfl fin
  · have hv : s2 15 0 0 = oI a1 := (congrFun (hC2 15 0 (Or.inr (Or.inl rfl))) 0).trans (ho1 hkk)
    refine v_aload_n hX 3 rfl (atL dAL_law_7 14 rfl) ?_
    refine v_iconst hX (atL dAL_law_7 15 rfl) ?_
    refine v_lald hX (r := jI (oI a1)) 0 g18 (fun _ => rfl) rfl (by decide) (by decide) (congrArg jI hv) (atL dAL_law_7 16 rfl) ?_
    refine v_iload hX 0 rfl (atL dAL_law_7 17 rfl) ?_
    refine v_i2l hX (i2l_of a1) (atL dAL_law_7 18 rfl) ?_
    refine v_lcmp_eq hX (rJ_oI a1) (rJ_oI a1) (atL dAL_law_7 19 rfl) (atL dAL_law_7 20 rfl) (tgt := 762) (by decide) (fun _ => ?_) (fun h => absurd rfl h)
    refine v_goto hX (tgt := 2311) (atL dAL_law_7 23 rfl) (by decide) ?_
    exact v_sub (lv' := lvw w1 b n) [2, 3, 4, 5, 6] rfl fin

set_option maxHeartbeats 1000000 in
set_option maxRecDepth 100000 in
theorem case_compare [G : Gh] {X : CX} (hX : okX X code 7 RL ret) (hR : xR X = room_1) (hst : (xl X).stackTraces = false) (hN : va_Nc eA eI (xs X)) {b L : Nat} {sc : Nat → Int32} (hS : XS X b L sc) (hL : L ≤ 3584) {n : Nat} (hn : 7 * n + 7 ≤ L) (hG : ghk = 0 ∨ ghk = 1) {z : Nat × Nat} {w : Wl} {σ : St} {A : Ab} (hI : LwS w σ A) (hZ : ZB n z) (nx : NX X b (n + 1)) : V X z w 765 (lvw w b n) σ [] := by
  obtain ⟨hH, hM, hK, h0, h13, h18, h19⟩ := hI
  have z1 : z.1 ≤ 40000 := by have := hZ.1; omega
  have z2 : z.2 ≤ 600000 := by have := hZ.2; omega
  obtain ⟨p1, hp1⟩ : ∃ q, q = (sc (7 * n + 1)).toInt := ⟨_, rfl⟩
  have hr1 : rI p1 := by rw [hp1]; exact rI_of _
  obtain ⟨p2, hp2⟩ : ∃ q, q = (sc (7 * n + 2)).toInt := ⟨_, rfl⟩
  have hr2 : rI p2 := by rw [hp2]; exact rI_of _
  refine v_aload_n hX 3 rfl (atL dAL_law_7 24 rfl) ?_
  refine v_aload_n hX 4 rfl (atL dAL_law_7 25 rfl) ?_
  refine v_iload hX 0 rfl (atL dAL_law_7 26 rfl) ?_
  refine v_iconst hX (atL dAL_law_7 27 rfl) ?_
  refine v_iadd hX (iI_add _ _) (atL dAL_law_7 28 rfl) ?_
  refine v_scld hX hS (7 * n + 1) (by omega) (by omega) hL (atL dAL_law_7 29 rfl) ?_
  rw [← hp1]
  refine v_aload_n hX 4 rfl (atL dAL_law_7 30 rfl) ?_
  refine v_iload hX 0 rfl (atL dAL_law_7 31 rfl) ?_
  refine v_iconst hX (atL dAL_law_7 32 rfl) ?_
  refine v_iadd hX (iI_add _ _) (atL dAL_law_7 33 rfl) ?_
  refine v_scld hX hS (7 * n + 2) (by omega) (by omega) hL (atL dAL_law_7 34 rfl) ?_
  rw [← hp2]
  refine v_aload_n hX 1 rfl (atL dAL_law_7 35 rfl) ?_
  refine v_callSH hX (As := [.ref (w.1 0 0), .int (iI p1), .int (iI p2), .ref (w.1 18 0)]) (rest := []) (c_L_compare (xl X) hst w σ h0 h18 A hH hK p1 hr1 p2 hr2) hN lh_compare rfl (by rw [hR]; exact ⟨Nat.le_of_ble_eq_true rfl, Nat.le_of_ble_eq_true rfl⟩) (by rw [hR]; exact ⟨by show z.1 + 2 ≤ 601024; omega, by show z.2 + 12 ≤ 7293034; omega⟩) rfl (Nat.le_of_ble_eq_true rfl) (atL dAL_law_7 36 rfl) (fun k1 w1 s1 hq1 => ?_)
  obtain ⟨a1, A1, hR1, hH1, hF1, ho1, hW1, hK1, hk1⟩ := hq1
  have hM1 : HM s1 A := hM.eq (fun c h1 h2 => hF1 c h1 (by omega) (by omega))
  have g0 := (hW1.1 0 0 h0).1
  have g13 := (hW1.1 13 0 h13).1
  have g18 := (hW1.1 18 0 h18).1
  have g19 : ∀ q, ¬ w1.2 19 q := fun q hq => (hW1.2 19 q hq).elim (h19 q) (fun h => by omega)
  show V X (z.1 + 2, z.2 + 12) w1 _ (lvw w b n) s1 [.int (iI k1)]
  have e0 := (hW1.1 0 0 h0).2
  have e13 := (hW1.1 13 0 h13).2
  have e18 := (hW1.1 18 0 h18).2
  rw [show lvw w b n = lvw w1 b n by show [_, _, _, _, _] = [_, _, _, _, _]; rw [e0, e13, e18]]
  refine v_istore hX (lv' := [(5, .int (iI k1)), (4, .int (iI (7 * (n : Int)))), (3, .ref (w1.1 18 0)), (2, .ref (w1.1 13 0)), (1, .ref (w1.1 0 0)), (0, .ref b)]) (Nat.le_of_ble_eq_true rfl) rfl (atL dAL_law_7 37 rfl) ?_
  refine v_aload_n hX 3 rfl (atL dAL_law_7 38 rfl) ?_
  refine v_aload_n hX 5 rfl (atL dAL_law_7 39 rfl) ?_
  refine v_iload hX 1 rfl (atL dAL_law_7 40 rfl) ?_
  refine v_iconst hX (atL dAL_law_7 41 rfl) ?_
  refine v_iadd hX (iI_add _ _) (atL dAL_law_7 42 rfl) ?_
  refine v_scld hX hS (7 * n + 1) (by omega) (by omega) hL (atL dAL_law_7 43 rfl) ?_
  rw [← hp1]
  refine v_aload_n hX 5 rfl (atL dAL_law_7 44 rfl) ?_
  refine v_iload hX 1 rfl (atL dAL_law_7 45 rfl) ?_
  refine v_iconst hX (atL dAL_law_7 46 rfl) ?_
  refine v_iadd hX (iI_add _ _) (atL dAL_law_7 47 rfl) ?_
  refine v_scld hX hS (7 * n + 2) (by omega) (by omega) hL (atL dAL_law_7 48 rfl) ?_
  rw [← hp2]
  refine v_callV hX (As := [.int (iI p1), .int (iI p2)]) (rest := []) (c_X8_compare (xl X) w1 s1 g13 A hM1 p1 hr1 p2 hr2) lk_L_139 g13 (fun _ => rfl) rfl rfl rfl (by rw [hR]; exact ⟨Nat.le_of_ble_eq_true rfl, Nat.le_of_ble_eq_true rfl⟩) (by rw [hR]; exact ⟨by show z.1 + 2 ≤ 601024; omega, by show z.2 + 12 ≤ 7293034; omega⟩) rfl (Nat.le_of_ble_eq_true rfl) (atL dAL_law_7 49 rfl) (fun b2 s2 hq2 => ?_)
  obtain ⟨A2, hR2, hM2, hC2⟩ := hq2
  obtain ⟨ek, ea, eA⟩ := res_eq (uq_res hR1 hR2)
  subst eA
  subst ea
  have hH2 : HS s2 A1 := hH1.eq (fun c hc => funext fun i => hC2 c i (Or.inl hc))
  have fin : V X (z.1 + 2, z.2 + 12) w1 2311 (lvw w1 b n) s2 [] := v_fin hX (cn_next (mc := 2) (ms := 12) nx hG hZ (by decide) (by decide) ⟨hH2, hM2, hK1, g0, g13, g18, g19⟩)
  have hzq : ((z.1 + 2, z.2 + 12) : Nat × Nat).1 ≤ 601024 ∧ ((z.1 + 2, z.2 + 12) : Nat × Nat).2 ≤ 7293034 := ⟨by show z.1 + 2 ≤ 601024; omega, by show z.2 + 12 ≤ 7293034; omega⟩
  show V X (z.1 + 2, z.2 + 12) w1 _ _ s2 [.int (iI a1)]
  refine v_istore hX (lv' := [(6, .int (iI a1)), (5, .int (iI k1)), (4, .int (iI (7 * (n : Int)))), (3, .ref (w1.1 18 0)), (2, .ref (w1.1 13 0)), (1, .ref (w1.1 0 0)), (0, .ref b)]) (Nat.le_of_ble_eq_true rfl) rfl (atL dAL_law_7 50 rfl) ?_
  refine v_aload_n hX 4 rfl (atL dAL_law_7 51 rfl) ?_
  refine v_callV hX (As := []) (rest := []) (c_X8_thrown (xl X) w1 s2 g13) lk_L_110 g13 (fun _ => rfl) rfl rfl rfl (by rw [hR]; exact ⟨Nat.le_of_ble_eq_true rfl, Nat.le_of_ble_eq_true rfl⟩) (by rw [hR]; exact hzq) rfl (Nat.le_of_ble_eq_true rfl) (atL dAL_law_7 52 rfl) (fun r3 s3 hq3 => ?_)
  obtain ⟨er, es⟩ := hq3
  rw [es, er, ← ek]
  show V X (z.1 + 2, z.2 + 12) w1 _ _ s2 [.int (iI k1)]
  refine v_iload hX 1 rfl (atL dAL_law_7 53 rfl) ?_
  refine v_icmp_eq hX ⟨by omega, by omega⟩ ⟨by omega, by omega⟩ (tgt := 813) (atL dAL_law_7 54 rfl) (by decide) (fun _ => ?_) (fun h => absurd rfl h)
  refine v_iload hX 1 rfl (atL dAL_law_7 57 rfl) ?_
  refine v_if_ne hX ⟨by omega, by omega⟩ (tgt := 830) (atL dAL_law_7 58 rfl) (by decide) (fun hkk => ?_) (fun hkk => ?_)
  · refine v_goto hX (tgt := 2311) (atL dAL_law_8 8 rfl) (by decide) ?_
    exact v_sub (lv' := lvw w1 b n) [2, 3, 4, 5, 6] rfl fin
  · have hv : s2 15 0 0 = oI a1 := (congrFun (hC2 15 0 (Or.inr (Or.inl rfl))) 0).trans (ho1 hkk)
    refine v_aload_n hX 3 rfl (atL dAL_law_7 59 rfl) ?_
    refine v_iconst hX (atL dAL_law_8 0 rfl) ?_
    refine v_lald hX (r := jI (oI a1)) 0 g18 (fun _ => rfl) rfl (by decide) (by decide) (congrArg jI hv) (atL dAL_law_8 1 rfl) ?_
    refine v_iload hX 0 rfl (atL dAL_law_8 2 rfl) ?_
    refine v_i2l hX (i2l_of a1) (atL dAL_law_8 3 rfl) ?_
    refine v_lcmp_eq hX (rJ_oI a1) (rJ_oI a1) (atL dAL_law_8 4 rfl) (atL dAL_law_8 5 rfl) (tgt := 830) (by decide) (fun _ => ?_) (fun h => absurd rfl h)
    refine v_goto hX (tgt := 2311) (atL dAL_law_8 8 rfl) (by decide) ?_
    exact v_sub (lv' := lvw w1 b n) [2, 3, 4, 5, 6] rfl fin

set_option maxHeartbeats 1000000 in
set_option maxRecDepth 100000 in
theorem case_bits [G : Gh] {X : CX} (hX : okX X code 7 RL ret) (hR : xR X = room_1) (hst : (xl X).stackTraces = false) (hN : va_Nc eA eI (xs X)) {b L : Nat} {sc : Nat → Int32} (hS : XS X b L sc) (hL : L ≤ 3584) {n : Nat} (hn : 7 * n + 7 ≤ L) (hG : ghk = 0 ∨ ghk = 1) {z : Nat × Nat} {w : Wl} {σ : St} {A : Ab} (hI : LwS w σ A) (hZ : ZB n z) (nx : NX X b (n + 1)) : V X z w 833 (lvw w b n) σ [] := by
  obtain ⟨hH, hM, hK, h0, h13, h18, h19⟩ := hI
  have z1 : z.1 ≤ 40000 := by have := hZ.1; omega
  have z2 : z.2 ≤ 600000 := by have := hZ.2; omega
  obtain ⟨p1, hp1⟩ : ∃ q, q = (sc (7 * n + 1)).toInt := ⟨_, rfl⟩
  have hr1 : rI p1 := by rw [hp1]; exact rI_of _
  refine v_aload_n hX 3 rfl (atL dAL_law_8 9 rfl) ?_
  refine v_aload_n hX 4 rfl (atL dAL_law_8 10 rfl) ?_
  refine v_iload hX 0 rfl (atL dAL_law_8 11 rfl) ?_
  refine v_iconst hX (atL dAL_law_8 12 rfl) ?_
  refine v_iadd hX (iI_add _ _) (atL dAL_law_8 13 rfl) ?_
  refine v_scld hX hS (7 * n + 1) (by omega) (by omega) hL (atL dAL_law_8 14 rfl) ?_
  rw [← hp1]
  refine v_aload_n hX 1 rfl (atL dAL_law_8 15 rfl) ?_
  refine v_callSH hX (As := [.ref (w.1 0 0), .int (iI p1), .ref (w.1 18 0)]) (rest := []) (c_L_bits (xl X) hst w σ h0 h18 A hH hK p1 hr1) hN lh_bits rfl (by rw [hR]; exact ⟨Nat.le_of_ble_eq_true rfl, Nat.le_of_ble_eq_true rfl⟩) (by rw [hR]; exact ⟨by show z.1 + 1 ≤ 601024; omega, by show z.2 + 6 ≤ 7293034; omega⟩) rfl (Nat.le_of_ble_eq_true rfl) (atL dAL_law_8 16 rfl) (fun k1 w1 s1 hq1 => ?_)
  obtain ⟨a1, A1, hR1, hH1, hF1, ho1, hW1, hK1, hk1⟩ := hq1
  have hM1 : HM s1 A := hM.eq (fun c h1 h2 => hF1 c h1 (by omega) (by omega))
  have g0 := (hW1.1 0 0 h0).1
  have g13 := (hW1.1 13 0 h13).1
  have g18 := (hW1.1 18 0 h18).1
  have g19 : ∀ q, ¬ w1.2 19 q := fun q hq => (hW1.2 19 q hq).elim (h19 q) (fun h => by omega)
  show V X (z.1 + 1, z.2 + 6) w1 _ (lvw w b n) s1 [.int (iI k1)]
  have e0 := (hW1.1 0 0 h0).2
  have e13 := (hW1.1 13 0 h13).2
  have e18 := (hW1.1 18 0 h18).2
  rw [show lvw w b n = lvw w1 b n by show [_, _, _, _, _] = [_, _, _, _, _]; rw [e0, e13, e18]]
  refine v_istore hX (lv' := [(5, .int (iI k1)), (4, .int (iI (7 * (n : Int)))), (3, .ref (w1.1 18 0)), (2, .ref (w1.1 13 0)), (1, .ref (w1.1 0 0)), (0, .ref b)]) (Nat.le_of_ble_eq_true rfl) rfl (atL dAL_law_8 17 rfl) ?_
  refine v_aload_n hX 3 rfl (atL dAL_law_8 18 rfl) ?_
  refine v_aload_n hX 5 rfl (atL dAL_law_8 19 rfl) ?_
  refine v_iload hX 1 rfl (atL dAL_law_8 20 rfl) ?_
  refine v_iconst hX (atL dAL_law_8 21 rfl) ?_
  refine v_iadd hX (iI_add _ _) (atL dAL_law_8 22 rfl) ?_
  refine v_scld hX hS (7 * n + 1) (by omega) (by omega) hL (atL dAL_law_8 23 rfl) ?_
  rw [← hp1]
  refine v_callV hX (As := [.int (iI p1)]) (rest := []) (c_X8_bits (xl X) w1 s1 g13 A hM1 p1 hr1) lk_L_142 g13 (fun _ => rfl) rfl rfl rfl (by rw [hR]; exact ⟨Nat.le_of_ble_eq_true rfl, Nat.le_of_ble_eq_true rfl⟩) (by rw [hR]; exact ⟨by show z.1 + 1 ≤ 601024; omega, by show z.2 + 6 ≤ 7293034; omega⟩) rfl (Nat.le_of_ble_eq_true rfl) (atL dAL_law_8 24 rfl) (fun b2 s2 hq2 => ?_)
  obtain ⟨A2, hR2, hM2, hC2⟩ := hq2
  obtain ⟨ek, ea, eA⟩ := res_eq (uq_res hR1 hR2)
  subst eA
  subst ea
  have hH2 : HS s2 A1 := hH1.eq (fun c hc => funext fun i => hC2 c i (Or.inl hc))
  have fin : V X (z.1 + 1, z.2 + 6) w1 2311 (lvw w1 b n) s2 [] := v_fin hX (cn_next (mc := 1) (ms := 6) nx hG hZ (by decide) (by decide) ⟨hH2, hM2, hK1, g0, g13, g18, g19⟩)
  have hzq : ((z.1 + 1, z.2 + 6) : Nat × Nat).1 ≤ 601024 ∧ ((z.1 + 1, z.2 + 6) : Nat × Nat).2 ≤ 7293034 := ⟨by show z.1 + 1 ≤ 601024; omega, by show z.2 + 6 ≤ 7293034; omega⟩
  show V X (z.1 + 1, z.2 + 6) w1 _ _ s2 [.int (iI a1)]
  refine v_istore hX (lv' := [(6, .int (iI a1)), (5, .int (iI k1)), (4, .int (iI (7 * (n : Int)))), (3, .ref (w1.1 18 0)), (2, .ref (w1.1 13 0)), (1, .ref (w1.1 0 0)), (0, .ref b)]) (Nat.le_of_ble_eq_true rfl) rfl (atL dAL_law_8 25 rfl) ?_
  refine v_aload_n hX 4 rfl (atL dAL_law_8 26 rfl) ?_
  refine v_callV hX (As := []) (rest := []) (c_X8_thrown (xl X) w1 s2 g13) lk_L_110 g13 (fun _ => rfl) rfl rfl rfl (by rw [hR]; exact ⟨Nat.le_of_ble_eq_true rfl, Nat.le_of_ble_eq_true rfl⟩) (by rw [hR]; exact hzq) rfl (Nat.le_of_ble_eq_true rfl) (atL dAL_law_8 27 rfl) (fun r3 s3 hq3 => ?_)
  obtain ⟨er, es⟩ := hq3
  rw [es, er, ← ek]
  show V X (z.1 + 1, z.2 + 6) w1 _ _ s2 [.int (iI k1)]
  refine v_iload hX 1 rfl (atL dAL_law_8 28 rfl) ?_
  refine v_icmp_eq hX ⟨by omega, by omega⟩ ⟨by omega, by omega⟩ (tgt := 869) (atL dAL_law_8 29 rfl) (by decide) (fun _ => ?_) (fun h => absurd rfl h)
  refine v_iload hX 1 rfl (atL dAL_law_8 32 rfl) ?_
  refine v_if_ne hX ⟨by omega, by omega⟩ (tgt := 886) (atL dAL_law_8 33 rfl) (by decide) (fun hkk => ?_) (fun hkk => ?_)
  · refine v_goto hX (tgt := 2311) (atL dAL_law_8 43 rfl) (by decide) ?_
    exact v_sub (lv' := lvw w1 b n) [2, 3, 4, 5, 6] rfl fin
  · have hv : s2 15 0 0 = oI a1 := (congrFun (hC2 15 0 (Or.inr (Or.inl rfl))) 0).trans (ho1 hkk)
    refine v_aload_n hX 3 rfl (atL dAL_law_8 34 rfl) ?_
    refine v_iconst hX (atL dAL_law_8 35 rfl) ?_
    refine v_lald hX (r := jI (oI a1)) 0 g18 (fun _ => rfl) rfl (by decide) (by decide) (congrArg jI hv) (atL dAL_law_8 36 rfl) ?_
    refine v_iload hX 0 rfl (atL dAL_law_8 37 rfl) ?_
    refine v_i2l hX (i2l_of a1) (atL dAL_law_8 38 rfl) ?_
    refine v_lcmp_eq hX (rJ_oI a1) (rJ_oI a1) (atL dAL_law_8 39 rfl) (atL dAL_law_8 40 rfl) (tgt := 886) (by decide) (fun _ => ?_) (fun h => absurd rfl h)
    refine v_goto hX (tgt := 2311) (atL dAL_law_8 43 rfl) (by decide) ?_
    exact v_sub (lv' := lvw w1 b n) [2, 3, 4, 5, 6] rfl fin

set_option maxHeartbeats 1000000 in
set_option maxRecDepth 100000 in
theorem case_probable [G : Gh] {X : CX} (hX : okX X code 7 RL ret) (hR : xR X = room_1) (hst : (xl X).stackTraces = false) (hN : va_Nc eA eI (xs X)) {b L : Nat} {sc : Nat → Int32} (hS : XS X b L sc) (hL : L ≤ 3584) {n : Nat} (hn : 7 * n + 7 ≤ L) (hG : ghk = 0 ∨ ghk = 1) {z : Nat × Nat} {w : Wl} {σ : St} {A : Ab} (hI : LwS w σ A) (hZ : ZB n z) (nx : NX X b (n + 1)) : V X z w 889 (lvw w b n) σ [] := by
  obtain ⟨hH, hM, hK, h0, h13, h18, h19⟩ := hI
  have z1 : z.1 ≤ 40000 := by have := hZ.1; omega
  have z2 : z.2 ≤ 600000 := by have := hZ.2; omega
  obtain ⟨p1, hp1⟩ : ∃ q, q = (sc (7 * n + 1)).toInt := ⟨_, rfl⟩
  have hr1 : rI p1 := by rw [hp1]; exact rI_of _
  refine v_aload_n hX 3 rfl (atL dAL_law_8 44 rfl) ?_
  refine v_aload_n hX 4 rfl (atL dAL_law_8 45 rfl) ?_
  refine v_iload hX 0 rfl (atL dAL_law_8 46 rfl) ?_
  refine v_iconst hX (atL dAL_law_8 47 rfl) ?_
  refine v_iadd hX (iI_add _ _) (atL dAL_law_8 48 rfl) ?_
  refine v_scld hX hS (7 * n + 1) (by omega) (by omega) hL (atL dAL_law_8 49 rfl) ?_
  rw [← hp1]
  refine v_aload_n hX 1 rfl (atL dAL_law_8 50 rfl) ?_
  refine v_callSH hX (As := [.ref (w.1 0 0), .int (iI p1), .ref (w.1 18 0)]) (rest := []) (c_L_probable (xl X) hst w σ h0 h18 A hH hK p1 hr1) hN lh_probable rfl (by rw [hR]; exact ⟨Nat.le_of_ble_eq_true rfl, Nat.le_of_ble_eq_true rfl⟩) (by rw [hR]; exact ⟨by show z.1 + 1 ≤ 601024; omega, by show z.2 + 6 ≤ 7293034; omega⟩) rfl (Nat.le_of_ble_eq_true rfl) (atL dAL_law_8 51 rfl) (fun k1 w1 s1 hq1 => ?_)
  obtain ⟨a1, A1, hR1, hH1, hF1, ho1, hW1, hK1, hk1⟩ := hq1
  have hM1 : HM s1 A := hM.eq (fun c h1 h2 => hF1 c h1 (by omega) (by omega))
  have g0 := (hW1.1 0 0 h0).1
  have g13 := (hW1.1 13 0 h13).1
  have g18 := (hW1.1 18 0 h18).1
  have g19 : ∀ q, ¬ w1.2 19 q := fun q hq => (hW1.2 19 q hq).elim (h19 q) (fun h => by omega)
  show V X (z.1 + 1, z.2 + 6) w1 _ (lvw w b n) s1 [.int (iI k1)]
  have e0 := (hW1.1 0 0 h0).2
  have e13 := (hW1.1 13 0 h13).2
  have e18 := (hW1.1 18 0 h18).2
  rw [show lvw w b n = lvw w1 b n by show [_, _, _, _, _] = [_, _, _, _, _]; rw [e0, e13, e18]]
  refine v_istore hX (lv' := [(5, .int (iI k1)), (4, .int (iI (7 * (n : Int)))), (3, .ref (w1.1 18 0)), (2, .ref (w1.1 13 0)), (1, .ref (w1.1 0 0)), (0, .ref b)]) (Nat.le_of_ble_eq_true rfl) rfl (atL dAL_law_8 52 rfl) ?_
  refine v_aload_n hX 3 rfl (atL dAL_law_8 53 rfl) ?_
  refine v_aload_n hX 5 rfl (atL dAL_law_8 54 rfl) ?_
  refine v_iload hX 1 rfl (atL dAL_law_8 55 rfl) ?_
  refine v_iconst hX (atL dAL_law_8 56 rfl) ?_
  refine v_iadd hX (iI_add _ _) (atL dAL_law_8 57 rfl) ?_
  refine v_scld hX hS (7 * n + 1) (by omega) (by omega) hL (atL dAL_law_8 58 rfl) ?_
  rw [← hp1]
  refine v_callV hX (As := [.int (iI p1)]) (rest := []) (c_X8_probable (xl X) w1 s1 g13 A hM1 p1 hr1) lk_L_145 g13 (fun _ => rfl) rfl rfl rfl (by rw [hR]; exact ⟨Nat.le_of_ble_eq_true rfl, Nat.le_of_ble_eq_true rfl⟩) (by rw [hR]; exact ⟨by show z.1 + 1 ≤ 601024; omega, by show z.2 + 6 ≤ 7293034; omega⟩) rfl (Nat.le_of_ble_eq_true rfl) (atL dAL_law_8 59 rfl) (fun b2 s2 hq2 => ?_)
  obtain ⟨A2, hR2, hM2, hC2⟩ := hq2
  obtain ⟨ek, ea, eA⟩ := res_eq (uq_probable hR1 hR2)
  subst eA
  subst ea
  have hH2 : HS s2 A1 := hH1.eq (fun c hc => funext fun i => hC2 c i (Or.inl hc))
  have fin : V X (z.1 + 1, z.2 + 6) w1 2311 (lvw w1 b n) s2 [] := v_fin hX (cn_next (mc := 1) (ms := 6) nx hG hZ (by decide) (by decide) ⟨hH2, hM2, hK1, g0, g13, g18, g19⟩)
  have hzq : ((z.1 + 1, z.2 + 6) : Nat × Nat).1 ≤ 601024 ∧ ((z.1 + 1, z.2 + 6) : Nat × Nat).2 ≤ 7293034 := ⟨by show z.1 + 1 ≤ 601024; omega, by show z.2 + 6 ≤ 7293034; omega⟩
  show V X (z.1 + 1, z.2 + 6) w1 _ _ s2 [.int (iI a1)]
  refine v_istore hX (lv' := [(6, .int (iI a1)), (5, .int (iI k1)), (4, .int (iI (7 * (n : Int)))), (3, .ref (w1.1 18 0)), (2, .ref (w1.1 13 0)), (1, .ref (w1.1 0 0)), (0, .ref b)]) (Nat.le_of_ble_eq_true rfl) rfl (atL dAL_law_9 0 rfl) ?_
  refine v_aload_n hX 4 rfl (atL dAL_law_9 1 rfl) ?_
  refine v_callV hX (As := []) (rest := []) (c_X8_thrown (xl X) w1 s2 g13) lk_L_110 g13 (fun _ => rfl) rfl rfl rfl (by rw [hR]; exact ⟨Nat.le_of_ble_eq_true rfl, Nat.le_of_ble_eq_true rfl⟩) (by rw [hR]; exact hzq) rfl (Nat.le_of_ble_eq_true rfl) (atL dAL_law_9 2 rfl) (fun r3 s3 hq3 => ?_)
  obtain ⟨er, es⟩ := hq3
  rw [es, er, ← ek]
  show V X (z.1 + 1, z.2 + 6) w1 _ _ s2 [.int (iI k1)]
  refine v_iload hX 1 rfl (atL dAL_law_9 3 rfl) ?_
  refine v_icmp_eq hX ⟨by omega, by omega⟩ ⟨by omega, by omega⟩ (tgt := 925) (atL dAL_law_9 4 rfl) (by decide) (fun _ => ?_) (fun h => absurd rfl h)
  refine v_iload hX 1 rfl (atL dAL_law_9 7 rfl) ?_
  refine v_if_ne hX ⟨by omega, by omega⟩ (tgt := 949) (atL dAL_law_9 8 rfl) (by decide) (fun hkk => ?_) (fun hkk => ?_)
  · refine v_goto hX (tgt := 2311) (atL dAL_law_9 21 rfl) (by decide) ?_
    exact v_sub (lv' := lvw w1 b n) [2, 3, 4, 5, 6] rfl fin
  · have hv : s2 15 0 0 = oZ a1 := (congrFun (hC2 15 0 (Or.inr (Or.inl rfl))) 0).trans (ho1 hkk)
    refine v_aload_n hX 3 rfl (atL dAL_law_9 9 rfl) ?_
    refine v_iconst hX (atL dAL_law_9 10 rfl) ?_
    refine v_lald hX (r := jI (oZ a1)) 0 g18 (fun _ => rfl) rfl (by decide) (by decide) (congrArg jI hv) (atL dAL_law_9 11 rfl) ?_
    refine v_iload hX 0 rfl (atL dAL_law_9 12 rfl) ?_
    have h01 : a1 = 0 ∨ a1 = 1 := by rcases hR1 with ⟨-, e⟩ | ⟨-, c, e, g⟩; exact absurd (congrArg Prod.fst e) (by rw [hkk]; simp); have e2 : a1 = c := congrArg (fun r : Res => r.2.1) e; rcases g with g | g <;> omega
    have h943 : V X (z.1 + 1, z.2 + 6) w1 943 [(6, .int (iI a1)), (5, .int (iI k1)), (4, .int (iI (7 * (n : Int)))), (3, .ref (w1.1 18 0)), (2, .ref (w1.1 13 0)), (1, .ref (w1.1 0 0)), (0, .ref b)] s2 [.long (jI (oZ a1)), .long (jI (oZ a1))] := by
      have hz : rJ (oZ a1) := by unfold oZ; split <;> exact ⟨by omega, by omega⟩
      refine v_lcmp_eq hX hz hz (atL dAL_law_9 17 rfl) (atL dAL_law_9 18 rfl) (tgt := 949) (by decide) (fun _ => ?_) (fun h => absurd rfl h)
      refine v_goto hX (tgt := 2311) (atL dAL_law_9 21 rfl) (by decide) ?_
      exact v_sub (lv' := lvw w1 b n) [2, 3, 4, 5, 6] rfl fin
    refine v_if_eq hX ⟨by omega, by omega⟩ (tgt := 942) (atL dAL_law_9 13 rfl) (by decide) (fun h9 => ?_) (fun h9 => ?_)
    · refine v_lconst hX (atL dAL_law_9 16 rfl) ?_
      have e : oZ a1 = 0 := if_pos h9
      rw [e] at h943 ⊢
      exact h943
    · refine v_lconst hX (atL dAL_law_9 14 rfl) ?_
      refine v_goto hX (tgt := 943) (atL dAL_law_9 15 rfl) (by decide) ?_
      have e : oZ a1 = 1 := if_neg h9
      rw [e] at h943 ⊢
      exact h943

set_option maxHeartbeats 1000000 in
set_option maxRecDepth 100000 in
theorem case_next [G : Gh] {X : CX} (hX : okX X code 7 RL ret) (hR : xR X = room_1) (hst : (xl X).stackTraces = false) (hN : va_Nc eA eI (xs X)) {b L : Nat} {sc : Nat → Int32} (hS : XS X b L sc) (hL : L ≤ 3584) {n : Nat} (hn : 7 * n + 7 ≤ L) (hG : ghk = 0 ∨ ghk = 1) {z : Nat × Nat} {w : Wl} {σ : St} {A : Ab} (hI : LwS w σ A) (hZ : ZB n z) (nx : NX X b (n + 1)) : V X z w 952 (lvw w b n) σ [] := by
  obtain ⟨hH, hM, hK, h0, h13, h18, h19⟩ := hI
  have z1 : z.1 ≤ 40000 := by have := hZ.1; omega
  have z2 : z.2 ≤ 600000 := by have := hZ.2; omega
  obtain ⟨p1, hp1⟩ : ∃ q, q = (sc (7 * n + 1)).toInt := ⟨_, rfl⟩
  have hr1 : rI p1 := by rw [hp1]; exact rI_of _
  obtain ⟨p2, hp2⟩ : ∃ q, q = (sc (7 * n + 2)).toInt := ⟨_, rfl⟩
  have hr2 : rI p2 := by rw [hp2]; exact rI_of _
  refine v_aload_n hX 3 rfl (atL dAL_law_9 22 rfl) ?_
  refine v_aload_n hX 4 rfl (atL dAL_law_9 23 rfl) ?_
  refine v_iload hX 0 rfl (atL dAL_law_9 24 rfl) ?_
  refine v_iconst hX (atL dAL_law_9 25 rfl) ?_
  refine v_iadd hX (iI_add _ _) (atL dAL_law_9 26 rfl) ?_
  refine v_scld hX hS (7 * n + 1) (by omega) (by omega) hL (atL dAL_law_9 27 rfl) ?_
  rw [← hp1]
  refine v_aload_n hX 4 rfl (atL dAL_law_9 28 rfl) ?_
  refine v_iload hX 0 rfl (atL dAL_law_9 29 rfl) ?_
  refine v_iconst hX (atL dAL_law_9 30 rfl) ?_
  refine v_iadd hX (iI_add _ _) (atL dAL_law_9 31 rfl) ?_
  refine v_scld hX hS (7 * n + 2) (by omega) (by omega) hL (atL dAL_law_9 32 rfl) ?_
  rw [← hp2]
  refine v_aload_n hX 1 rfl (atL dAL_law_9 33 rfl) ?_
  refine v_callSH hX (As := [.ref (w.1 0 0), .int (iI p1), .int (iI p2), .ref (w.1 18 0)]) (rest := []) (c_L_next (xl X) hst w σ h0 h18 A hH hK p1 hr1 p2 hr2) hN lh_next rfl (by rw [hR]; exact ⟨Nat.le_of_ble_eq_true rfl, Nat.le_of_ble_eq_true rfl⟩) (by rw [hR]; exact ⟨by show z.1 + 2 ≤ 601024; omega, by show z.2 + 12 ≤ 7293034; omega⟩) rfl (Nat.le_of_ble_eq_true rfl) (atL dAL_law_9 34 rfl) (fun k1 w1 s1 hq1 => ?_)
  obtain ⟨a1, A1, hR1, hH1, hF1, ho1, hW1, hK1, hk1⟩ := hq1
  have hM1 : HM s1 A := hM.eq (fun c h1 h2 => hF1 c h1 (by omega) (by omega))
  have g0 := (hW1.1 0 0 h0).1
  have g13 := (hW1.1 13 0 h13).1
  have g18 := (hW1.1 18 0 h18).1
  have g19 : ∀ q, ¬ w1.2 19 q := fun q hq => (hW1.2 19 q hq).elim (h19 q) (fun h => by omega)
  show V X (z.1 + 2, z.2 + 12) w1 _ (lvw w b n) s1 [.int (iI k1)]
  have e0 := (hW1.1 0 0 h0).2
  have e13 := (hW1.1 13 0 h13).2
  have e18 := (hW1.1 18 0 h18).2
  rw [show lvw w b n = lvw w1 b n by show [_, _, _, _, _] = [_, _, _, _, _]; rw [e0, e13, e18]]
  refine v_istore hX (lv' := [(5, .int (iI k1)), (4, .int (iI (7 * (n : Int)))), (3, .ref (w1.1 18 0)), (2, .ref (w1.1 13 0)), (1, .ref (w1.1 0 0)), (0, .ref b)]) (Nat.le_of_ble_eq_true rfl) rfl (atL dAL_law_9 35 rfl) ?_
  refine v_aload_n hX 3 rfl (atL dAL_law_9 36 rfl) ?_
  refine v_aload_n hX 5 rfl (atL dAL_law_9 37 rfl) ?_
  refine v_iload hX 1 rfl (atL dAL_law_9 38 rfl) ?_
  refine v_iconst hX (atL dAL_law_9 39 rfl) ?_
  refine v_iadd hX (iI_add _ _) (atL dAL_law_9 40 rfl) ?_
  refine v_scld hX hS (7 * n + 1) (by omega) (by omega) hL (atL dAL_law_9 41 rfl) ?_
  rw [← hp1]
  refine v_aload_n hX 5 rfl (atL dAL_law_9 42 rfl) ?_
  refine v_iload hX 1 rfl (atL dAL_law_9 43 rfl) ?_
  refine v_iconst hX (atL dAL_law_9 44 rfl) ?_
  refine v_iadd hX (iI_add _ _) (atL dAL_law_9 45 rfl) ?_
  refine v_scld hX hS (7 * n + 2) (by omega) (by omega) hL (atL dAL_law_9 46 rfl) ?_
  rw [← hp2]
  refine v_callV hX (As := [.int (iI p1), .int (iI p2)]) (rest := []) (c_X8_next (xl X) w1 s1 g13 A hM1 p1 hr1 p2 hr2) lk_L_148 g13 (fun _ => rfl) rfl rfl rfl (by rw [hR]; exact ⟨Nat.le_of_ble_eq_true rfl, Nat.le_of_ble_eq_true rfl⟩) (by rw [hR]; exact ⟨by show z.1 + 2 ≤ 601024; omega, by show z.2 + 12 ≤ 7293034; omega⟩) rfl (Nat.le_of_ble_eq_true rfl) (atL dAL_law_9 47 rfl) (fun b2 s2 hq2 => ?_)
  obtain ⟨A2, hR2, hM2, hC2⟩ := hq2
  obtain ⟨ek, ea, eA⟩ := res_eq (uq_next hR1 hR2)
  subst eA
  subst ea
  have hH2 : HS s2 A1 := hH1.eq (fun c hc => funext fun i => hC2 c i (Or.inl hc))
  have fin : V X (z.1 + 2, z.2 + 12) w1 2311 (lvw w1 b n) s2 [] := v_fin hX (cn_next (mc := 2) (ms := 12) nx hG hZ (by decide) (by decide) ⟨hH2, hM2, hK1, g0, g13, g18, g19⟩)
  have hzq : ((z.1 + 2, z.2 + 12) : Nat × Nat).1 ≤ 601024 ∧ ((z.1 + 2, z.2 + 12) : Nat × Nat).2 ≤ 7293034 := ⟨by show z.1 + 2 ≤ 601024; omega, by show z.2 + 12 ≤ 7293034; omega⟩
  show V X (z.1 + 2, z.2 + 12) w1 _ _ s2 [.int (iI a1)]
  refine v_istore hX (lv' := [(6, .int (iI a1)), (5, .int (iI k1)), (4, .int (iI (7 * (n : Int)))), (3, .ref (w1.1 18 0)), (2, .ref (w1.1 13 0)), (1, .ref (w1.1 0 0)), (0, .ref b)]) (Nat.le_of_ble_eq_true rfl) rfl (atL dAL_law_9 48 rfl) ?_
  refine v_aload_n hX 4 rfl (atL dAL_law_9 49 rfl) ?_
  refine v_callV hX (As := []) (rest := []) (c_X8_thrown (xl X) w1 s2 g13) lk_L_110 g13 (fun _ => rfl) rfl rfl rfl (by rw [hR]; exact ⟨Nat.le_of_ble_eq_true rfl, Nat.le_of_ble_eq_true rfl⟩) (by rw [hR]; exact hzq) rfl (Nat.le_of_ble_eq_true rfl) (atL dAL_law_9 50 rfl) (fun r3 s3 hq3 => ?_)
  obtain ⟨er, es⟩ := hq3
  rw [es, er, ← ek]
  show V X (z.1 + 2, z.2 + 12) w1 _ _ s2 [.int (iI k1)]
  refine v_iload hX 1 rfl (atL dAL_law_9 51 rfl) ?_
  refine v_icmp_eq hX ⟨by omega, by omega⟩ ⟨by omega, by omega⟩ (tgt := 1000) (atL dAL_law_9 52 rfl) (by decide) (fun _ => ?_) (fun h => absurd rfl h)
  refine v_iload hX 1 rfl (atL dAL_law_9 55 rfl) ?_
  refine v_if_ne hX ⟨by omega, by omega⟩ (tgt := 1017) (atL dAL_law_9 56 rfl) (by decide) (fun hkk => ?_) (fun hkk => ?_)
  · refine v_goto hX (tgt := 2311) (atL dAL_law_10 6 rfl) (by decide) ?_
    exact v_sub (lv' := lvw w1 b n) [2, 3, 4, 5, 6] rfl fin
  · have hv : s2 15 0 0 = oI a1 := (congrFun (hC2 15 0 (Or.inr (Or.inl rfl))) 0).trans (ho1 hkk)
    refine v_aload_n hX 3 rfl (atL dAL_law_9 57 rfl) ?_
    refine v_iconst hX (atL dAL_law_9 58 rfl) ?_
    refine v_lald hX (r := jI (oI a1)) 0 g18 (fun _ => rfl) rfl (by decide) (by decide) (congrArg jI hv) (atL dAL_law_9 59 rfl) ?_
    refine v_iload hX 0 rfl (atL dAL_law_10 0 rfl) ?_
    refine v_i2l hX (i2l_of a1) (atL dAL_law_10 1 rfl) ?_
    refine v_lcmp_eq hX (rJ_oI a1) (rJ_oI a1) (atL dAL_law_10 2 rfl) (atL dAL_law_10 3 rfl) (tgt := 1017) (by decide) (fun _ => ?_) (fun h => absurd rfl h)
    refine v_goto hX (tgt := 2311) (atL dAL_law_10 6 rfl) (by decide) ?_
    exact v_sub (lv' := lvw w1 b n) [2, 3, 4, 5, 6] rfl fin

set_option maxHeartbeats 1000000 in
set_option maxRecDepth 100000 in
theorem case_digest [G : Gh] {X : CX} (hX : okX X code 7 RL ret) (hR : xR X = room_1) (hst : (xl X).stackTraces = false) (hN : va_Nc eA eI (xs X)) {b L : Nat} {sc : Nat → Int32} (hS : XS X b L sc) (hL : L ≤ 3584) {n : Nat} (hn : 7 * n + 7 ≤ L) (hG : ghk = 0 ∨ ghk = 1) {z : Nat × Nat} {w : Wl} {σ : St} {A : Ab} (hI : LwS w σ A) (hZ : ZB n z) (nx : NX X b (n + 1)) : V X z w 1020 (lvw w b n) σ [] := by
  obtain ⟨hH, hM, hK, h0, h13, h18, h19⟩ := hI
  have z1 : z.1 ≤ 40000 := by have := hZ.1; omega
  have z2 : z.2 ≤ 600000 := by have := hZ.2; omega
  obtain ⟨p1, hp1⟩ : ∃ q, q = (sc (7 * n + 1)).toInt := ⟨_, rfl⟩
  have hr1 : rI p1 := by rw [hp1]; exact rI_of _
  obtain ⟨p2, hp2⟩ : ∃ q, q = (sc (7 * n + 2)).toInt := ⟨_, rfl⟩
  have hr2 : rI p2 := by rw [hp2]; exact rI_of _
  obtain ⟨p3, hp3⟩ : ∃ q, q = (sc (7 * n + 3)).toInt := ⟨_, rfl⟩
  have hr3 : rI p3 := by rw [hp3]; exact rI_of _
  refine v_aload_n hX 3 rfl (atL dAL_law_10 7 rfl) ?_
  refine v_aload_n hX 4 rfl (atL dAL_law_10 8 rfl) ?_
  refine v_iload hX 0 rfl (atL dAL_law_10 9 rfl) ?_
  refine v_iconst hX (atL dAL_law_10 10 rfl) ?_
  refine v_iadd hX (iI_add _ _) (atL dAL_law_10 11 rfl) ?_
  refine v_scld hX hS (7 * n + 1) (by omega) (by omega) hL (atL dAL_law_10 12 rfl) ?_
  rw [← hp1]
  refine v_aload_n hX 4 rfl (atL dAL_law_10 13 rfl) ?_
  refine v_iload hX 0 rfl (atL dAL_law_10 14 rfl) ?_
  refine v_iconst hX (atL dAL_law_10 15 rfl) ?_
  refine v_iadd hX (iI_add _ _) (atL dAL_law_10 16 rfl) ?_
  refine v_scld hX hS (7 * n + 2) (by omega) (by omega) hL (atL dAL_law_10 17 rfl) ?_
  rw [← hp2]
  refine v_aload_n hX 4 rfl (atL dAL_law_10 18 rfl) ?_
  refine v_iload hX 0 rfl (atL dAL_law_10 19 rfl) ?_
  refine v_iconst hX (atL dAL_law_10 20 rfl) ?_
  refine v_iadd hX (iI_add _ _) (atL dAL_law_10 21 rfl) ?_
  refine v_scld hX hS (7 * n + 3) (by omega) (by omega) hL (atL dAL_law_10 22 rfl) ?_
  rw [← hp3]
  refine v_aload_n hX 1 rfl (atL dAL_law_10 23 rfl) ?_
  refine v_callSH hX (As := [.ref (w.1 0 0), .int (iI p1), .int (iI p2), .int (iI p3), .ref (w.1 18 0)]) (rest := []) (c_L_digest (xl X) hst w σ h0 h18 A hH hK p1 hr1 p2 hr2 p3 hr3) hN lh_digest rfl (by rw [hR]; exact ⟨Nat.le_of_ble_eq_true rfl, Nat.le_of_ble_eq_true rfl⟩) (by rw [hR]; exact ⟨by show z.1 + 3 ≤ 601024; omega, by show z.2 + 18 ≤ 7293034; omega⟩) rfl (Nat.le_of_ble_eq_true rfl) (atL dAL_law_10 24 rfl) (fun k1 w1 s1 hq1 => ?_)
  obtain ⟨a1, A1, hR1, hH1, hF1, ho1, hW1, hK1, hk1⟩ := hq1
  have hM1 : HM s1 A := hM.eq (fun c h1 h2 => hF1 c h1 (by omega) (by omega))
  have g0 := (hW1.1 0 0 h0).1
  have g13 := (hW1.1 13 0 h13).1
  have g18 := (hW1.1 18 0 h18).1
  have g19 : ∀ q, ¬ w1.2 19 q := fun q hq => (hW1.2 19 q hq).elim (h19 q) (fun h => by omega)
  show V X (z.1 + 3, z.2 + 18) w1 _ (lvw w b n) s1 [.int (iI k1)]
  have e0 := (hW1.1 0 0 h0).2
  have e13 := (hW1.1 13 0 h13).2
  have e18 := (hW1.1 18 0 h18).2
  rw [show lvw w b n = lvw w1 b n by show [_, _, _, _, _] = [_, _, _, _, _]; rw [e0, e13, e18]]
  refine v_istore hX (lv' := [(5, .int (iI k1)), (4, .int (iI (7 * (n : Int)))), (3, .ref (w1.1 18 0)), (2, .ref (w1.1 13 0)), (1, .ref (w1.1 0 0)), (0, .ref b)]) (Nat.le_of_ble_eq_true rfl) rfl (atL dAL_law_10 25 rfl) ?_
  refine v_aload_n hX 3 rfl (atL dAL_law_10 26 rfl) ?_
  refine v_aload_n hX 5 rfl (atL dAL_law_10 27 rfl) ?_
  refine v_iload hX 1 rfl (atL dAL_law_10 28 rfl) ?_
  refine v_iconst hX (atL dAL_law_10 29 rfl) ?_
  refine v_iadd hX (iI_add _ _) (atL dAL_law_10 30 rfl) ?_
  refine v_scld hX hS (7 * n + 1) (by omega) (by omega) hL (atL dAL_law_10 31 rfl) ?_
  rw [← hp1]
  refine v_aload_n hX 5 rfl (atL dAL_law_10 32 rfl) ?_
  refine v_iload hX 1 rfl (atL dAL_law_10 33 rfl) ?_
  refine v_iconst hX (atL dAL_law_10 34 rfl) ?_
  refine v_iadd hX (iI_add _ _) (atL dAL_law_10 35 rfl) ?_
  refine v_scld hX hS (7 * n + 2) (by omega) (by omega) hL (atL dAL_law_10 36 rfl) ?_
  rw [← hp2]
  refine v_aload_n hX 5 rfl (atL dAL_law_10 37 rfl) ?_
  refine v_iload hX 1 rfl (atL dAL_law_10 38 rfl) ?_
  refine v_iconst hX (atL dAL_law_10 39 rfl) ?_
  refine v_iadd hX (iI_add _ _) (atL dAL_law_10 40 rfl) ?_
  refine v_scld hX hS (7 * n + 3) (by omega) (by omega) hL (atL dAL_law_10 41 rfl) ?_
  rw [← hp3]
  have hkp := kap_le (s := s1)
  refine v_callVZ hX (As := [.int (iI p1), .int (iI p2), .int (iI p3)]) (rest := []) (c_X8_digest (xl X) w1 s1 g13 (fun q hq => absurd hq (g19 q)) A hM1 p1 hr1 p2 hr2 p3 hr3) lk_L_151 g13 (fun _ => rfl) rfl rfl rfl (by rw [hR]; exact ⟨Nat.le_of_ble_eq_true rfl, Nat.le_of_ble_eq_true rfl⟩) (by rw [hR]; exact ⟨by show z.1 + 3 + kap s1 * 10360 ≤ 601024; omega, by show z.2 + 18 + kap s1 * 103600 ≤ 7293034; omega⟩) rfl (Nat.le_of_ble_eq_true rfl) (atL dAL_law_10 42 rfl) (fun b2 s2 hq2 hkq => ?_)
  obtain ⟨A2, hR2, hM2, hC2⟩ := hq2
  obtain ⟨ek, ea, eA⟩ := res_eq (uq_res hR1 hR2)
  subst eA
  subst ea
  have hH2 : HS s2 A1 := hH1.eq (fun c hc => funext fun i => hC2 c i (Or.inl hc))
  have fin : V X (z.1 + 3 + (kap s1 * 10360 - kap s2 * 10360), z.2 + 18 + (kap s1 * 103600 - kap s2 * 103600)) w1 2311 (lvw w1 b n) s2 [] := v_fin hX (cz_next (mc := 3) (ms := 18) nx hG hZ (by decide) (by decide) hM1 ⟨hH2, hM2, hK1, g0, g13, g18, g19⟩)
  have hzq : ((z.1 + 3 + (kap s1 * 10360 - kap s2 * 10360), z.2 + 18 + (kap s1 * 103600 - kap s2 * 103600)) : Nat × Nat).1 ≤ 601024 ∧ ((z.1 + 3 + (kap s1 * 10360 - kap s2 * 10360), z.2 + 18 + (kap s1 * 103600 - kap s2 * 103600)) : Nat × Nat).2 ≤ 7293034 := ⟨by show z.1 + 3 + (kap s1 * 10360 - kap s2 * 10360) ≤ 601024; omega, by show z.2 + 18 + (kap s1 * 103600 - kap s2 * 103600) ≤ 7293034; omega⟩
  show V X (z.1 + 3 + (kap s1 * 10360 - kap s2 * 10360), z.2 + 18 + (kap s1 * 103600 - kap s2 * 103600)) w1 _ _ s2 [.int (iI a1)]
  refine v_istore hX (lv' := [(6, .int (iI a1)), (5, .int (iI k1)), (4, .int (iI (7 * (n : Int)))), (3, .ref (w1.1 18 0)), (2, .ref (w1.1 13 0)), (1, .ref (w1.1 0 0)), (0, .ref b)]) (Nat.le_of_ble_eq_true rfl) rfl (atL dAL_law_10 43 rfl) ?_
  refine v_aload_n hX 4 rfl (atL dAL_law_10 44 rfl) ?_
  refine v_callV hX (As := []) (rest := []) (c_X8_thrown (xl X) w1 s2 g13) lk_L_110 g13 (fun _ => rfl) rfl rfl rfl (by rw [hR]; exact ⟨Nat.le_of_ble_eq_true rfl, Nat.le_of_ble_eq_true rfl⟩) (by rw [hR]; exact hzq) rfl (Nat.le_of_ble_eq_true rfl) (atL dAL_law_10 45 rfl) (fun r3 s3 hq3 => ?_)
  obtain ⟨er, es⟩ := hq3
  rw [es, er, ← ek]
  show V X (z.1 + 3 + (kap s1 * 10360 - kap s2 * 10360), z.2 + 18 + (kap s1 * 103600 - kap s2 * 103600)) w1 _ _ s2 [.int (iI k1)]
  refine v_iload hX 1 rfl (atL dAL_law_10 46 rfl) ?_
  refine v_icmp_eq hX ⟨by omega, by omega⟩ ⟨by omega, by omega⟩ (tgt := 1080) (atL dAL_law_10 47 rfl) (by decide) (fun _ => ?_) (fun h => absurd rfl h)
  refine v_iload hX 1 rfl (atL dAL_law_10 50 rfl) ?_
  refine v_if_ne hX ⟨by omega, by omega⟩ (tgt := 1097) (atL dAL_law_10 51 rfl) (by decide) (fun hkk => ?_) (fun hkk => ?_)
  · refine v_goto hX (tgt := 2311) (atL dAL_law_11 1 rfl) (by decide) ?_
    exact v_sub (lv' := lvw w1 b n) [2, 3, 4, 5, 6] rfl fin
  · have hv : s2 15 0 0 = oI a1 := (congrFun (hC2 15 0 (Or.inr (Or.inl rfl))) 0).trans (ho1 hkk)
    refine v_aload_n hX 3 rfl (atL dAL_law_10 52 rfl) ?_
    refine v_iconst hX (atL dAL_law_10 53 rfl) ?_
    refine v_lald hX (r := jI (oI a1)) 0 g18 (fun _ => rfl) rfl (by decide) (by decide) (congrArg jI hv) (atL dAL_law_10 54 rfl) ?_
    refine v_iload hX 0 rfl (atL dAL_law_10 55 rfl) ?_
    refine v_i2l hX (i2l_of a1) (atL dAL_law_10 56 rfl) ?_
    refine v_lcmp_eq hX (rJ_oI a1) (rJ_oI a1) (atL dAL_law_10 57 rfl) (atL dAL_law_10 58 rfl) (tgt := 1097) (by decide) (fun _ => ?_) (fun h => absurd rfl h)
    refine v_goto hX (tgt := 2311) (atL dAL_law_11 1 rfl) (by decide) ?_
    exact v_sub (lv' := lvw w1 b n) [2, 3, 4, 5, 6] rfl fin

set_option maxHeartbeats 1000000 in
set_option maxRecDepth 100000 in
theorem case_mask [G : Gh] {X : CX} (hX : okX X code 7 RL ret) (hR : xR X = room_1) (hst : (xl X).stackTraces = false) (hN : va_Nc eA eI (xs X)) {b L : Nat} {sc : Nat → Int32} (hS : XS X b L sc) (hL : L ≤ 3584) {n : Nat} (hn : 7 * n + 7 ≤ L) (hG : ghk = 0 ∨ ghk = 1) {z : Nat × Nat} {w : Wl} {σ : St} {A : Ab} (hI : LwS w σ A) (hZ : ZB n z) (nx : NX X b (n + 1)) : V X z w 1100 (lvw w b n) σ [] := by
  obtain ⟨hH, hM, hK, h0, h13, h18, h19⟩ := hI
  have z1 : z.1 ≤ 40000 := by have := hZ.1; omega
  have z2 : z.2 ≤ 600000 := by have := hZ.2; omega
  obtain ⟨p1, hp1⟩ : ∃ q, q = (sc (7 * n + 1)).toInt := ⟨_, rfl⟩
  have hr1 : rI p1 := by rw [hp1]; exact rI_of _
  obtain ⟨p2, hp2⟩ : ∃ q, q = (sc (7 * n + 2)).toInt := ⟨_, rfl⟩
  have hr2 : rI p2 := by rw [hp2]; exact rI_of _
  obtain ⟨p3, hp3⟩ : ∃ q, q = (sc (7 * n + 3)).toInt := ⟨_, rfl⟩
  have hr3 : rI p3 := by rw [hp3]; exact rI_of _
  obtain ⟨p4, hp4⟩ : ∃ q, q = (sc (7 * n + 4)).toInt := ⟨_, rfl⟩
  have hr4 : rI p4 := by rw [hp4]; exact rI_of _
  refine v_aload_n hX 3 rfl (atL dAL_law_11 2 rfl) ?_
  refine v_aload_n hX 4 rfl (atL dAL_law_11 3 rfl) ?_
  refine v_iload hX 0 rfl (atL dAL_law_11 4 rfl) ?_
  refine v_iconst hX (atL dAL_law_11 5 rfl) ?_
  refine v_iadd hX (iI_add _ _) (atL dAL_law_11 6 rfl) ?_
  refine v_scld hX hS (7 * n + 1) (by omega) (by omega) hL (atL dAL_law_11 7 rfl) ?_
  rw [← hp1]
  refine v_aload_n hX 4 rfl (atL dAL_law_11 8 rfl) ?_
  refine v_iload hX 0 rfl (atL dAL_law_11 9 rfl) ?_
  refine v_iconst hX (atL dAL_law_11 10 rfl) ?_
  refine v_iadd hX (iI_add _ _) (atL dAL_law_11 11 rfl) ?_
  refine v_scld hX hS (7 * n + 2) (by omega) (by omega) hL (atL dAL_law_11 12 rfl) ?_
  rw [← hp2]
  refine v_aload_n hX 4 rfl (atL dAL_law_11 13 rfl) ?_
  refine v_iload hX 0 rfl (atL dAL_law_11 14 rfl) ?_
  refine v_iconst hX (atL dAL_law_11 15 rfl) ?_
  refine v_iadd hX (iI_add _ _) (atL dAL_law_11 16 rfl) ?_
  refine v_scld hX hS (7 * n + 3) (by omega) (by omega) hL (atL dAL_law_11 17 rfl) ?_
  rw [← hp3]
  refine v_aload_n hX 4 rfl (atL dAL_law_11 18 rfl) ?_
  refine v_iload hX 0 rfl (atL dAL_law_11 19 rfl) ?_
  refine v_iconst hX (atL dAL_law_11 20 rfl) ?_
  refine v_iadd hX (iI_add _ _) (atL dAL_law_11 21 rfl) ?_
  refine v_scld hX hS (7 * n + 4) (by omega) (by omega) hL (atL dAL_law_11 22 rfl) ?_
  rw [← hp4]
  refine v_aload_n hX 1 rfl (atL dAL_law_11 23 rfl) ?_
  refine v_callSH hX (As := [.ref (w.1 0 0), .int (iI p1), .int (iI p2), .int (iI p3), .int (iI p4), .ref (w.1 18 0)]) (rest := []) (c_L_mask (xl X) hst w σ h0 h18 A hH hK p1 hr1 p2 hr2 p3 hr3 p4 hr4) hN lh_mask rfl (by rw [hR]; exact ⟨Nat.le_of_ble_eq_true rfl, Nat.le_of_ble_eq_true rfl⟩) (by rw [hR]; exact ⟨by show z.1 + 4 ≤ 601024; omega, by show z.2 + 24 ≤ 7293034; omega⟩) rfl (Nat.le_of_ble_eq_true rfl) (atL dAL_law_11 24 rfl) (fun k1 w1 s1 hq1 => ?_)
  obtain ⟨a1, A1, hR1, hH1, hF1, ho1, hW1, hK1, hk1⟩ := hq1
  have hM1 : HM s1 A := hM.eq (fun c h1 h2 => hF1 c h1 (by omega) (by omega))
  have g0 := (hW1.1 0 0 h0).1
  have g13 := (hW1.1 13 0 h13).1
  have g18 := (hW1.1 18 0 h18).1
  have g19 : ∀ q, ¬ w1.2 19 q := fun q hq => (hW1.2 19 q hq).elim (h19 q) (fun h => by omega)
  show V X (z.1 + 4, z.2 + 24) w1 _ (lvw w b n) s1 [.int (iI k1)]
  have e0 := (hW1.1 0 0 h0).2
  have e13 := (hW1.1 13 0 h13).2
  have e18 := (hW1.1 18 0 h18).2
  rw [show lvw w b n = lvw w1 b n by show [_, _, _, _, _] = [_, _, _, _, _]; rw [e0, e13, e18]]
  refine v_istore hX (lv' := [(5, .int (iI k1)), (4, .int (iI (7 * (n : Int)))), (3, .ref (w1.1 18 0)), (2, .ref (w1.1 13 0)), (1, .ref (w1.1 0 0)), (0, .ref b)]) (Nat.le_of_ble_eq_true rfl) rfl (atL dAL_law_11 25 rfl) ?_
  refine v_aload_n hX 3 rfl (atL dAL_law_11 26 rfl) ?_
  refine v_aload_n hX 5 rfl (atL dAL_law_11 27 rfl) ?_
  refine v_iload hX 1 rfl (atL dAL_law_11 28 rfl) ?_
  refine v_iconst hX (atL dAL_law_11 29 rfl) ?_
  refine v_iadd hX (iI_add _ _) (atL dAL_law_11 30 rfl) ?_
  refine v_scld hX hS (7 * n + 1) (by omega) (by omega) hL (atL dAL_law_11 31 rfl) ?_
  rw [← hp1]
  refine v_aload_n hX 5 rfl (atL dAL_law_11 32 rfl) ?_
  refine v_iload hX 1 rfl (atL dAL_law_11 33 rfl) ?_
  refine v_iconst hX (atL dAL_law_11 34 rfl) ?_
  refine v_iadd hX (iI_add _ _) (atL dAL_law_11 35 rfl) ?_
  refine v_scld hX hS (7 * n + 2) (by omega) (by omega) hL (atL dAL_law_11 36 rfl) ?_
  rw [← hp2]
  refine v_aload_n hX 5 rfl (atL dAL_law_11 37 rfl) ?_
  refine v_iload hX 1 rfl (atL dAL_law_11 38 rfl) ?_
  refine v_iconst hX (atL dAL_law_11 39 rfl) ?_
  refine v_iadd hX (iI_add _ _) (atL dAL_law_11 40 rfl) ?_
  refine v_scld hX hS (7 * n + 3) (by omega) (by omega) hL (atL dAL_law_11 41 rfl) ?_
  rw [← hp3]
  refine v_aload_n hX 5 rfl (atL dAL_law_11 42 rfl) ?_
  refine v_iload hX 1 rfl (atL dAL_law_11 43 rfl) ?_
  refine v_iconst hX (atL dAL_law_11 44 rfl) ?_
  refine v_iadd hX (iI_add _ _) (atL dAL_law_11 45 rfl) ?_
  refine v_scld hX hS (7 * n + 4) (by omega) (by omega) hL (atL dAL_law_11 46 rfl) ?_
  rw [← hp4]
  have hkp := kap_le (s := s1)
  refine v_callVZ hX (As := [.int (iI p1), .int (iI p2), .int (iI p3), .int (iI p4)]) (rest := []) (c_X8_mask (xl X) w1 s1 g13 (fun q hq => absurd hq (g19 q)) A hM1 p1 hr1 p2 hr2 p3 hr3 p4 hr4) lk_L_154 g13 (fun _ => rfl) rfl rfl rfl (by rw [hR]; exact ⟨Nat.le_of_ble_eq_true rfl, Nat.le_of_ble_eq_true rfl⟩) (by rw [hR]; exact ⟨by show z.1 + 4 + kap s1 * 10360 ≤ 601024; omega, by show z.2 + 24 + kap s1 * 103600 ≤ 7293034; omega⟩) rfl (Nat.le_of_ble_eq_true rfl) (atL dAL_law_11 47 rfl) (fun b2 s2 hq2 hkq => ?_)
  obtain ⟨A2, hR2, hM2, hC2⟩ := hq2
  obtain ⟨ek, ea, eA⟩ := res_eq (uq_res hR1 hR2)
  subst eA
  subst ea
  have hH2 : HS s2 A1 := hH1.eq (fun c hc => funext fun i => hC2 c i (Or.inl hc))
  have fin : V X (z.1 + 4 + (kap s1 * 10360 - kap s2 * 10360), z.2 + 24 + (kap s1 * 103600 - kap s2 * 103600)) w1 2311 (lvw w1 b n) s2 [] := v_fin hX (cz_next (mc := 4) (ms := 24) nx hG hZ (by decide) (by decide) hM1 ⟨hH2, hM2, hK1, g0, g13, g18, g19⟩)
  have hzq : ((z.1 + 4 + (kap s1 * 10360 - kap s2 * 10360), z.2 + 24 + (kap s1 * 103600 - kap s2 * 103600)) : Nat × Nat).1 ≤ 601024 ∧ ((z.1 + 4 + (kap s1 * 10360 - kap s2 * 10360), z.2 + 24 + (kap s1 * 103600 - kap s2 * 103600)) : Nat × Nat).2 ≤ 7293034 := ⟨by show z.1 + 4 + (kap s1 * 10360 - kap s2 * 10360) ≤ 601024; omega, by show z.2 + 24 + (kap s1 * 103600 - kap s2 * 103600) ≤ 7293034; omega⟩
  show V X (z.1 + 4 + (kap s1 * 10360 - kap s2 * 10360), z.2 + 24 + (kap s1 * 103600 - kap s2 * 103600)) w1 _ _ s2 [.int (iI a1)]
  refine v_istore hX (lv' := [(6, .int (iI a1)), (5, .int (iI k1)), (4, .int (iI (7 * (n : Int)))), (3, .ref (w1.1 18 0)), (2, .ref (w1.1 13 0)), (1, .ref (w1.1 0 0)), (0, .ref b)]) (Nat.le_of_ble_eq_true rfl) rfl (atL dAL_law_11 48 rfl) ?_
  refine v_aload_n hX 4 rfl (atL dAL_law_11 49 rfl) ?_
  refine v_callV hX (As := []) (rest := []) (c_X8_thrown (xl X) w1 s2 g13) lk_L_110 g13 (fun _ => rfl) rfl rfl rfl (by rw [hR]; exact ⟨Nat.le_of_ble_eq_true rfl, Nat.le_of_ble_eq_true rfl⟩) (by rw [hR]; exact hzq) rfl (Nat.le_of_ble_eq_true rfl) (atL dAL_law_11 50 rfl) (fun r3 s3 hq3 => ?_)
  obtain ⟨er, es⟩ := hq3
  rw [es, er, ← ek]
  show V X (z.1 + 4 + (kap s1 * 10360 - kap s2 * 10360), z.2 + 24 + (kap s1 * 103600 - kap s2 * 103600)) w1 _ _ s2 [.int (iI k1)]
  refine v_iload hX 1 rfl (atL dAL_law_11 51 rfl) ?_
  refine v_icmp_eq hX ⟨by omega, by omega⟩ ⟨by omega, by omega⟩ (tgt := 1172) (atL dAL_law_11 52 rfl) (by decide) (fun _ => ?_) (fun h => absurd rfl h)
  refine v_iload hX 1 rfl (atL dAL_law_11 55 rfl) ?_
  refine v_if_ne hX ⟨by omega, by omega⟩ (tgt := 1189) (atL dAL_law_11 56 rfl) (by decide) (fun hkk => ?_) (fun hkk => ?_)
  · refine v_goto hX (tgt := 2311) (atL dAL_law_12 6 rfl) (by decide) ?_
    exact v_sub (lv' := lvw w1 b n) [2, 3, 4, 5, 6] rfl fin
  · have hv : s2 15 0 0 = oI a1 := (congrFun (hC2 15 0 (Or.inr (Or.inl rfl))) 0).trans (ho1 hkk)
    refine v_aload_n hX 3 rfl (atL dAL_law_11 57 rfl) ?_
    refine v_iconst hX (atL dAL_law_11 58 rfl) ?_
    refine v_lald hX (r := jI (oI a1)) 0 g18 (fun _ => rfl) rfl (by decide) (by decide) (congrArg jI hv) (atL dAL_law_11 59 rfl) ?_
    refine v_iload hX 0 rfl (atL dAL_law_12 0 rfl) ?_
    refine v_i2l hX (i2l_of a1) (atL dAL_law_12 1 rfl) ?_
    refine v_lcmp_eq hX (rJ_oI a1) (rJ_oI a1) (atL dAL_law_12 2 rfl) (atL dAL_law_12 3 rfl) (tgt := 1189) (by decide) (fun _ => ?_) (fun h => absurd rfl h)
    refine v_goto hX (tgt := 2311) (atL dAL_law_12 6 rfl) (by decide) ?_
    exact v_sub (lv' := lvw w1 b n) [2, 3, 4, 5, 6] rfl fin

set_option maxHeartbeats 1000000 in
set_option maxRecDepth 100000 in
theorem case_key [G : Gh] {X : CX} (hX : okX X code 7 RL ret) (hR : xR X = room_1) (hst : (xl X).stackTraces = false) (hN : va_Nc eA eI (xs X)) {b L : Nat} {sc : Nat → Int32} (hS : XS X b L sc) (hL : L ≤ 3584) {n : Nat} (hn : 7 * n + 7 ≤ L) (hG : ghk = 0 ∨ ghk = 1) {z : Nat × Nat} {w : Wl} {σ : St} {A : Ab} (hI : LwS w σ A) (hZ : ZB n z) (nx : NX X b (n + 1)) : V X z w 1192 (lvw w b n) σ [] := by
  obtain ⟨hH, hM, hK, h0, h13, h18, h19⟩ := hI
  have z1 : z.1 ≤ 40000 := by have := hZ.1; omega
  have z2 : z.2 ≤ 600000 := by have := hZ.2; omega
  obtain ⟨p1, hp1⟩ : ∃ q, q = (sc (7 * n + 1)).toInt := ⟨_, rfl⟩
  have hr1 : rI p1 := by rw [hp1]; exact rI_of _
  obtain ⟨p2, hp2⟩ : ∃ q, q = (sc (7 * n + 2)).toInt := ⟨_, rfl⟩
  have hr2 : rI p2 := by rw [hp2]; exact rI_of _
  obtain ⟨p3, hp3⟩ : ∃ q, q = (sc (7 * n + 3)).toInt := ⟨_, rfl⟩
  have hr3 : rI p3 := by rw [hp3]; exact rI_of _
  refine v_aload_n hX 3 rfl (atL dAL_law_12 7 rfl) ?_
  refine v_aload_n hX 4 rfl (atL dAL_law_12 8 rfl) ?_
  refine v_iload hX 0 rfl (atL dAL_law_12 9 rfl) ?_
  refine v_iconst hX (atL dAL_law_12 10 rfl) ?_
  refine v_iadd hX (iI_add _ _) (atL dAL_law_12 11 rfl) ?_
  refine v_scld hX hS (7 * n + 1) (by omega) (by omega) hL (atL dAL_law_12 12 rfl) ?_
  rw [← hp1]
  refine v_aload_n hX 4 rfl (atL dAL_law_12 13 rfl) ?_
  refine v_iload hX 0 rfl (atL dAL_law_12 14 rfl) ?_
  refine v_iconst hX (atL dAL_law_12 15 rfl) ?_
  refine v_iadd hX (iI_add _ _) (atL dAL_law_12 16 rfl) ?_
  refine v_scld hX hS (7 * n + 2) (by omega) (by omega) hL (atL dAL_law_12 17 rfl) ?_
  rw [← hp2]
  refine v_aload_n hX 4 rfl (atL dAL_law_12 18 rfl) ?_
  refine v_iload hX 0 rfl (atL dAL_law_12 19 rfl) ?_
  refine v_iconst hX (atL dAL_law_12 20 rfl) ?_
  refine v_iadd hX (iI_add _ _) (atL dAL_law_12 21 rfl) ?_
  refine v_scld hX hS (7 * n + 3) (by omega) (by omega) hL (atL dAL_law_12 22 rfl) ?_
  rw [← hp3]
  refine v_aload_n hX 1 rfl (atL dAL_law_12 23 rfl) ?_
  refine v_callSH hX (As := [.ref (w.1 0 0), .int (iI p1), .int (iI p2), .int (iI p3), .ref (w.1 18 0)]) (rest := []) (c_L_key (xl X) hst w σ h0 h18 A hH hK p1 hr1 p2 hr2 p3 hr3) hN lh_key rfl (by rw [hR]; exact ⟨Nat.le_of_ble_eq_true rfl, Nat.le_of_ble_eq_true rfl⟩) (by rw [hR]; exact ⟨by show z.1 + 21 ≤ 601024; omega, by show z.2 + 684 ≤ 7293034; omega⟩) rfl (Nat.le_of_ble_eq_true rfl) (atL dAL_law_12 24 rfl) (fun k1 w1 s1 hq1 => ?_)
  obtain ⟨a1, A1, hR1, hH1, hF1, ho1, hW1, hK1, hk1⟩ := hq1
  have hM1 : HM s1 A := hM.eq (fun c h1 h2 => hF1 c h1 (by omega) (by omega))
  have g0 := (hW1.1 0 0 h0).1
  have g13 := (hW1.1 13 0 h13).1
  have g18 := (hW1.1 18 0 h18).1
  have g19 : ∀ q, ¬ w1.2 19 q := fun q hq => (hW1.2 19 q hq).elim (h19 q) (fun h => by omega)
  show V X (z.1 + 21, z.2 + 684) w1 _ (lvw w b n) s1 [.int (iI k1)]
  have e0 := (hW1.1 0 0 h0).2
  have e13 := (hW1.1 13 0 h13).2
  have e18 := (hW1.1 18 0 h18).2
  rw [show lvw w b n = lvw w1 b n by show [_, _, _, _, _] = [_, _, _, _, _]; rw [e0, e13, e18]]
  refine v_istore hX (lv' := [(5, .int (iI k1)), (4, .int (iI (7 * (n : Int)))), (3, .ref (w1.1 18 0)), (2, .ref (w1.1 13 0)), (1, .ref (w1.1 0 0)), (0, .ref b)]) (Nat.le_of_ble_eq_true rfl) rfl (atL dAL_law_12 25 rfl) ?_
  refine v_aload_n hX 3 rfl (atL dAL_law_12 26 rfl) ?_
  refine v_aload_n hX 5 rfl (atL dAL_law_12 27 rfl) ?_
  refine v_iload hX 1 rfl (atL dAL_law_12 28 rfl) ?_
  refine v_iconst hX (atL dAL_law_12 29 rfl) ?_
  refine v_iadd hX (iI_add _ _) (atL dAL_law_12 30 rfl) ?_
  refine v_scld hX hS (7 * n + 1) (by omega) (by omega) hL (atL dAL_law_12 31 rfl) ?_
  rw [← hp1]
  refine v_aload_n hX 5 rfl (atL dAL_law_12 32 rfl) ?_
  refine v_iload hX 1 rfl (atL dAL_law_12 33 rfl) ?_
  refine v_iconst hX (atL dAL_law_12 34 rfl) ?_
  refine v_iadd hX (iI_add _ _) (atL dAL_law_12 35 rfl) ?_
  refine v_scld hX hS (7 * n + 2) (by omega) (by omega) hL (atL dAL_law_12 36 rfl) ?_
  rw [← hp2]
  refine v_aload_n hX 5 rfl (atL dAL_law_12 37 rfl) ?_
  refine v_iload hX 1 rfl (atL dAL_law_12 38 rfl) ?_
  refine v_iconst hX (atL dAL_law_12 39 rfl) ?_
  refine v_iadd hX (iI_add _ _) (atL dAL_law_12 40 rfl) ?_
  refine v_scld hX hS (7 * n + 3) (by omega) (by omega) hL (atL dAL_law_12 41 rfl) ?_
  rw [← hp3]
  refine v_callV hX (As := [.int (iI p1), .int (iI p2), .int (iI p3)]) (rest := []) (c_X8_key (xl X) w1 s1 g13 A hM1 p1 hr1 p2 hr2 p3 hr3) lk_L_157 g13 (fun _ => rfl) rfl rfl rfl (by rw [hR]; exact ⟨Nat.le_of_ble_eq_true rfl, Nat.le_of_ble_eq_true rfl⟩) (by rw [hR]; exact ⟨by show z.1 + 21 ≤ 601024; omega, by show z.2 + 684 ≤ 7293034; omega⟩) rfl (Nat.le_of_ble_eq_true rfl) (atL dAL_law_12 42 rfl) (fun b2 s2 hq2 => ?_)
  obtain ⟨A2, hR2, hM2, hC2⟩ := hq2
  obtain ⟨ek, ea, eA⟩ := res_eq (uq_key hR1 hR2)
  subst eA
  subst ea
  have hH2 : HS s2 A1 := hH1.eq (fun c hc => funext fun i => hC2 c i (Or.inl hc))
  have fin : V X (z.1 + 21, z.2 + 684) w1 2311 (lvw w1 b n) s2 [] := v_fin hX (cn_next (mc := 21) (ms := 684) nx hG hZ (by decide) (by decide) ⟨hH2, hM2, hK1, g0, g13, g18, g19⟩)
  have hzq : ((z.1 + 21, z.2 + 684) : Nat × Nat).1 ≤ 601024 ∧ ((z.1 + 21, z.2 + 684) : Nat × Nat).2 ≤ 7293034 := ⟨by show z.1 + 21 ≤ 601024; omega, by show z.2 + 684 ≤ 7293034; omega⟩
  show V X (z.1 + 21, z.2 + 684) w1 _ _ s2 [.int (iI a1)]
  refine v_istore hX (lv' := [(6, .int (iI a1)), (5, .int (iI k1)), (4, .int (iI (7 * (n : Int)))), (3, .ref (w1.1 18 0)), (2, .ref (w1.1 13 0)), (1, .ref (w1.1 0 0)), (0, .ref b)]) (Nat.le_of_ble_eq_true rfl) rfl (atL dAL_law_12 43 rfl) ?_
  refine v_aload_n hX 4 rfl (atL dAL_law_12 44 rfl) ?_
  refine v_callV hX (As := []) (rest := []) (c_X8_thrown (xl X) w1 s2 g13) lk_L_110 g13 (fun _ => rfl) rfl rfl rfl (by rw [hR]; exact ⟨Nat.le_of_ble_eq_true rfl, Nat.le_of_ble_eq_true rfl⟩) (by rw [hR]; exact hzq) rfl (Nat.le_of_ble_eq_true rfl) (atL dAL_law_12 45 rfl) (fun r3 s3 hq3 => ?_)
  obtain ⟨er, es⟩ := hq3
  rw [es, er, ← ek]
  show V X (z.1 + 21, z.2 + 684) w1 _ _ s2 [.int (iI k1)]
  refine v_iload hX 1 rfl (atL dAL_law_12 46 rfl) ?_
  refine v_icmp_eq hX ⟨by omega, by omega⟩ ⟨by omega, by omega⟩ (tgt := 1252) (atL dAL_law_12 47 rfl) (by decide) (fun _ => ?_) (fun h => absurd rfl h)
  refine v_iload hX 1 rfl (atL dAL_law_12 50 rfl) ?_
  refine v_if_ne hX ⟨by omega, by omega⟩ (tgt := 1269) (atL dAL_law_12 51 rfl) (by decide) (fun hkk => ?_) (fun hkk => ?_)
  · refine v_goto hX (tgt := 2311) (atL dAL_law_13 1 rfl) (by decide) ?_
    exact v_sub (lv' := lvw w1 b n) [2, 3, 4, 5, 6] rfl fin
  · have hv : s2 15 0 0 = oI a1 := (congrFun (hC2 15 0 (Or.inr (Or.inl rfl))) 0).trans (ho1 hkk)
    refine v_aload_n hX 3 rfl (atL dAL_law_12 52 rfl) ?_
    refine v_iconst hX (atL dAL_law_12 53 rfl) ?_
    refine v_lald hX (r := jI (oI a1)) 0 g18 (fun _ => rfl) rfl (by decide) (by decide) (congrArg jI hv) (atL dAL_law_12 54 rfl) ?_
    refine v_iload hX 0 rfl (atL dAL_law_12 55 rfl) ?_
    refine v_i2l hX (i2l_of a1) (atL dAL_law_12 56 rfl) ?_
    refine v_lcmp_eq hX (rJ_oI a1) (rJ_oI a1) (atL dAL_law_12 57 rfl) (atL dAL_law_12 58 rfl) (tgt := 1269) (by decide) (fun _ => ?_) (fun h => absurd rfl h)
    refine v_goto hX (tgt := 2311) (atL dAL_law_13 1 rfl) (by decide) ?_
    exact v_sub (lv' := lvw w1 b n) [2, 3, 4, 5, 6] rfl fin

set_option maxHeartbeats 1000000 in
set_option maxRecDepth 100000 in
theorem case_open [G : Gh] {X : CX} (hX : okX X code 7 RL ret) (hR : xR X = room_1) (hst : (xl X).stackTraces = false) (hN : va_Nc eA eI (xs X)) {b L : Nat} {sc : Nat → Int32} (hS : XS X b L sc) (hL : L ≤ 3584) {n : Nat} (hn : 7 * n + 7 ≤ L) (hG : ghk = 0 ∨ ghk = 1) {z : Nat × Nat} {w : Wl} {σ : St} {A : Ab} (hI : LwS w σ A) (hZ : ZB n z) (nx : NX X b (n + 1)) : V X z w 1272 (lvw w b n) σ [] := by
  obtain ⟨hH, hM, hK, h0, h13, h18, h19⟩ := hI
  have z1 : z.1 ≤ 40000 := by have := hZ.1; omega
  have z2 : z.2 ≤ 600000 := by have := hZ.2; omega
  obtain ⟨p1, hp1⟩ : ∃ q, q = (sc (7 * n + 1)).toInt := ⟨_, rfl⟩
  have hr1 : rI p1 := by rw [hp1]; exact rI_of _
  obtain ⟨p2, hp2⟩ : ∃ q, q = (sc (7 * n + 2)).toInt := ⟨_, rfl⟩
  have hr2 : rI p2 := by rw [hp2]; exact rI_of _
  refine v_aload_n hX 3 rfl (atL dAL_law_13 2 rfl) ?_
  refine v_aload_n hX 4 rfl (atL dAL_law_13 3 rfl) ?_
  refine v_iload hX 0 rfl (atL dAL_law_13 4 rfl) ?_
  refine v_iconst hX (atL dAL_law_13 5 rfl) ?_
  refine v_iadd hX (iI_add _ _) (atL dAL_law_13 6 rfl) ?_
  refine v_scld hX hS (7 * n + 1) (by omega) (by omega) hL (atL dAL_law_13 7 rfl) ?_
  rw [← hp1]
  refine v_aload_n hX 4 rfl (atL dAL_law_13 8 rfl) ?_
  refine v_iload hX 0 rfl (atL dAL_law_13 9 rfl) ?_
  refine v_iconst hX (atL dAL_law_13 10 rfl) ?_
  refine v_iadd hX (iI_add _ _) (atL dAL_law_13 11 rfl) ?_
  refine v_scld hX hS (7 * n + 2) (by omega) (by omega) hL (atL dAL_law_13 12 rfl) ?_
  rw [← hp2]
  refine v_aload_n hX 1 rfl (atL dAL_law_13 13 rfl) ?_
  refine v_callSH hX (As := [.ref (w.1 0 0), .int (iI p1), .int (iI p2), .ref (w.1 18 0)]) (rest := []) (c_L_open (xl X) hst w σ h0 h18 A hH hK p1 hr1 p2 hr2) hN lh_open rfl (by rw [hR]; exact ⟨Nat.le_of_ble_eq_true rfl, Nat.le_of_ble_eq_true rfl⟩) (by rw [hR]; exact ⟨by show z.1 + 20 ≤ 601024; omega, by show z.2 + 678 ≤ 7293034; omega⟩) rfl (Nat.le_of_ble_eq_true rfl) (atL dAL_law_13 14 rfl) (fun k1 w1 s1 hq1 => ?_)
  obtain ⟨a1, A1, hR1, hH1, hF1, ho1, hW1, hK1, hk1⟩ := hq1
  have hM1 : HM s1 A := hM.eq (fun c h1 h2 => hF1 c h1 (by omega) (by omega))
  have g0 := (hW1.1 0 0 h0).1
  have g13 := (hW1.1 13 0 h13).1
  have g18 := (hW1.1 18 0 h18).1
  have g19 : ∀ q, ¬ w1.2 19 q := fun q hq => (hW1.2 19 q hq).elim (h19 q) (fun h => by omega)
  show V X (z.1 + 20, z.2 + 678) w1 _ (lvw w b n) s1 [.int (iI k1)]
  have e0 := (hW1.1 0 0 h0).2
  have e13 := (hW1.1 13 0 h13).2
  have e18 := (hW1.1 18 0 h18).2
  rw [show lvw w b n = lvw w1 b n by show [_, _, _, _, _] = [_, _, _, _, _]; rw [e0, e13, e18]]
  refine v_istore hX (lv' := [(5, .int (iI k1)), (4, .int (iI (7 * (n : Int)))), (3, .ref (w1.1 18 0)), (2, .ref (w1.1 13 0)), (1, .ref (w1.1 0 0)), (0, .ref b)]) (Nat.le_of_ble_eq_true rfl) rfl (atL dAL_law_13 15 rfl) ?_
  refine v_aload_n hX 3 rfl (atL dAL_law_13 16 rfl) ?_
  refine v_aload_n hX 5 rfl (atL dAL_law_13 17 rfl) ?_
  refine v_iload hX 1 rfl (atL dAL_law_13 18 rfl) ?_
  refine v_iconst hX (atL dAL_law_13 19 rfl) ?_
  refine v_iadd hX (iI_add _ _) (atL dAL_law_13 20 rfl) ?_
  refine v_scld hX hS (7 * n + 1) (by omega) (by omega) hL (atL dAL_law_13 21 rfl) ?_
  rw [← hp1]
  refine v_aload_n hX 5 rfl (atL dAL_law_13 22 rfl) ?_
  refine v_iload hX 1 rfl (atL dAL_law_13 23 rfl) ?_
  refine v_iconst hX (atL dAL_law_13 24 rfl) ?_
  refine v_iadd hX (iI_add _ _) (atL dAL_law_13 25 rfl) ?_
  refine v_scld hX hS (7 * n + 2) (by omega) (by omega) hL (atL dAL_law_13 26 rfl) ?_
  rw [← hp2]
  refine v_callV hX (As := [.int (iI p1), .int (iI p2)]) (rest := []) (c_X8_open (xl X) w1 s1 g13 A hM1 p1 hr1 p2 hr2) lk_L_160 g13 (fun _ => rfl) rfl rfl rfl (by rw [hR]; exact ⟨Nat.le_of_ble_eq_true rfl, Nat.le_of_ble_eq_true rfl⟩) (by rw [hR]; exact ⟨by show z.1 + 20 ≤ 601024; omega, by show z.2 + 678 ≤ 7293034; omega⟩) rfl (Nat.le_of_ble_eq_true rfl) (atL dAL_law_13 27 rfl) (fun b2 s2 hq2 => ?_)
  obtain ⟨A2, hR2, hM2, hC2⟩ := hq2
  obtain ⟨ek, ea, eA⟩ := res_eq (uq_open hR1 hR2)
  subst eA
  subst ea
  have hH2 : HS s2 A1 := hH1.eq (fun c hc => funext fun i => hC2 c i (Or.inl hc))
  have fin : V X (z.1 + 20, z.2 + 678) w1 2311 (lvw w1 b n) s2 [] := v_fin hX (cn_next (mc := 20) (ms := 678) nx hG hZ (by decide) (by decide) ⟨hH2, hM2, hK1, g0, g13, g18, g19⟩)
  have hzq : ((z.1 + 20, z.2 + 678) : Nat × Nat).1 ≤ 601024 ∧ ((z.1 + 20, z.2 + 678) : Nat × Nat).2 ≤ 7293034 := ⟨by show z.1 + 20 ≤ 601024; omega, by show z.2 + 678 ≤ 7293034; omega⟩
  show V X (z.1 + 20, z.2 + 678) w1 _ _ s2 [.int (iI a1)]
  refine v_istore hX (lv' := [(6, .int (iI a1)), (5, .int (iI k1)), (4, .int (iI (7 * (n : Int)))), (3, .ref (w1.1 18 0)), (2, .ref (w1.1 13 0)), (1, .ref (w1.1 0 0)), (0, .ref b)]) (Nat.le_of_ble_eq_true rfl) rfl (atL dAL_law_13 28 rfl) ?_
  refine v_aload_n hX 4 rfl (atL dAL_law_13 29 rfl) ?_
  refine v_callV hX (As := []) (rest := []) (c_X8_thrown (xl X) w1 s2 g13) lk_L_110 g13 (fun _ => rfl) rfl rfl rfl (by rw [hR]; exact ⟨Nat.le_of_ble_eq_true rfl, Nat.le_of_ble_eq_true rfl⟩) (by rw [hR]; exact hzq) rfl (Nat.le_of_ble_eq_true rfl) (atL dAL_law_13 30 rfl) (fun r3 s3 hq3 => ?_)
  obtain ⟨er, es⟩ := hq3
  rw [es, er, ← ek]
  show V X (z.1 + 20, z.2 + 678) w1 _ _ s2 [.int (iI k1)]
  refine v_iload hX 1 rfl (atL dAL_law_13 31 rfl) ?_
  refine v_icmp_eq hX ⟨by omega, by omega⟩ ⟨by omega, by omega⟩ (tgt := 1320) (atL dAL_law_13 32 rfl) (by decide) (fun _ => ?_) (fun h => absurd rfl h)
  refine v_iload hX 1 rfl (atL dAL_law_13 35 rfl) ?_
  refine v_if_ne hX ⟨by omega, by omega⟩ (tgt := 1337) (atL dAL_law_13 36 rfl) (by decide) (fun hkk => ?_) (fun hkk => ?_)
  · refine v_goto hX (tgt := 2311) (atL dAL_law_13 46 rfl) (by decide) ?_
    exact v_sub (lv' := lvw w1 b n) [2, 3, 4, 5, 6] rfl fin
  · have hv : s2 15 0 0 = oI a1 := (congrFun (hC2 15 0 (Or.inr (Or.inl rfl))) 0).trans (ho1 hkk)
    refine v_aload_n hX 3 rfl (atL dAL_law_13 37 rfl) ?_
    refine v_iconst hX (atL dAL_law_13 38 rfl) ?_
    refine v_lald hX (r := jI (oI a1)) 0 g18 (fun _ => rfl) rfl (by decide) (by decide) (congrArg jI hv) (atL dAL_law_13 39 rfl) ?_
    refine v_iload hX 0 rfl (atL dAL_law_13 40 rfl) ?_
    refine v_i2l hX (i2l_of a1) (atL dAL_law_13 41 rfl) ?_
    refine v_lcmp_eq hX (rJ_oI a1) (rJ_oI a1) (atL dAL_law_13 42 rfl) (atL dAL_law_13 43 rfl) (tgt := 1337) (by decide) (fun _ => ?_) (fun h => absurd rfl h)
    refine v_goto hX (tgt := 2311) (atL dAL_law_13 46 rfl) (by decide) ?_
    exact v_sub (lv' := lvw w1 b n) [2, 3, 4, 5, 6] rfl fin

set_option maxHeartbeats 1000000 in
set_option maxRecDepth 100000 in
theorem case_part [G : Gh] {X : CX} (hX : okX X code 7 RL ret) (hR : xR X = room_1) (hst : (xl X).stackTraces = false) (hN : va_Nc eA eI (xs X)) {b L : Nat} {sc : Nat → Int32} (hS : XS X b L sc) (hL : L ≤ 3584) {n : Nat} (hn : 7 * n + 7 ≤ L) (hG : ghk = 0 ∨ ghk = 1) {z : Nat × Nat} {w : Wl} {σ : St} {A : Ab} (hI : LwS w σ A) (hZ : ZB n z) (nx : NX X b (n + 1)) : V X z w 1340 (lvw w b n) σ [] := by
  obtain ⟨hH, hM, hK, h0, h13, h18, h19⟩ := hI
  have z1 : z.1 ≤ 40000 := by have := hZ.1; omega
  have z2 : z.2 ≤ 600000 := by have := hZ.2; omega
  obtain ⟨p1, hp1⟩ : ∃ q, q = (sc (7 * n + 1)).toInt := ⟨_, rfl⟩
  have hr1 : rI p1 := by rw [hp1]; exact rI_of _
  obtain ⟨p2, hp2⟩ : ∃ q, q = (sc (7 * n + 2)).toInt := ⟨_, rfl⟩
  have hr2 : rI p2 := by rw [hp2]; exact rI_of _
  obtain ⟨p3, hp3⟩ : ∃ q, q = (sc (7 * n + 3)).toInt := ⟨_, rfl⟩
  have hr3 : rI p3 := by rw [hp3]; exact rI_of _
  refine v_aload_n hX 3 rfl (atL dAL_law_13 47 rfl) ?_
  refine v_aload_n hX 4 rfl (atL dAL_law_13 48 rfl) ?_
  refine v_iload hX 0 rfl (atL dAL_law_13 49 rfl) ?_
  refine v_iconst hX (atL dAL_law_13 50 rfl) ?_
  refine v_iadd hX (iI_add _ _) (atL dAL_law_13 51 rfl) ?_
  refine v_scld hX hS (7 * n + 1) (by omega) (by omega) hL (atL dAL_law_13 52 rfl) ?_
  rw [← hp1]
  refine v_aload_n hX 4 rfl (atL dAL_law_13 53 rfl) ?_
  refine v_iload hX 0 rfl (atL dAL_law_13 54 rfl) ?_
  refine v_iconst hX (atL dAL_law_13 55 rfl) ?_
  refine v_iadd hX (iI_add _ _) (atL dAL_law_13 56 rfl) ?_
  refine v_scld hX hS (7 * n + 2) (by omega) (by omega) hL (atL dAL_law_13 57 rfl) ?_
  rw [← hp2]
  refine v_aload_n hX 4 rfl (atL dAL_law_13 58 rfl) ?_
  refine v_iload hX 0 rfl (atL dAL_law_13 59 rfl) ?_
  refine v_iconst hX (atL dAL_law_14 0 rfl) ?_
  refine v_iadd hX (iI_add _ _) (atL dAL_law_14 1 rfl) ?_
  refine v_scld hX hS (7 * n + 3) (by omega) (by omega) hL (atL dAL_law_14 2 rfl) ?_
  rw [← hp3]
  refine v_aload_n hX 1 rfl (atL dAL_law_14 3 rfl) ?_
  refine v_callSH hX (As := [.ref (w.1 0 0), .int (iI p1), .int (iI p2), .int (iI p3), .ref (w.1 18 0)]) (rest := []) (c_L_part (xl X) hst w σ h0 h18 A hH hK p1 hr1 p2 hr2 p3 hr3) hN lh_part rfl (by rw [hR]; exact ⟨Nat.le_of_ble_eq_true rfl, Nat.le_of_ble_eq_true rfl⟩) (by rw [hR]; exact ⟨by show z.1 + 3 ≤ 601024; omega, by show z.2 + 18 ≤ 7293034; omega⟩) rfl (Nat.le_of_ble_eq_true rfl) (atL dAL_law_14 4 rfl) (fun k1 w1 s1 hq1 => ?_)
  obtain ⟨a1, A1, hR1, hH1, hF1, ho1, hW1, hK1, hk1⟩ := hq1
  have hM1 : HM s1 A := hM.eq (fun c h1 h2 => hF1 c h1 (by omega) (by omega))
  have g0 := (hW1.1 0 0 h0).1
  have g13 := (hW1.1 13 0 h13).1
  have g18 := (hW1.1 18 0 h18).1
  have g19 : ∀ q, ¬ w1.2 19 q := fun q hq => (hW1.2 19 q hq).elim (h19 q) (fun h => by omega)
  show V X (z.1 + 3, z.2 + 18) w1 _ (lvw w b n) s1 [.int (iI k1)]
  have e0 := (hW1.1 0 0 h0).2
  have e13 := (hW1.1 13 0 h13).2
  have e18 := (hW1.1 18 0 h18).2
  rw [show lvw w b n = lvw w1 b n by show [_, _, _, _, _] = [_, _, _, _, _]; rw [e0, e13, e18]]
  refine v_istore hX (lv' := [(5, .int (iI k1)), (4, .int (iI (7 * (n : Int)))), (3, .ref (w1.1 18 0)), (2, .ref (w1.1 13 0)), (1, .ref (w1.1 0 0)), (0, .ref b)]) (Nat.le_of_ble_eq_true rfl) rfl (atL dAL_law_14 5 rfl) ?_
  refine v_aload_n hX 3 rfl (atL dAL_law_14 6 rfl) ?_
  refine v_aload_n hX 5 rfl (atL dAL_law_14 7 rfl) ?_
  refine v_iload hX 1 rfl (atL dAL_law_14 8 rfl) ?_
  refine v_iconst hX (atL dAL_law_14 9 rfl) ?_
  refine v_iadd hX (iI_add _ _) (atL dAL_law_14 10 rfl) ?_
  refine v_scld hX hS (7 * n + 1) (by omega) (by omega) hL (atL dAL_law_14 11 rfl) ?_
  rw [← hp1]
  refine v_aload_n hX 5 rfl (atL dAL_law_14 12 rfl) ?_
  refine v_iload hX 1 rfl (atL dAL_law_14 13 rfl) ?_
  refine v_iconst hX (atL dAL_law_14 14 rfl) ?_
  refine v_iadd hX (iI_add _ _) (atL dAL_law_14 15 rfl) ?_
  refine v_scld hX hS (7 * n + 2) (by omega) (by omega) hL (atL dAL_law_14 16 rfl) ?_
  rw [← hp2]
  refine v_aload_n hX 5 rfl (atL dAL_law_14 17 rfl) ?_
  refine v_iload hX 1 rfl (atL dAL_law_14 18 rfl) ?_
  refine v_iconst hX (atL dAL_law_14 19 rfl) ?_
  refine v_iadd hX (iI_add _ _) (atL dAL_law_14 20 rfl) ?_
  refine v_scld hX hS (7 * n + 3) (by omega) (by omega) hL (atL dAL_law_14 21 rfl) ?_
  rw [← hp3]
  refine v_callV hX (As := [.int (iI p1), .int (iI p2), .int (iI p3)]) (rest := []) (c_X8_part (xl X) w1 s1 g13 A hM1 p1 hr1 p2 hr2 p3 hr3) lk_L_163 g13 (fun _ => rfl) rfl rfl rfl (by rw [hR]; exact ⟨Nat.le_of_ble_eq_true rfl, Nat.le_of_ble_eq_true rfl⟩) (by rw [hR]; exact ⟨by show z.1 + 3 ≤ 601024; omega, by show z.2 + 18 ≤ 7293034; omega⟩) rfl (Nat.le_of_ble_eq_true rfl) (atL dAL_law_14 22 rfl) (fun b2 s2 hq2 => ?_)
  obtain ⟨A2, hR2, hM2, hC2⟩ := hq2
  obtain ⟨ek, ea, eA⟩ := res_eq (uq_res hR1 hR2)
  subst eA
  subst ea
  have hH2 : HS s2 A1 := hH1.eq (fun c hc => funext fun i => hC2 c i (Or.inl hc))
  have fin : V X (z.1 + 3, z.2 + 18) w1 2311 (lvw w1 b n) s2 [] := v_fin hX (cn_next (mc := 3) (ms := 18) nx hG hZ (by decide) (by decide) ⟨hH2, hM2, hK1, g0, g13, g18, g19⟩)
  have hzq : ((z.1 + 3, z.2 + 18) : Nat × Nat).1 ≤ 601024 ∧ ((z.1 + 3, z.2 + 18) : Nat × Nat).2 ≤ 7293034 := ⟨by show z.1 + 3 ≤ 601024; omega, by show z.2 + 18 ≤ 7293034; omega⟩
  show V X (z.1 + 3, z.2 + 18) w1 _ _ s2 [.int (iI a1)]
  refine v_istore hX (lv' := [(6, .int (iI a1)), (5, .int (iI k1)), (4, .int (iI (7 * (n : Int)))), (3, .ref (w1.1 18 0)), (2, .ref (w1.1 13 0)), (1, .ref (w1.1 0 0)), (0, .ref b)]) (Nat.le_of_ble_eq_true rfl) rfl (atL dAL_law_14 23 rfl) ?_
  refine v_aload_n hX 4 rfl (atL dAL_law_14 24 rfl) ?_
  refine v_callV hX (As := []) (rest := []) (c_X8_thrown (xl X) w1 s2 g13) lk_L_110 g13 (fun _ => rfl) rfl rfl rfl (by rw [hR]; exact ⟨Nat.le_of_ble_eq_true rfl, Nat.le_of_ble_eq_true rfl⟩) (by rw [hR]; exact hzq) rfl (Nat.le_of_ble_eq_true rfl) (atL dAL_law_14 25 rfl) (fun r3 s3 hq3 => ?_)
  obtain ⟨er, es⟩ := hq3
  rw [es, er, ← ek]
  show V X (z.1 + 3, z.2 + 18) w1 _ _ s2 [.int (iI k1)]
  refine v_iload hX 1 rfl (atL dAL_law_14 26 rfl) ?_
  refine v_icmp_eq hX ⟨by omega, by omega⟩ ⟨by omega, by omega⟩ (tgt := 1400) (atL dAL_law_14 27 rfl) (by decide) (fun _ => ?_) (fun h => absurd rfl h)
  refine v_iload hX 1 rfl (atL dAL_law_14 30 rfl) ?_
  refine v_if_ne hX ⟨by omega, by omega⟩ (tgt := 1417) (atL dAL_law_14 31 rfl) (by decide) (fun hkk => ?_) (fun hkk => ?_)
  · refine v_goto hX (tgt := 2311) (atL dAL_law_14 41 rfl) (by decide) ?_
    exact v_sub (lv' := lvw w1 b n) [2, 3, 4, 5, 6] rfl fin
  · have hv : s2 15 0 0 = oI a1 := (congrFun (hC2 15 0 (Or.inr (Or.inl rfl))) 0).trans (ho1 hkk)
    refine v_aload_n hX 3 rfl (atL dAL_law_14 32 rfl) ?_
    refine v_iconst hX (atL dAL_law_14 33 rfl) ?_
    refine v_lald hX (r := jI (oI a1)) 0 g18 (fun _ => rfl) rfl (by decide) (by decide) (congrArg jI hv) (atL dAL_law_14 34 rfl) ?_
    refine v_iload hX 0 rfl (atL dAL_law_14 35 rfl) ?_
    refine v_i2l hX (i2l_of a1) (atL dAL_law_14 36 rfl) ?_
    refine v_lcmp_eq hX (rJ_oI a1) (rJ_oI a1) (atL dAL_law_14 37 rfl) (atL dAL_law_14 38 rfl) (tgt := 1417) (by decide) (fun _ => ?_) (fun h => absurd rfl h)
    refine v_goto hX (tgt := 2311) (atL dAL_law_14 41 rfl) (by decide) ?_
    exact v_sub (lv' := lvw w1 b n) [2, 3, 4, 5, 6] rfl fin

set_option maxHeartbeats 1000000 in
set_option maxRecDepth 100000 in
theorem case_turn [G : Gh] {X : CX} (hX : okX X code 7 RL ret) (hR : xR X = room_1) (hst : (xl X).stackTraces = false) (hN : va_Nc eA eI (xs X)) {b L : Nat} {sc : Nat → Int32} (hS : XS X b L sc) (hL : L ≤ 3584) {n : Nat} (hn : 7 * n + 7 ≤ L) (hG : ghk = 0 ∨ ghk = 1) {z : Nat × Nat} {w : Wl} {σ : St} {A : Ab} (hI : LwS w σ A) (hZ : ZB n z) (nx : NX X b (n + 1)) : V X z w 1420 (lvw w b n) σ [] := by
  obtain ⟨hH, hM, hK, h0, h13, h18, h19⟩ := hI
  have z1 : z.1 ≤ 40000 := by have := hZ.1; omega
  have z2 : z.2 ≤ 600000 := by have := hZ.2; omega
  obtain ⟨p1, hp1⟩ : ∃ q, q = (sc (7 * n + 1)).toInt := ⟨_, rfl⟩
  have hr1 : rI p1 := by rw [hp1]; exact rI_of _
  obtain ⟨p2, hp2⟩ : ∃ q, q = (sc (7 * n + 2)).toInt := ⟨_, rfl⟩
  have hr2 : rI p2 := by rw [hp2]; exact rI_of _
  obtain ⟨p3, hp3⟩ : ∃ q, q = (sc (7 * n + 3)).toInt := ⟨_, rfl⟩
  have hr3 : rI p3 := by rw [hp3]; exact rI_of _
  obtain ⟨p4, hp4⟩ : ∃ q, q = (sc (7 * n + 4)).toInt := ⟨_, rfl⟩
  have hr4 : rI p4 := by rw [hp4]; exact rI_of _
  refine v_aload_n hX 3 rfl (atL dAL_law_14 42 rfl) ?_
  refine v_aload_n hX 4 rfl (atL dAL_law_14 43 rfl) ?_
  refine v_iload hX 0 rfl (atL dAL_law_14 44 rfl) ?_
  refine v_iconst hX (atL dAL_law_14 45 rfl) ?_
  refine v_iadd hX (iI_add _ _) (atL dAL_law_14 46 rfl) ?_
  refine v_scld hX hS (7 * n + 1) (by omega) (by omega) hL (atL dAL_law_14 47 rfl) ?_
  rw [← hp1]
  refine v_aload_n hX 4 rfl (atL dAL_law_14 48 rfl) ?_
  refine v_iload hX 0 rfl (atL dAL_law_14 49 rfl) ?_
  refine v_iconst hX (atL dAL_law_14 50 rfl) ?_
  refine v_iadd hX (iI_add _ _) (atL dAL_law_14 51 rfl) ?_
  refine v_scld hX hS (7 * n + 2) (by omega) (by omega) hL (atL dAL_law_14 52 rfl) ?_
  rw [← hp2]
  refine v_aload_n hX 4 rfl (atL dAL_law_14 53 rfl) ?_
  refine v_iload hX 0 rfl (atL dAL_law_14 54 rfl) ?_
  refine v_iconst hX (atL dAL_law_14 55 rfl) ?_
  refine v_iadd hX (iI_add _ _) (atL dAL_law_14 56 rfl) ?_
  refine v_scld hX hS (7 * n + 3) (by omega) (by omega) hL (atL dAL_law_14 57 rfl) ?_
  rw [← hp3]
  refine v_aload_n hX 4 rfl (atL dAL_law_14 58 rfl) ?_
  refine v_iload hX 0 rfl (atL dAL_law_14 59 rfl) ?_
  refine v_iconst hX (atL dAL_law_15 0 rfl) ?_
  refine v_iadd hX (iI_add _ _) (atL dAL_law_15 1 rfl) ?_
  refine v_scld hX hS (7 * n + 4) (by omega) (by omega) hL (atL dAL_law_15 2 rfl) ?_
  rw [← hp4]
  refine v_aload_n hX 1 rfl (atL dAL_law_15 3 rfl) ?_
  refine v_callSH hX (As := [.ref (w.1 0 0), .int (iI p1), .int (iI p2), .int (iI p3), .int (iI p4), .ref (w.1 18 0)]) (rest := []) (c_L_turn (xl X) hst w σ h0 h18 A hH hK p1 hr1 p2 hr2 p3 hr3 p4 hr4) hN lh_turn rfl (by rw [hR]; exact ⟨Nat.le_of_ble_eq_true rfl, Nat.le_of_ble_eq_true rfl⟩) (by rw [hR]; exact ⟨by show z.1 + 4 ≤ 601024; omega, by show z.2 + 24 ≤ 7293034; omega⟩) rfl (Nat.le_of_ble_eq_true rfl) (atL dAL_law_15 4 rfl) (fun k1 w1 s1 hq1 => ?_)
  obtain ⟨a1, A1, hR1, hH1, hF1, ho1, hW1, hK1, hk1⟩ := hq1
  have hM1 : HM s1 A := hM.eq (fun c h1 h2 => hF1 c h1 (by omega) (by omega))
  have g0 := (hW1.1 0 0 h0).1
  have g13 := (hW1.1 13 0 h13).1
  have g18 := (hW1.1 18 0 h18).1
  have g19 : ∀ q, ¬ w1.2 19 q := fun q hq => (hW1.2 19 q hq).elim (h19 q) (fun h => by omega)
  show V X (z.1 + 4, z.2 + 24) w1 _ (lvw w b n) s1 [.int (iI k1)]
  have e0 := (hW1.1 0 0 h0).2
  have e13 := (hW1.1 13 0 h13).2
  have e18 := (hW1.1 18 0 h18).2
  rw [show lvw w b n = lvw w1 b n by show [_, _, _, _, _] = [_, _, _, _, _]; rw [e0, e13, e18]]
  refine v_istore hX (lv' := [(5, .int (iI k1)), (4, .int (iI (7 * (n : Int)))), (3, .ref (w1.1 18 0)), (2, .ref (w1.1 13 0)), (1, .ref (w1.1 0 0)), (0, .ref b)]) (Nat.le_of_ble_eq_true rfl) rfl (atL dAL_law_15 5 rfl) ?_
  refine v_aload_n hX 3 rfl (atL dAL_law_15 6 rfl) ?_
  refine v_aload_n hX 5 rfl (atL dAL_law_15 7 rfl) ?_
  refine v_iload hX 1 rfl (atL dAL_law_15 8 rfl) ?_
  refine v_iconst hX (atL dAL_law_15 9 rfl) ?_
  refine v_iadd hX (iI_add _ _) (atL dAL_law_15 10 rfl) ?_
  refine v_scld hX hS (7 * n + 1) (by omega) (by omega) hL (atL dAL_law_15 11 rfl) ?_
  rw [← hp1]
  refine v_aload_n hX 5 rfl (atL dAL_law_15 12 rfl) ?_
  refine v_iload hX 1 rfl (atL dAL_law_15 13 rfl) ?_
  refine v_iconst hX (atL dAL_law_15 14 rfl) ?_
  refine v_iadd hX (iI_add _ _) (atL dAL_law_15 15 rfl) ?_
  refine v_scld hX hS (7 * n + 2) (by omega) (by omega) hL (atL dAL_law_15 16 rfl) ?_
  rw [← hp2]
  refine v_aload_n hX 5 rfl (atL dAL_law_15 17 rfl) ?_
  refine v_iload hX 1 rfl (atL dAL_law_15 18 rfl) ?_
  refine v_iconst hX (atL dAL_law_15 19 rfl) ?_
  refine v_iadd hX (iI_add _ _) (atL dAL_law_15 20 rfl) ?_
  refine v_scld hX hS (7 * n + 3) (by omega) (by omega) hL (atL dAL_law_15 21 rfl) ?_
  rw [← hp3]
  refine v_aload_n hX 5 rfl (atL dAL_law_15 22 rfl) ?_
  refine v_iload hX 1 rfl (atL dAL_law_15 23 rfl) ?_
  refine v_iconst hX (atL dAL_law_15 24 rfl) ?_
  refine v_iadd hX (iI_add _ _) (atL dAL_law_15 25 rfl) ?_
  refine v_scld hX hS (7 * n + 4) (by omega) (by omega) hL (atL dAL_law_15 26 rfl) ?_
  rw [← hp4]
  refine v_callV hX (As := [.int (iI p1), .int (iI p2), .int (iI p3), .int (iI p4)]) (rest := []) (c_X8_turn (xl X) w1 s1 g13 A hM1 p1 hr1 p2 hr2 p3 hr3 p4 hr4) lk_L_166 g13 (fun _ => rfl) rfl rfl rfl (by rw [hR]; exact ⟨Nat.le_of_ble_eq_true rfl, Nat.le_of_ble_eq_true rfl⟩) (by rw [hR]; exact ⟨by show z.1 + 4 ≤ 601024; omega, by show z.2 + 24 ≤ 7293034; omega⟩) rfl (Nat.le_of_ble_eq_true rfl) (atL dAL_law_15 27 rfl) (fun b2 s2 hq2 => ?_)
  obtain ⟨A2, hR2, hM2, hC2⟩ := hq2
  obtain ⟨ek, ea, eA⟩ := res_eq (uq_res hR1 hR2)
  subst eA
  subst ea
  have hH2 : HS s2 A1 := hH1.eq (fun c hc => funext fun i => hC2 c i (Or.inl hc))
  have fin : V X (z.1 + 4, z.2 + 24) w1 2311 (lvw w1 b n) s2 [] := v_fin hX (cn_next (mc := 4) (ms := 24) nx hG hZ (by decide) (by decide) ⟨hH2, hM2, hK1, g0, g13, g18, g19⟩)
  have hzq : ((z.1 + 4, z.2 + 24) : Nat × Nat).1 ≤ 601024 ∧ ((z.1 + 4, z.2 + 24) : Nat × Nat).2 ≤ 7293034 := ⟨by show z.1 + 4 ≤ 601024; omega, by show z.2 + 24 ≤ 7293034; omega⟩
  show V X (z.1 + 4, z.2 + 24) w1 _ _ s2 [.int (iI a1)]
  refine v_istore hX (lv' := [(6, .int (iI a1)), (5, .int (iI k1)), (4, .int (iI (7 * (n : Int)))), (3, .ref (w1.1 18 0)), (2, .ref (w1.1 13 0)), (1, .ref (w1.1 0 0)), (0, .ref b)]) (Nat.le_of_ble_eq_true rfl) rfl (atL dAL_law_15 28 rfl) ?_
  refine v_aload_n hX 4 rfl (atL dAL_law_15 29 rfl) ?_
  refine v_callV hX (As := []) (rest := []) (c_X8_thrown (xl X) w1 s2 g13) lk_L_110 g13 (fun _ => rfl) rfl rfl rfl (by rw [hR]; exact ⟨Nat.le_of_ble_eq_true rfl, Nat.le_of_ble_eq_true rfl⟩) (by rw [hR]; exact hzq) rfl (Nat.le_of_ble_eq_true rfl) (atL dAL_law_15 30 rfl) (fun r3 s3 hq3 => ?_)
  obtain ⟨er, es⟩ := hq3
  rw [es, er, ← ek]
  show V X (z.1 + 4, z.2 + 24) w1 _ _ s2 [.int (iI k1)]
  refine v_iload hX 1 rfl (atL dAL_law_15 31 rfl) ?_
  refine v_icmp_eq hX ⟨by omega, by omega⟩ ⟨by omega, by omega⟩ (tgt := 1492) (atL dAL_law_15 32 rfl) (by decide) (fun _ => ?_) (fun h => absurd rfl h)
  refine v_iload hX 1 rfl (atL dAL_law_15 35 rfl) ?_
  refine v_if_ne hX ⟨by omega, by omega⟩ (tgt := 1509) (atL dAL_law_15 36 rfl) (by decide) (fun hkk => ?_) (fun hkk => ?_)
  · refine v_goto hX (tgt := 2311) (atL dAL_law_15 46 rfl) (by decide) ?_
    exact v_sub (lv' := lvw w1 b n) [2, 3, 4, 5, 6] rfl fin
  · have hv : s2 15 0 0 = oI a1 := (congrFun (hC2 15 0 (Or.inr (Or.inl rfl))) 0).trans (ho1 hkk)
    refine v_aload_n hX 3 rfl (atL dAL_law_15 37 rfl) ?_
    refine v_iconst hX (atL dAL_law_15 38 rfl) ?_
    refine v_lald hX (r := jI (oI a1)) 0 g18 (fun _ => rfl) rfl (by decide) (by decide) (congrArg jI hv) (atL dAL_law_15 39 rfl) ?_
    refine v_iload hX 0 rfl (atL dAL_law_15 40 rfl) ?_
    refine v_i2l hX (i2l_of a1) (atL dAL_law_15 41 rfl) ?_
    refine v_lcmp_eq hX (rJ_oI a1) (rJ_oI a1) (atL dAL_law_15 42 rfl) (atL dAL_law_15 43 rfl) (tgt := 1509) (by decide) (fun _ => ?_) (fun h => absurd rfl h)
    refine v_goto hX (tgt := 2311) (atL dAL_law_15 46 rfl) (by decide) ?_
    exact v_sub (lv' := lvw w1 b n) [2, 3, 4, 5, 6] rfl fin

set_option maxHeartbeats 1000000 in
set_option maxRecDepth 100000 in
theorem case_hide [G : Gh] {X : CX} (hX : okX X code 7 RL ret) (hR : xR X = room_1) (hst : (xl X).stackTraces = false) (hN : va_Nc eA eI (xs X)) {b L : Nat} {sc : Nat → Int32} (hS : XS X b L sc) (hL : L ≤ 3584) {n : Nat} (hn : 7 * n + 7 ≤ L) (hG : ghk = 0 ∨ ghk = 1) {z : Nat × Nat} {w : Wl} {σ : St} {A : Ab} (hI : LwS w σ A) (hZ : ZB n z) (nx : NX X b (n + 1)) : V X z w 1512 (lvw w b n) σ [] := by
  obtain ⟨hH, hM, hK, h0, h13, h18, h19⟩ := hI
  have z1 : z.1 ≤ 40000 := by have := hZ.1; omega
  have z2 : z.2 ≤ 600000 := by have := hZ.2; omega
  obtain ⟨p1, hp1⟩ : ∃ q, q = (sc (7 * n + 1)).toInt := ⟨_, rfl⟩
  have hr1 : rI p1 := by rw [hp1]; exact rI_of _
  obtain ⟨p2, hp2⟩ : ∃ q, q = (sc (7 * n + 2)).toInt := ⟨_, rfl⟩
  have hr2 : rI p2 := by rw [hp2]; exact rI_of _
  obtain ⟨p3, hp3⟩ : ∃ q, q = (sc (7 * n + 3)).toInt := ⟨_, rfl⟩
  have hr3 : rI p3 := by rw [hp3]; exact rI_of _
  obtain ⟨p4, hp4⟩ : ∃ q, q = (sc (7 * n + 4)).toInt := ⟨_, rfl⟩
  have hr4 : rI p4 := by rw [hp4]; exact rI_of _
  obtain ⟨p5, hp5⟩ : ∃ q, q = (sc (7 * n + 5)).toInt := ⟨_, rfl⟩
  have hr5 : rI p5 := by rw [hp5]; exact rI_of _
  obtain ⟨p6, hp6⟩ : ∃ q, q = (sc (7 * n + 6)).toInt := ⟨_, rfl⟩
  have hr6 : rI p6 := by rw [hp6]; exact rI_of _
  refine v_aload_n hX 3 rfl (atL dAL_law_15 47 rfl) ?_
  refine v_aload_n hX 4 rfl (atL dAL_law_15 48 rfl) ?_
  refine v_iload hX 0 rfl (atL dAL_law_15 49 rfl) ?_
  refine v_iconst hX (atL dAL_law_15 50 rfl) ?_
  refine v_iadd hX (iI_add _ _) (atL dAL_law_15 51 rfl) ?_
  refine v_scld hX hS (7 * n + 1) (by omega) (by omega) hL (atL dAL_law_15 52 rfl) ?_
  rw [← hp1]
  refine v_aload_n hX 4 rfl (atL dAL_law_15 53 rfl) ?_
  refine v_iload hX 0 rfl (atL dAL_law_15 54 rfl) ?_
  refine v_iconst hX (atL dAL_law_15 55 rfl) ?_
  refine v_iadd hX (iI_add _ _) (atL dAL_law_15 56 rfl) ?_
  refine v_scld hX hS (7 * n + 2) (by omega) (by omega) hL (atL dAL_law_15 57 rfl) ?_
  rw [← hp2]
  refine v_aload_n hX 4 rfl (atL dAL_law_15 58 rfl) ?_
  refine v_iload hX 0 rfl (atL dAL_law_15 59 rfl) ?_
  refine v_iconst hX (atL dAL_law_16 0 rfl) ?_
  refine v_iadd hX (iI_add _ _) (atL dAL_law_16 1 rfl) ?_
  refine v_scld hX hS (7 * n + 3) (by omega) (by omega) hL (atL dAL_law_16 2 rfl) ?_
  rw [← hp3]
  refine v_aload_n hX 4 rfl (atL dAL_law_16 3 rfl) ?_
  refine v_iload hX 0 rfl (atL dAL_law_16 4 rfl) ?_
  refine v_iconst hX (atL dAL_law_16 5 rfl) ?_
  refine v_iadd hX (iI_add _ _) (atL dAL_law_16 6 rfl) ?_
  refine v_scld hX hS (7 * n + 4) (by omega) (by omega) hL (atL dAL_law_16 7 rfl) ?_
  rw [← hp4]
  refine v_aload_n hX 4 rfl (atL dAL_law_16 8 rfl) ?_
  refine v_iload hX 0 rfl (atL dAL_law_16 9 rfl) ?_
  refine v_iconst hX (atL dAL_law_16 10 rfl) ?_
  refine v_iadd hX (iI_add _ _) (atL dAL_law_16 11 rfl) ?_
  refine v_scld hX hS (7 * n + 5) (by omega) (by omega) hL (atL dAL_law_16 12 rfl) ?_
  rw [← hp5]
  refine v_aload_n hX 4 rfl (atL dAL_law_16 13 rfl) ?_
  refine v_iload hX 0 rfl (atL dAL_law_16 14 rfl) ?_
  refine v_bipush hX (by decide +kernel) (atL dAL_law_16 15 rfl) ?_
  refine v_iadd hX (iI_add _ _) (atL dAL_law_16 16 rfl) ?_
  refine v_scld hX hS (7 * n + 6) (by omega) (by omega) hL (atL dAL_law_16 17 rfl) ?_
  rw [← hp6]
  refine v_aload_n hX 1 rfl (atL dAL_law_16 18 rfl) ?_
  refine v_callSH hX (As := [.ref (w.1 0 0), .int (iI p1), .int (iI p2), .int (iI p3), .int (iI p4), .int (iI p5), .int (iI p6), .ref (w.1 18 0)]) (rest := []) (c_L_hide (xl X) hst w σ h0 h18 A hH hK p1 hr1 p2 hr2 p3 hr3 p4 hr4 p5 hr5 p6 hr6) hN lh_hide rfl (by rw [hR]; exact ⟨Nat.le_of_ble_eq_true rfl, Nat.le_of_ble_eq_true rfl⟩) (by rw [hR]; exact ⟨by show z.1 + 6 ≤ 601024; omega, by show z.2 + 36 ≤ 7293034; omega⟩) rfl (Nat.le_of_ble_eq_true rfl) (atL dAL_law_16 19 rfl) (fun k1 w1 s1 hq1 => ?_)
  obtain ⟨a1, A1, hR1, hH1, hF1, ho1, hW1, hK1, hk1⟩ := hq1
  have hM1 : HM s1 A := hM.eq (fun c h1 h2 => hF1 c h1 (by omega) (by omega))
  have g0 := (hW1.1 0 0 h0).1
  have g13 := (hW1.1 13 0 h13).1
  have g18 := (hW1.1 18 0 h18).1
  have g19 : ∀ q, ¬ w1.2 19 q := fun q hq => (hW1.2 19 q hq).elim (h19 q) (fun h => by omega)
  show V X (z.1 + 6, z.2 + 36) w1 _ (lvw w b n) s1 [.int (iI k1)]
  have e0 := (hW1.1 0 0 h0).2
  have e13 := (hW1.1 13 0 h13).2
  have e18 := (hW1.1 18 0 h18).2
  rw [show lvw w b n = lvw w1 b n by show [_, _, _, _, _] = [_, _, _, _, _]; rw [e0, e13, e18]]
  refine v_istore hX (lv' := [(5, .int (iI k1)), (4, .int (iI (7 * (n : Int)))), (3, .ref (w1.1 18 0)), (2, .ref (w1.1 13 0)), (1, .ref (w1.1 0 0)), (0, .ref b)]) (Nat.le_of_ble_eq_true rfl) rfl (atL dAL_law_16 20 rfl) ?_
  refine v_aload_n hX 3 rfl (atL dAL_law_16 21 rfl) ?_
  refine v_aload_n hX 5 rfl (atL dAL_law_16 22 rfl) ?_
  refine v_iload hX 1 rfl (atL dAL_law_16 23 rfl) ?_
  refine v_iconst hX (atL dAL_law_16 24 rfl) ?_
  refine v_iadd hX (iI_add _ _) (atL dAL_law_16 25 rfl) ?_
  refine v_scld hX hS (7 * n + 1) (by omega) (by omega) hL (atL dAL_law_16 26 rfl) ?_
  rw [← hp1]
  refine v_aload_n hX 5 rfl (atL dAL_law_16 27 rfl) ?_
  refine v_iload hX 1 rfl (atL dAL_law_16 28 rfl) ?_
  refine v_iconst hX (atL dAL_law_16 29 rfl) ?_
  refine v_iadd hX (iI_add _ _) (atL dAL_law_16 30 rfl) ?_
  refine v_scld hX hS (7 * n + 2) (by omega) (by omega) hL (atL dAL_law_16 31 rfl) ?_
  rw [← hp2]
  refine v_aload_n hX 5 rfl (atL dAL_law_16 32 rfl) ?_
  refine v_iload hX 1 rfl (atL dAL_law_16 33 rfl) ?_
  refine v_iconst hX (atL dAL_law_16 34 rfl) ?_
  refine v_iadd hX (iI_add _ _) (atL dAL_law_16 35 rfl) ?_
  refine v_scld hX hS (7 * n + 3) (by omega) (by omega) hL (atL dAL_law_16 36 rfl) ?_
  rw [← hp3]
  refine v_aload_n hX 5 rfl (atL dAL_law_16 37 rfl) ?_
  refine v_iload hX 1 rfl (atL dAL_law_16 38 rfl) ?_
  refine v_iconst hX (atL dAL_law_16 39 rfl) ?_
  refine v_iadd hX (iI_add _ _) (atL dAL_law_16 40 rfl) ?_
  refine v_scld hX hS (7 * n + 4) (by omega) (by omega) hL (atL dAL_law_16 41 rfl) ?_
  rw [← hp4]
  refine v_aload_n hX 5 rfl (atL dAL_law_16 42 rfl) ?_
  refine v_iload hX 1 rfl (atL dAL_law_16 43 rfl) ?_
  refine v_iconst hX (atL dAL_law_16 44 rfl) ?_
  refine v_iadd hX (iI_add _ _) (atL dAL_law_16 45 rfl) ?_
  refine v_scld hX hS (7 * n + 5) (by omega) (by omega) hL (atL dAL_law_16 46 rfl) ?_
  rw [← hp5]
  refine v_aload_n hX 5 rfl (atL dAL_law_16 47 rfl) ?_
  refine v_iload hX 1 rfl (atL dAL_law_16 48 rfl) ?_
  refine v_bipush hX (by decide +kernel) (atL dAL_law_16 49 rfl) ?_
  refine v_iadd hX (iI_add _ _) (atL dAL_law_16 50 rfl) ?_
  refine v_scld hX hS (7 * n + 6) (by omega) (by omega) hL (atL dAL_law_16 51 rfl) ?_
  rw [← hp6]
  have hkp := kap_le (s := s1)
  refine v_callVZ hX (As := [.int (iI p1), .int (iI p2), .int (iI p3), .int (iI p4), .int (iI p5), .int (iI p6)]) (rest := []) (c_X8_hide (xl X) w1 s1 g13 (fun q hq => absurd hq (g19 q)) A hM1 p1 hr1 p2 hr2 p3 hr3 p4 hr4 p5 hr5 p6 hr6) lk_L_170 g13 (fun _ => rfl) rfl rfl rfl (by rw [hR]; exact ⟨Nat.le_of_ble_eq_true rfl, Nat.le_of_ble_eq_true rfl⟩) (by rw [hR]; exact ⟨by show z.1 + 6 + kap s1 * 10360 ≤ 601024; omega, by show z.2 + 36 + kap s1 * 103600 ≤ 7293034; omega⟩) rfl (Nat.le_of_ble_eq_true rfl) (atL dAL_law_16 52 rfl) (fun b2 s2 hq2 hkq => ?_)
  obtain ⟨A2, hR2, hM2, hC2⟩ := hq2
  obtain ⟨ek, ea, eA⟩ := res_eq (uq_res hR1 hR2)
  subst eA
  subst ea
  have hH2 : HS s2 A1 := hH1.eq (fun c hc => funext fun i => hC2 c i (Or.inl hc))
  have fin : V X (z.1 + 6 + (kap s1 * 10360 - kap s2 * 10360), z.2 + 36 + (kap s1 * 103600 - kap s2 * 103600)) w1 2311 (lvw w1 b n) s2 [] := v_fin hX (cz_next (mc := 6) (ms := 36) nx hG hZ (by decide) (by decide) hM1 ⟨hH2, hM2, hK1, g0, g13, g18, g19⟩)
  have hzq : ((z.1 + 6 + (kap s1 * 10360 - kap s2 * 10360), z.2 + 36 + (kap s1 * 103600 - kap s2 * 103600)) : Nat × Nat).1 ≤ 601024 ∧ ((z.1 + 6 + (kap s1 * 10360 - kap s2 * 10360), z.2 + 36 + (kap s1 * 103600 - kap s2 * 103600)) : Nat × Nat).2 ≤ 7293034 := ⟨by show z.1 + 6 + (kap s1 * 10360 - kap s2 * 10360) ≤ 601024; omega, by show z.2 + 36 + (kap s1 * 103600 - kap s2 * 103600) ≤ 7293034; omega⟩
  show V X (z.1 + 6 + (kap s1 * 10360 - kap s2 * 10360), z.2 + 36 + (kap s1 * 103600 - kap s2 * 103600)) w1 _ _ s2 [.int (iI a1)]
  refine v_istore hX (lv' := [(6, .int (iI a1)), (5, .int (iI k1)), (4, .int (iI (7 * (n : Int)))), (3, .ref (w1.1 18 0)), (2, .ref (w1.1 13 0)), (1, .ref (w1.1 0 0)), (0, .ref b)]) (Nat.le_of_ble_eq_true rfl) rfl (atL dAL_law_16 53 rfl) ?_
  refine v_aload_n hX 4 rfl (atL dAL_law_16 54 rfl) ?_
  refine v_callV hX (As := []) (rest := []) (c_X8_thrown (xl X) w1 s2 g13) lk_L_110 g13 (fun _ => rfl) rfl rfl rfl (by rw [hR]; exact ⟨Nat.le_of_ble_eq_true rfl, Nat.le_of_ble_eq_true rfl⟩) (by rw [hR]; exact hzq) rfl (Nat.le_of_ble_eq_true rfl) (atL dAL_law_16 55 rfl) (fun r3 s3 hq3 => ?_)
  obtain ⟨er, es⟩ := hq3
  rw [es, er, ← ek]
  show V X (z.1 + 6 + (kap s1 * 10360 - kap s2 * 10360), z.2 + 36 + (kap s1 * 103600 - kap s2 * 103600)) w1 _ _ s2 [.int (iI k1)]
  refine v_iload hX 1 rfl (atL dAL_law_16 56 rfl) ?_
  refine v_icmp_eq hX ⟨by omega, by omega⟩ ⟨by omega, by omega⟩ (tgt := 1610) (atL dAL_law_16 57 rfl) (by decide) (fun _ => ?_) (fun h => absurd rfl h)
  refine v_iload hX 1 rfl (atL dAL_law_17 0 rfl) ?_
  refine v_if_ne hX ⟨by omega, by omega⟩ (tgt := 1627) (atL dAL_law_17 1 rfl) (by decide) (fun hkk => ?_) (fun hkk => ?_)
  · refine v_goto hX (tgt := 2311) (atL dAL_law_17 11 rfl) (by decide) ?_
    exact v_sub (lv' := lvw w1 b n) [2, 3, 4, 5, 6] rfl fin
  · have hv : s2 15 0 0 = oI a1 := (congrFun (hC2 15 0 (Or.inr (Or.inl rfl))) 0).trans (ho1 hkk)
    refine v_aload_n hX 3 rfl (atL dAL_law_17 2 rfl) ?_
    refine v_iconst hX (atL dAL_law_17 3 rfl) ?_
    refine v_lald hX (r := jI (oI a1)) 0 g18 (fun _ => rfl) rfl (by decide) (by decide) (congrArg jI hv) (atL dAL_law_17 4 rfl) ?_
    refine v_iload hX 0 rfl (atL dAL_law_17 5 rfl) ?_
    refine v_i2l hX (i2l_of a1) (atL dAL_law_17 6 rfl) ?_
    refine v_lcmp_eq hX (rJ_oI a1) (rJ_oI a1) (atL dAL_law_17 7 rfl) (atL dAL_law_17 8 rfl) (tgt := 1627) (by decide) (fun _ => ?_) (fun h => absurd rfl h)
    refine v_goto hX (tgt := 2311) (atL dAL_law_17 11 rfl) (by decide) ?_
    exact v_sub (lv' := lvw w1 b n) [2, 3, 4, 5, 6] rfl fin

set_option maxHeartbeats 1000000 in
set_option maxRecDepth 100000 in
theorem case_show [G : Gh] {X : CX} (hX : okX X code 7 RL ret) (hR : xR X = room_1) (hst : (xl X).stackTraces = false) (hN : va_Nc eA eI (xs X)) {b L : Nat} {sc : Nat → Int32} (hS : XS X b L sc) (hL : L ≤ 3584) {n : Nat} (hn : 7 * n + 7 ≤ L) (hG : ghk = 0 ∨ ghk = 1) {z : Nat × Nat} {w : Wl} {σ : St} {A : Ab} (hI : LwS w σ A) (hZ : ZB n z) (nx : NX X b (n + 1)) : V X z w 1630 (lvw w b n) σ [] := by
  obtain ⟨hH, hM, hK, h0, h13, h18, h19⟩ := hI
  have z1 : z.1 ≤ 40000 := by have := hZ.1; omega
  have z2 : z.2 ≤ 600000 := by have := hZ.2; omega
  obtain ⟨p1, hp1⟩ : ∃ q, q = (sc (7 * n + 1)).toInt := ⟨_, rfl⟩
  have hr1 : rI p1 := by rw [hp1]; exact rI_of _
  obtain ⟨p2, hp2⟩ : ∃ q, q = (sc (7 * n + 2)).toInt := ⟨_, rfl⟩
  have hr2 : rI p2 := by rw [hp2]; exact rI_of _
  obtain ⟨p3, hp3⟩ : ∃ q, q = (sc (7 * n + 3)).toInt := ⟨_, rfl⟩
  have hr3 : rI p3 := by rw [hp3]; exact rI_of _
  obtain ⟨p4, hp4⟩ : ∃ q, q = (sc (7 * n + 4)).toInt := ⟨_, rfl⟩
  have hr4 : rI p4 := by rw [hp4]; exact rI_of _
  obtain ⟨p5, hp5⟩ : ∃ q, q = (sc (7 * n + 5)).toInt := ⟨_, rfl⟩
  have hr5 : rI p5 := by rw [hp5]; exact rI_of _
  refine v_aload_n hX 3 rfl (atL dAL_law_17 12 rfl) ?_
  refine v_aload_n hX 4 rfl (atL dAL_law_17 13 rfl) ?_
  refine v_iload hX 0 rfl (atL dAL_law_17 14 rfl) ?_
  refine v_iconst hX (atL dAL_law_17 15 rfl) ?_
  refine v_iadd hX (iI_add _ _) (atL dAL_law_17 16 rfl) ?_
  refine v_scld hX hS (7 * n + 1) (by omega) (by omega) hL (atL dAL_law_17 17 rfl) ?_
  rw [← hp1]
  refine v_aload_n hX 4 rfl (atL dAL_law_17 18 rfl) ?_
  refine v_iload hX 0 rfl (atL dAL_law_17 19 rfl) ?_
  refine v_iconst hX (atL dAL_law_17 20 rfl) ?_
  refine v_iadd hX (iI_add _ _) (atL dAL_law_17 21 rfl) ?_
  refine v_scld hX hS (7 * n + 2) (by omega) (by omega) hL (atL dAL_law_17 22 rfl) ?_
  rw [← hp2]
  refine v_aload_n hX 4 rfl (atL dAL_law_17 23 rfl) ?_
  refine v_iload hX 0 rfl (atL dAL_law_17 24 rfl) ?_
  refine v_iconst hX (atL dAL_law_17 25 rfl) ?_
  refine v_iadd hX (iI_add _ _) (atL dAL_law_17 26 rfl) ?_
  refine v_scld hX hS (7 * n + 3) (by omega) (by omega) hL (atL dAL_law_17 27 rfl) ?_
  rw [← hp3]
  refine v_aload_n hX 4 rfl (atL dAL_law_17 28 rfl) ?_
  refine v_iload hX 0 rfl (atL dAL_law_17 29 rfl) ?_
  refine v_iconst hX (atL dAL_law_17 30 rfl) ?_
  refine v_iadd hX (iI_add _ _) (atL dAL_law_17 31 rfl) ?_
  refine v_scld hX hS (7 * n + 4) (by omega) (by omega) hL (atL dAL_law_17 32 rfl) ?_
  rw [← hp4]
  refine v_aload_n hX 4 rfl (atL dAL_law_17 33 rfl) ?_
  refine v_iload hX 0 rfl (atL dAL_law_17 34 rfl) ?_
  refine v_iconst hX (atL dAL_law_17 35 rfl) ?_
  refine v_iadd hX (iI_add _ _) (atL dAL_law_17 36 rfl) ?_
  refine v_scld hX hS (7 * n + 5) (by omega) (by omega) hL (atL dAL_law_17 37 rfl) ?_
  rw [← hp5]
  refine v_aload_n hX 1 rfl (atL dAL_law_17 38 rfl) ?_
  refine v_callSH hX (As := [.ref (w.1 0 0), .int (iI p1), .int (iI p2), .int (iI p3), .int (iI p4), .int (iI p5), .ref (w.1 18 0)]) (rest := []) (c_L_show (xl X) hst w σ h0 h18 A hH hK p1 hr1 p2 hr2 p3 hr3 p4 hr4 p5 hr5) hN lh_show rfl (by rw [hR]; exact ⟨Nat.le_of_ble_eq_true rfl, Nat.le_of_ble_eq_true rfl⟩) (by rw [hR]; exact ⟨by show z.1 + 5 ≤ 601024; omega, by show z.2 + 30 ≤ 7293034; omega⟩) rfl (Nat.le_of_ble_eq_true rfl) (atL dAL_law_17 39 rfl) (fun k1 w1 s1 hq1 => ?_)
  obtain ⟨a1, A1, hR1, hH1, hF1, ho1, hW1, hK1, hk1⟩ := hq1
  have hM1 : HM s1 A := hM.eq (fun c h1 h2 => hF1 c h1 (by omega) (by omega))
  have g0 := (hW1.1 0 0 h0).1
  have g13 := (hW1.1 13 0 h13).1
  have g18 := (hW1.1 18 0 h18).1
  have g19 : ∀ q, ¬ w1.2 19 q := fun q hq => (hW1.2 19 q hq).elim (h19 q) (fun h => by omega)
  show V X (z.1 + 5, z.2 + 30) w1 _ (lvw w b n) s1 [.int (iI k1)]
  have e0 := (hW1.1 0 0 h0).2
  have e13 := (hW1.1 13 0 h13).2
  have e18 := (hW1.1 18 0 h18).2
  rw [show lvw w b n = lvw w1 b n by show [_, _, _, _, _] = [_, _, _, _, _]; rw [e0, e13, e18]]
  refine v_istore hX (lv' := [(5, .int (iI k1)), (4, .int (iI (7 * (n : Int)))), (3, .ref (w1.1 18 0)), (2, .ref (w1.1 13 0)), (1, .ref (w1.1 0 0)), (0, .ref b)]) (Nat.le_of_ble_eq_true rfl) rfl (atL dAL_law_17 40 rfl) ?_
  refine v_aload_n hX 3 rfl (atL dAL_law_17 41 rfl) ?_
  refine v_aload_n hX 5 rfl (atL dAL_law_17 42 rfl) ?_
  refine v_iload hX 1 rfl (atL dAL_law_17 43 rfl) ?_
  refine v_iconst hX (atL dAL_law_17 44 rfl) ?_
  refine v_iadd hX (iI_add _ _) (atL dAL_law_17 45 rfl) ?_
  refine v_scld hX hS (7 * n + 1) (by omega) (by omega) hL (atL dAL_law_17 46 rfl) ?_
  rw [← hp1]
  refine v_aload_n hX 5 rfl (atL dAL_law_17 47 rfl) ?_
  refine v_iload hX 1 rfl (atL dAL_law_17 48 rfl) ?_
  refine v_iconst hX (atL dAL_law_17 49 rfl) ?_
  refine v_iadd hX (iI_add _ _) (atL dAL_law_17 50 rfl) ?_
  refine v_scld hX hS (7 * n + 2) (by omega) (by omega) hL (atL dAL_law_17 51 rfl) ?_
  rw [← hp2]
  refine v_aload_n hX 5 rfl (atL dAL_law_17 52 rfl) ?_
  refine v_iload hX 1 rfl (atL dAL_law_17 53 rfl) ?_
  refine v_iconst hX (atL dAL_law_17 54 rfl) ?_
  refine v_iadd hX (iI_add _ _) (atL dAL_law_17 55 rfl) ?_
  refine v_scld hX hS (7 * n + 3) (by omega) (by omega) hL (atL dAL_law_17 56 rfl) ?_
  rw [← hp3]
  refine v_aload_n hX 5 rfl (atL dAL_law_17 57 rfl) ?_
  refine v_iload hX 1 rfl (atL dAL_law_17 58 rfl) ?_
  refine v_iconst hX (atL dAL_law_17 59 rfl) ?_
  refine v_iadd hX (iI_add _ _) (atL dAL_law_18 0 rfl) ?_
  refine v_scld hX hS (7 * n + 4) (by omega) (by omega) hL (atL dAL_law_18 1 rfl) ?_
  rw [← hp4]
  refine v_aload_n hX 5 rfl (atL dAL_law_18 2 rfl) ?_
  refine v_iload hX 1 rfl (atL dAL_law_18 3 rfl) ?_
  refine v_iconst hX (atL dAL_law_18 4 rfl) ?_
  refine v_iadd hX (iI_add _ _) (atL dAL_law_18 5 rfl) ?_
  refine v_scld hX hS (7 * n + 5) (by omega) (by omega) hL (atL dAL_law_18 6 rfl) ?_
  rw [← hp5]
  have hkp := kap_le (s := s1)
  refine v_callVZ hX (As := [.int (iI p1), .int (iI p2), .int (iI p3), .int (iI p4), .int (iI p5)]) (rest := []) (c_X8_show (xl X) w1 s1 g13 (fun q hq => absurd hq (g19 q)) A hM1 p1 hr1 p2 hr2 p3 hr3 p4 hr4 p5 hr5) lk_L_173 g13 (fun _ => rfl) rfl rfl rfl (by rw [hR]; exact ⟨Nat.le_of_ble_eq_true rfl, Nat.le_of_ble_eq_true rfl⟩) (by rw [hR]; exact ⟨by show z.1 + 5 + kap s1 * 10360 ≤ 601024; omega, by show z.2 + 30 + kap s1 * 103600 ≤ 7293034; omega⟩) rfl (Nat.le_of_ble_eq_true rfl) (atL dAL_law_18 7 rfl) (fun b2 s2 hq2 hkq => ?_)
  obtain ⟨A2, hR2, hM2, hC2⟩ := hq2
  obtain ⟨ek, ea, eA⟩ := res_eq (uq_res hR1 hR2)
  subst eA
  subst ea
  have hH2 : HS s2 A1 := hH1.eq (fun c hc => funext fun i => hC2 c i (Or.inl hc))
  have fin : V X (z.1 + 5 + (kap s1 * 10360 - kap s2 * 10360), z.2 + 30 + (kap s1 * 103600 - kap s2 * 103600)) w1 2311 (lvw w1 b n) s2 [] := v_fin hX (cz_next (mc := 5) (ms := 30) nx hG hZ (by decide) (by decide) hM1 ⟨hH2, hM2, hK1, g0, g13, g18, g19⟩)
  have hzq : ((z.1 + 5 + (kap s1 * 10360 - kap s2 * 10360), z.2 + 30 + (kap s1 * 103600 - kap s2 * 103600)) : Nat × Nat).1 ≤ 601024 ∧ ((z.1 + 5 + (kap s1 * 10360 - kap s2 * 10360), z.2 + 30 + (kap s1 * 103600 - kap s2 * 103600)) : Nat × Nat).2 ≤ 7293034 := ⟨by show z.1 + 5 + (kap s1 * 10360 - kap s2 * 10360) ≤ 601024; omega, by show z.2 + 30 + (kap s1 * 103600 - kap s2 * 103600) ≤ 7293034; omega⟩
  show V X (z.1 + 5 + (kap s1 * 10360 - kap s2 * 10360), z.2 + 30 + (kap s1 * 103600 - kap s2 * 103600)) w1 _ _ s2 [.int (iI a1)]
  refine v_istore hX (lv' := [(6, .int (iI a1)), (5, .int (iI k1)), (4, .int (iI (7 * (n : Int)))), (3, .ref (w1.1 18 0)), (2, .ref (w1.1 13 0)), (1, .ref (w1.1 0 0)), (0, .ref b)]) (Nat.le_of_ble_eq_true rfl) rfl (atL dAL_law_18 8 rfl) ?_
  refine v_aload_n hX 4 rfl (atL dAL_law_18 9 rfl) ?_
  refine v_callV hX (As := []) (rest := []) (c_X8_thrown (xl X) w1 s2 g13) lk_L_110 g13 (fun _ => rfl) rfl rfl rfl (by rw [hR]; exact ⟨Nat.le_of_ble_eq_true rfl, Nat.le_of_ble_eq_true rfl⟩) (by rw [hR]; exact hzq) rfl (Nat.le_of_ble_eq_true rfl) (atL dAL_law_18 10 rfl) (fun r3 s3 hq3 => ?_)
  obtain ⟨er, es⟩ := hq3
  rw [es, er, ← ek]
  show V X (z.1 + 5 + (kap s1 * 10360 - kap s2 * 10360), z.2 + 30 + (kap s1 * 103600 - kap s2 * 103600)) w1 _ _ s2 [.int (iI k1)]
  refine v_iload hX 1 rfl (atL dAL_law_18 11 rfl) ?_
  refine v_icmp_eq hX ⟨by omega, by omega⟩ ⟨by omega, by omega⟩ (tgt := 1714) (atL dAL_law_18 12 rfl) (by decide) (fun _ => ?_) (fun h => absurd rfl h)
  refine v_iload hX 1 rfl (atL dAL_law_18 15 rfl) ?_
  refine v_if_ne hX ⟨by omega, by omega⟩ (tgt := 1731) (atL dAL_law_18 16 rfl) (by decide) (fun hkk => ?_) (fun hkk => ?_)
  · refine v_goto hX (tgt := 2311) (atL dAL_law_18 26 rfl) (by decide) ?_
    exact v_sub (lv' := lvw w1 b n) [2, 3, 4, 5, 6] rfl fin
  · have hv : s2 15 0 0 = oI a1 := (congrFun (hC2 15 0 (Or.inr (Or.inl rfl))) 0).trans (ho1 hkk)
    refine v_aload_n hX 3 rfl (atL dAL_law_18 17 rfl) ?_
    refine v_iconst hX (atL dAL_law_18 18 rfl) ?_
    refine v_lald hX (r := jI (oI a1)) 0 g18 (fun _ => rfl) rfl (by decide) (by decide) (congrArg jI hv) (atL dAL_law_18 19 rfl) ?_
    refine v_iload hX 0 rfl (atL dAL_law_18 20 rfl) ?_
    refine v_i2l hX (i2l_of a1) (atL dAL_law_18 21 rfl) ?_
    refine v_lcmp_eq hX (rJ_oI a1) (rJ_oI a1) (atL dAL_law_18 22 rfl) (atL dAL_law_18 23 rfl) (tgt := 1731) (by decide) (fun _ => ?_) (fun h => absurd rfl h)
    refine v_goto hX (tgt := 2311) (atL dAL_law_18 26 rfl) (by decide) ?_
    exact v_sub (lv' := lvw w1 b n) [2, 3, 4, 5, 6] rfl fin

set_option maxHeartbeats 1000000 in
set_option maxRecDepth 100000 in
theorem case_fill [G : Gh] {X : CX} (hX : okX X code 7 RL ret) (hR : xR X = room_1) (hst : (xl X).stackTraces = false) (hN : va_Nc eA eI (xs X)) {b L : Nat} {sc : Nat → Int32} (hS : XS X b L sc) (hL : L ≤ 3584) {n : Nat} (hn : 7 * n + 7 ≤ L) (hG : ghk = 0 ∨ ghk = 1) {z : Nat × Nat} {w : Wl} {σ : St} {A : Ab} (hI : LwS w σ A) (hZ : ZB n z) (nx : NX X b (n + 1)) : V X z w 1734 (lvw w b n) σ [] := by
  obtain ⟨hH, hM, hK, h0, h13, h18, h19⟩ := hI
  have z1 : z.1 ≤ 40000 := by have := hZ.1; omega
  have z2 : z.2 ≤ 600000 := by have := hZ.2; omega
  obtain ⟨p1, hp1⟩ : ∃ q, q = (sc (7 * n + 1)).toInt := ⟨_, rfl⟩
  have hr1 : rI p1 := by rw [hp1]; exact rI_of _
  obtain ⟨p2, hp2⟩ : ∃ q, q = (sc (7 * n + 2)).toInt := ⟨_, rfl⟩
  have hr2 : rI p2 := by rw [hp2]; exact rI_of _
  obtain ⟨p3, hp3⟩ : ∃ q, q = (sc (7 * n + 3)).toInt := ⟨_, rfl⟩
  have hr3 : rI p3 := by rw [hp3]; exact rI_of _
  obtain ⟨p4, hp4⟩ : ∃ q, q = (sc (7 * n + 4)).toInt := ⟨_, rfl⟩
  have hr4 : rI p4 := by rw [hp4]; exact rI_of _
  refine v_aload_n hX 3 rfl (atL dAL_law_18 27 rfl) ?_
  refine v_aload_n hX 4 rfl (atL dAL_law_18 28 rfl) ?_
  refine v_iload hX 0 rfl (atL dAL_law_18 29 rfl) ?_
  refine v_iconst hX (atL dAL_law_18 30 rfl) ?_
  refine v_iadd hX (iI_add _ _) (atL dAL_law_18 31 rfl) ?_
  refine v_scld hX hS (7 * n + 1) (by omega) (by omega) hL (atL dAL_law_18 32 rfl) ?_
  rw [← hp1]
  refine v_aload_n hX 4 rfl (atL dAL_law_18 33 rfl) ?_
  refine v_iload hX 0 rfl (atL dAL_law_18 34 rfl) ?_
  refine v_iconst hX (atL dAL_law_18 35 rfl) ?_
  refine v_iadd hX (iI_add _ _) (atL dAL_law_18 36 rfl) ?_
  refine v_scld hX hS (7 * n + 2) (by omega) (by omega) hL (atL dAL_law_18 37 rfl) ?_
  rw [← hp2]
  refine v_aload_n hX 4 rfl (atL dAL_law_18 38 rfl) ?_
  refine v_iload hX 0 rfl (atL dAL_law_18 39 rfl) ?_
  refine v_iconst hX (atL dAL_law_18 40 rfl) ?_
  refine v_iadd hX (iI_add _ _) (atL dAL_law_18 41 rfl) ?_
  refine v_scld hX hS (7 * n + 3) (by omega) (by omega) hL (atL dAL_law_18 42 rfl) ?_
  rw [← hp3]
  refine v_aload_n hX 4 rfl (atL dAL_law_18 43 rfl) ?_
  refine v_iload hX 0 rfl (atL dAL_law_18 44 rfl) ?_
  refine v_iconst hX (atL dAL_law_18 45 rfl) ?_
  refine v_iadd hX (iI_add _ _) (atL dAL_law_18 46 rfl) ?_
  refine v_scld hX hS (7 * n + 4) (by omega) (by omega) hL (atL dAL_law_18 47 rfl) ?_
  rw [← hp4]
  refine v_aload_n hX 1 rfl (atL dAL_law_18 48 rfl) ?_
  refine v_callSH hX (As := [.ref (w.1 0 0), .int (iI p1), .int (iI p2), .int (iI p3), .int (iI p4), .ref (w.1 18 0)]) (rest := []) (c_L_fill (xl X) hst w σ h0 h18 A hH hK p1 hr1 p2 hr2 p3 hr3 p4 hr4) hN lh_fill rfl (by rw [hR]; exact ⟨Nat.le_of_ble_eq_true rfl, Nat.le_of_ble_eq_true rfl⟩) (by rw [hR]; exact ⟨by show z.1 + 4 ≤ 601024; omega, by show z.2 + 24 ≤ 7293034; omega⟩) rfl (Nat.le_of_ble_eq_true rfl) (atL dAL_law_18 49 rfl) (fun k1 w1 s1 hq1 => ?_)
  obtain ⟨a1, A1, hR1, hH1, hF1, ho1, hW1, hK1, hk1⟩ := hq1
  have hM1 : HM s1 A := hM.eq (fun c h1 h2 => hF1 c h1 (by omega) (by omega))
  have g0 := (hW1.1 0 0 h0).1
  have g13 := (hW1.1 13 0 h13).1
  have g18 := (hW1.1 18 0 h18).1
  have g19 : ∀ q, ¬ w1.2 19 q := fun q hq => (hW1.2 19 q hq).elim (h19 q) (fun h => by omega)
  show V X (z.1 + 4, z.2 + 24) w1 _ (lvw w b n) s1 [.int (iI k1)]
  have e0 := (hW1.1 0 0 h0).2
  have e13 := (hW1.1 13 0 h13).2
  have e18 := (hW1.1 18 0 h18).2
  rw [show lvw w b n = lvw w1 b n by show [_, _, _, _, _] = [_, _, _, _, _]; rw [e0, e13, e18]]
  refine v_istore hX (lv' := [(5, .int (iI k1)), (4, .int (iI (7 * (n : Int)))), (3, .ref (w1.1 18 0)), (2, .ref (w1.1 13 0)), (1, .ref (w1.1 0 0)), (0, .ref b)]) (Nat.le_of_ble_eq_true rfl) rfl (atL dAL_law_18 50 rfl) ?_
  refine v_aload_n hX 3 rfl (atL dAL_law_18 51 rfl) ?_
  refine v_aload_n hX 5 rfl (atL dAL_law_18 52 rfl) ?_
  refine v_iload hX 1 rfl (atL dAL_law_18 53 rfl) ?_
  refine v_iconst hX (atL dAL_law_18 54 rfl) ?_
  refine v_iadd hX (iI_add _ _) (atL dAL_law_18 55 rfl) ?_
  refine v_scld hX hS (7 * n + 1) (by omega) (by omega) hL (atL dAL_law_18 56 rfl) ?_
  rw [← hp1]
  refine v_aload_n hX 5 rfl (atL dAL_law_18 57 rfl) ?_
  refine v_iload hX 1 rfl (atL dAL_law_18 58 rfl) ?_
  refine v_iconst hX (atL dAL_law_18 59 rfl) ?_
  refine v_iadd hX (iI_add _ _) (atL dAL_law_19 0 rfl) ?_
  refine v_scld hX hS (7 * n + 2) (by omega) (by omega) hL (atL dAL_law_19 1 rfl) ?_
  rw [← hp2]
  refine v_aload_n hX 5 rfl (atL dAL_law_19 2 rfl) ?_
  refine v_iload hX 1 rfl (atL dAL_law_19 3 rfl) ?_
  refine v_iconst hX (atL dAL_law_19 4 rfl) ?_
  refine v_iadd hX (iI_add _ _) (atL dAL_law_19 5 rfl) ?_
  refine v_scld hX hS (7 * n + 3) (by omega) (by omega) hL (atL dAL_law_19 6 rfl) ?_
  rw [← hp3]
  refine v_aload_n hX 5 rfl (atL dAL_law_19 7 rfl) ?_
  refine v_iload hX 1 rfl (atL dAL_law_19 8 rfl) ?_
  refine v_iconst hX (atL dAL_law_19 9 rfl) ?_
  refine v_iadd hX (iI_add _ _) (atL dAL_law_19 10 rfl) ?_
  refine v_scld hX hS (7 * n + 4) (by omega) (by omega) hL (atL dAL_law_19 11 rfl) ?_
  rw [← hp4]
  refine v_callV hX (As := [.int (iI p1), .int (iI p2), .int (iI p3), .int (iI p4)]) (rest := []) (c_X8_fill (xl X) w1 s1 g13 A hM1 p1 hr1 p2 hr2 p3 hr3 p4 hr4) lk_L_176 g13 (fun _ => rfl) rfl rfl rfl (by rw [hR]; exact ⟨Nat.le_of_ble_eq_true rfl, Nat.le_of_ble_eq_true rfl⟩) (by rw [hR]; exact ⟨by show z.1 + 4 ≤ 601024; omega, by show z.2 + 24 ≤ 7293034; omega⟩) rfl (Nat.le_of_ble_eq_true rfl) (atL dAL_law_19 12 rfl) (fun b2 s2 hq2 => ?_)
  obtain ⟨A2, hR2, hM2, hC2⟩ := hq2
  obtain ⟨ek, ea, eA⟩ := res_eq (uq_res hR1 hR2)
  subst eA
  subst ea
  have hH2 : HS s2 A1 := hH1.eq (fun c hc => funext fun i => hC2 c i (Or.inl hc))
  have fin : V X (z.1 + 4, z.2 + 24) w1 2311 (lvw w1 b n) s2 [] := v_fin hX (cn_next (mc := 4) (ms := 24) nx hG hZ (by decide) (by decide) ⟨hH2, hM2, hK1, g0, g13, g18, g19⟩)
  have hzq : ((z.1 + 4, z.2 + 24) : Nat × Nat).1 ≤ 601024 ∧ ((z.1 + 4, z.2 + 24) : Nat × Nat).2 ≤ 7293034 := ⟨by show z.1 + 4 ≤ 601024; omega, by show z.2 + 24 ≤ 7293034; omega⟩
  show V X (z.1 + 4, z.2 + 24) w1 _ _ s2 [.int (iI a1)]
  refine v_istore hX (lv' := [(6, .int (iI a1)), (5, .int (iI k1)), (4, .int (iI (7 * (n : Int)))), (3, .ref (w1.1 18 0)), (2, .ref (w1.1 13 0)), (1, .ref (w1.1 0 0)), (0, .ref b)]) (Nat.le_of_ble_eq_true rfl) rfl (atL dAL_law_19 13 rfl) ?_
  refine v_aload_n hX 4 rfl (atL dAL_law_19 14 rfl) ?_
  refine v_callV hX (As := []) (rest := []) (c_X8_thrown (xl X) w1 s2 g13) lk_L_110 g13 (fun _ => rfl) rfl rfl rfl (by rw [hR]; exact ⟨Nat.le_of_ble_eq_true rfl, Nat.le_of_ble_eq_true rfl⟩) (by rw [hR]; exact hzq) rfl (Nat.le_of_ble_eq_true rfl) (atL dAL_law_19 15 rfl) (fun r3 s3 hq3 => ?_)
  obtain ⟨er, es⟩ := hq3
  rw [es, er, ← ek]
  show V X (z.1 + 4, z.2 + 24) w1 _ _ s2 [.int (iI k1)]
  refine v_iload hX 1 rfl (atL dAL_law_19 16 rfl) ?_
  refine v_icmp_eq hX ⟨by omega, by omega⟩ ⟨by omega, by omega⟩ (tgt := 1806) (atL dAL_law_19 17 rfl) (by decide) (fun _ => ?_) (fun h => absurd rfl h)
  refine v_iload hX 1 rfl (atL dAL_law_19 20 rfl) ?_
  refine v_if_ne hX ⟨by omega, by omega⟩ (tgt := 1823) (atL dAL_law_19 21 rfl) (by decide) (fun hkk => ?_) (fun hkk => ?_)
  · refine v_goto hX (tgt := 2311) (atL dAL_law_19 31 rfl) (by decide) ?_
    exact v_sub (lv' := lvw w1 b n) [2, 3, 4, 5, 6] rfl fin
  · have hv : s2 15 0 0 = oI a1 := (congrFun (hC2 15 0 (Or.inr (Or.inl rfl))) 0).trans (ho1 hkk)
    refine v_aload_n hX 3 rfl (atL dAL_law_19 22 rfl) ?_
    refine v_iconst hX (atL dAL_law_19 23 rfl) ?_
    refine v_lald hX (r := jI (oI a1)) 0 g18 (fun _ => rfl) rfl (by decide) (by decide) (congrArg jI hv) (atL dAL_law_19 24 rfl) ?_
    refine v_iload hX 0 rfl (atL dAL_law_19 25 rfl) ?_
    refine v_i2l hX (i2l_of a1) (atL dAL_law_19 26 rfl) ?_
    refine v_lcmp_eq hX (rJ_oI a1) (rJ_oI a1) (atL dAL_law_19 27 rfl) (atL dAL_law_19 28 rfl) (tgt := 1823) (by decide) (fun _ => ?_) (fun h => absurd rfl h)
    refine v_goto hX (tgt := 2311) (atL dAL_law_19 31 rfl) (by decide) ?_
    exact v_sub (lv' := lvw w1 b n) [2, 3, 4, 5, 6] rfl fin

set_option maxHeartbeats 1000000 in
set_option maxRecDepth 100000 in
theorem case_empty [G : Gh] {X : CX} (hX : okX X code 7 RL ret) (hR : xR X = room_1) (hst : (xl X).stackTraces = false) (hN : va_Nc eA eI (xs X)) {b L : Nat} {sc : Nat → Int32} (hS : XS X b L sc) (hL : L ≤ 3584) {n : Nat} (hn : 7 * n + 7 ≤ L) (hG : ghk = 0 ∨ ghk = 1) {z : Nat × Nat} {w : Wl} {σ : St} {A : Ab} (hI : LwS w σ A) (hZ : ZB n z) (nx : NX X b (n + 1)) : V X z w 1826 (lvw w b n) σ [] := by
  obtain ⟨hH, hM, hK, h0, h13, h18, h19⟩ := hI
  have z1 : z.1 ≤ 40000 := by have := hZ.1; omega
  have z2 : z.2 ≤ 600000 := by have := hZ.2; omega
  obtain ⟨p1, hp1⟩ : ∃ q, q = (sc (7 * n + 1)).toInt := ⟨_, rfl⟩
  have hr1 : rI p1 := by rw [hp1]; exact rI_of _
  obtain ⟨p2, hp2⟩ : ∃ q, q = (sc (7 * n + 2)).toInt := ⟨_, rfl⟩
  have hr2 : rI p2 := by rw [hp2]; exact rI_of _
  obtain ⟨p3, hp3⟩ : ∃ q, q = (sc (7 * n + 3)).toInt := ⟨_, rfl⟩
  have hr3 : rI p3 := by rw [hp3]; exact rI_of _
  refine v_aload_n hX 3 rfl (atL dAL_law_19 32 rfl) ?_
  refine v_aload_n hX 4 rfl (atL dAL_law_19 33 rfl) ?_
  refine v_iload hX 0 rfl (atL dAL_law_19 34 rfl) ?_
  refine v_iconst hX (atL dAL_law_19 35 rfl) ?_
  refine v_iadd hX (iI_add _ _) (atL dAL_law_19 36 rfl) ?_
  refine v_scld hX hS (7 * n + 1) (by omega) (by omega) hL (atL dAL_law_19 37 rfl) ?_
  rw [← hp1]
  refine v_aload_n hX 4 rfl (atL dAL_law_19 38 rfl) ?_
  refine v_iload hX 0 rfl (atL dAL_law_19 39 rfl) ?_
  refine v_iconst hX (atL dAL_law_19 40 rfl) ?_
  refine v_iadd hX (iI_add _ _) (atL dAL_law_19 41 rfl) ?_
  refine v_scld hX hS (7 * n + 2) (by omega) (by omega) hL (atL dAL_law_19 42 rfl) ?_
  rw [← hp2]
  refine v_aload_n hX 4 rfl (atL dAL_law_19 43 rfl) ?_
  refine v_iload hX 0 rfl (atL dAL_law_19 44 rfl) ?_
  refine v_iconst hX (atL dAL_law_19 45 rfl) ?_
  refine v_iadd hX (iI_add _ _) (atL dAL_law_19 46 rfl) ?_
  refine v_scld hX hS (7 * n + 3) (by omega) (by omega) hL (atL dAL_law_19 47 rfl) ?_
  rw [← hp3]
  refine v_aload_n hX 1 rfl (atL dAL_law_19 48 rfl) ?_
  refine v_callSH hX (As := [.ref (w.1 0 0), .int (iI p1), .int (iI p2), .int (iI p3), .ref (w.1 18 0)]) (rest := []) (c_L_empty (xl X) hst w σ h0 h18 A hH hK p1 hr1 p2 hr2 p3 hr3) hN lh_empty rfl (by rw [hR]; exact ⟨Nat.le_of_ble_eq_true rfl, Nat.le_of_ble_eq_true rfl⟩) (by rw [hR]; exact ⟨by show z.1 + 3 ≤ 601024; omega, by show z.2 + 18 ≤ 7293034; omega⟩) rfl (Nat.le_of_ble_eq_true rfl) (atL dAL_law_19 49 rfl) (fun k1 w1 s1 hq1 => ?_)
  obtain ⟨a1, A1, hR1, hH1, hF1, ho1, hW1, hK1, hk1⟩ := hq1
  have hM1 : HM s1 A := hM.eq (fun c h1 h2 => hF1 c h1 (by omega) (by omega))
  have g0 := (hW1.1 0 0 h0).1
  have g13 := (hW1.1 13 0 h13).1
  have g18 := (hW1.1 18 0 h18).1
  have g19 : ∀ q, ¬ w1.2 19 q := fun q hq => (hW1.2 19 q hq).elim (h19 q) (fun h => by omega)
  show V X (z.1 + 3, z.2 + 18) w1 _ (lvw w b n) s1 [.int (iI k1)]
  have e0 := (hW1.1 0 0 h0).2
  have e13 := (hW1.1 13 0 h13).2
  have e18 := (hW1.1 18 0 h18).2
  rw [show lvw w b n = lvw w1 b n by show [_, _, _, _, _] = [_, _, _, _, _]; rw [e0, e13, e18]]
  refine v_istore hX (lv' := [(5, .int (iI k1)), (4, .int (iI (7 * (n : Int)))), (3, .ref (w1.1 18 0)), (2, .ref (w1.1 13 0)), (1, .ref (w1.1 0 0)), (0, .ref b)]) (Nat.le_of_ble_eq_true rfl) rfl (atL dAL_law_19 50 rfl) ?_
  refine v_aload_n hX 3 rfl (atL dAL_law_19 51 rfl) ?_
  refine v_aload_n hX 5 rfl (atL dAL_law_19 52 rfl) ?_
  refine v_iload hX 1 rfl (atL dAL_law_19 53 rfl) ?_
  refine v_iconst hX (atL dAL_law_19 54 rfl) ?_
  refine v_iadd hX (iI_add _ _) (atL dAL_law_19 55 rfl) ?_
  refine v_scld hX hS (7 * n + 1) (by omega) (by omega) hL (atL dAL_law_19 56 rfl) ?_
  rw [← hp1]
  refine v_aload_n hX 5 rfl (atL dAL_law_19 57 rfl) ?_
  refine v_iload hX 1 rfl (atL dAL_law_19 58 rfl) ?_
  refine v_iconst hX (atL dAL_law_19 59 rfl) ?_
  refine v_iadd hX (iI_add _ _) (atL dAL_law_20 0 rfl) ?_
  refine v_scld hX hS (7 * n + 2) (by omega) (by omega) hL (atL dAL_law_20 1 rfl) ?_
  rw [← hp2]
  refine v_aload_n hX 5 rfl (atL dAL_law_20 2 rfl) ?_
  refine v_iload hX 1 rfl (atL dAL_law_20 3 rfl) ?_
  refine v_iconst hX (atL dAL_law_20 4 rfl) ?_
  refine v_iadd hX (iI_add _ _) (atL dAL_law_20 5 rfl) ?_
  refine v_scld hX hS (7 * n + 3) (by omega) (by omega) hL (atL dAL_law_20 6 rfl) ?_
  rw [← hp3]
  refine v_callV hX (As := [.int (iI p1), .int (iI p2), .int (iI p3)]) (rest := []) (c_X8_empty (xl X) w1 s1 g13 A hM1 p1 hr1 p2 hr2 p3 hr3) lk_L_179 g13 (fun _ => rfl) rfl rfl rfl (by rw [hR]; exact ⟨Nat.le_of_ble_eq_true rfl, Nat.le_of_ble_eq_true rfl⟩) (by rw [hR]; exact ⟨by show z.1 + 3 ≤ 601024; omega, by show z.2 + 18 ≤ 7293034; omega⟩) rfl (Nat.le_of_ble_eq_true rfl) (atL dAL_law_20 7 rfl) (fun b2 s2 hq2 => ?_)
  obtain ⟨A2, hR2, hM2, hC2⟩ := hq2
  obtain ⟨ek, ea, eA⟩ := res_eq (uq_res hR1 hR2)
  subst eA
  subst ea
  have hH2 : HS s2 A1 := hH1.eq (fun c hc => funext fun i => hC2 c i (Or.inl hc))
  have fin : V X (z.1 + 3, z.2 + 18) w1 2311 (lvw w1 b n) s2 [] := v_fin hX (cn_next (mc := 3) (ms := 18) nx hG hZ (by decide) (by decide) ⟨hH2, hM2, hK1, g0, g13, g18, g19⟩)
  have hzq : ((z.1 + 3, z.2 + 18) : Nat × Nat).1 ≤ 601024 ∧ ((z.1 + 3, z.2 + 18) : Nat × Nat).2 ≤ 7293034 := ⟨by show z.1 + 3 ≤ 601024; omega, by show z.2 + 18 ≤ 7293034; omega⟩
  show V X (z.1 + 3, z.2 + 18) w1 _ _ s2 [.int (iI a1)]
  refine v_istore hX (lv' := [(6, .int (iI a1)), (5, .int (iI k1)), (4, .int (iI (7 * (n : Int)))), (3, .ref (w1.1 18 0)), (2, .ref (w1.1 13 0)), (1, .ref (w1.1 0 0)), (0, .ref b)]) (Nat.le_of_ble_eq_true rfl) rfl (atL dAL_law_20 8 rfl) ?_
  refine v_aload_n hX 4 rfl (atL dAL_law_20 9 rfl) ?_
  refine v_callV hX (As := []) (rest := []) (c_X8_thrown (xl X) w1 s2 g13) lk_L_110 g13 (fun _ => rfl) rfl rfl rfl (by rw [hR]; exact ⟨Nat.le_of_ble_eq_true rfl, Nat.le_of_ble_eq_true rfl⟩) (by rw [hR]; exact hzq) rfl (Nat.le_of_ble_eq_true rfl) (atL dAL_law_20 10 rfl) (fun r3 s3 hq3 => ?_)
  obtain ⟨er, es⟩ := hq3
  rw [es, er, ← ek]
  show V X (z.1 + 3, z.2 + 18) w1 _ _ s2 [.int (iI k1)]
  refine v_iload hX 1 rfl (atL dAL_law_20 11 rfl) ?_
  refine v_icmp_eq hX ⟨by omega, by omega⟩ ⟨by omega, by omega⟩ (tgt := 1886) (atL dAL_law_20 12 rfl) (by decide) (fun _ => ?_) (fun h => absurd rfl h)
  refine v_iload hX 1 rfl (atL dAL_law_20 15 rfl) ?_
  refine v_if_ne hX ⟨by omega, by omega⟩ (tgt := 1903) (atL dAL_law_20 16 rfl) (by decide) (fun hkk => ?_) (fun hkk => ?_)
  · refine v_goto hX (tgt := 2311) (atL dAL_law_20 26 rfl) (by decide) ?_
    exact v_sub (lv' := lvw w1 b n) [2, 3, 4, 5, 6] rfl fin
  · have hv : s2 15 0 0 = oI a1 := (congrFun (hC2 15 0 (Or.inr (Or.inl rfl))) 0).trans (ho1 hkk)
    refine v_aload_n hX 3 rfl (atL dAL_law_20 17 rfl) ?_
    refine v_iconst hX (atL dAL_law_20 18 rfl) ?_
    refine v_lald hX (r := jI (oI a1)) 0 g18 (fun _ => rfl) rfl (by decide) (by decide) (congrArg jI hv) (atL dAL_law_20 19 rfl) ?_
    refine v_iload hX 0 rfl (atL dAL_law_20 20 rfl) ?_
    refine v_i2l hX (i2l_of a1) (atL dAL_law_20 21 rfl) ?_
    refine v_lcmp_eq hX (rJ_oI a1) (rJ_oI a1) (atL dAL_law_20 22 rfl) (atL dAL_law_20 23 rfl) (tgt := 1903) (by decide) (fun _ => ?_) (fun h => absurd rfl h)
    refine v_goto hX (tgt := 2311) (atL dAL_law_20 26 rfl) (by decide) ?_
    exact v_sub (lv' := lvw w1 b n) [2, 3, 4, 5, 6] rfl fin

set_option maxHeartbeats 1000000 in
set_option maxRecDepth 100000 in
theorem case_sign [G : Gh] {X : CX} (hX : okX X code 7 RL ret) (hR : xR X = room_1) (hst : (xl X).stackTraces = false) (hN : va_Nc eA eI (xs X)) {b L : Nat} {sc : Nat → Int32} (hS : XS X b L sc) (hL : L ≤ 3584) {n : Nat} (hn : 7 * n + 7 ≤ L) (hG : ghk = 0 ∨ ghk = 1) {z : Nat × Nat} {w : Wl} {σ : St} {A : Ab} (hI : LwS w σ A) (hZ : ZB n z) (nx : NX X b (n + 1)) : V X z w 1906 (lvw w b n) σ [] := by
  obtain ⟨hH, hM, hK, h0, h13, h18, h19⟩ := hI
  have z1 : z.1 ≤ 40000 := by have := hZ.1; omega
  have z2 : z.2 ≤ 600000 := by have := hZ.2; omega
  obtain ⟨p1, hp1⟩ : ∃ q, q = (sc (7 * n + 1)).toInt := ⟨_, rfl⟩
  have hr1 : rI p1 := by rw [hp1]; exact rI_of _
  obtain ⟨p2, hp2⟩ : ∃ q, q = (sc (7 * n + 2)).toInt := ⟨_, rfl⟩
  have hr2 : rI p2 := by rw [hp2]; exact rI_of _
  obtain ⟨p3, hp3⟩ : ∃ q, q = (sc (7 * n + 3)).toInt := ⟨_, rfl⟩
  have hr3 : rI p3 := by rw [hp3]; exact rI_of _
  obtain ⟨p4, hp4⟩ : ∃ q, q = (sc (7 * n + 4)).toInt := ⟨_, rfl⟩
  have hr4 : rI p4 := by rw [hp4]; exact rI_of _
  refine v_aload_n hX 3 rfl (atL dAL_law_20 27 rfl) ?_
  refine v_aload_n hX 4 rfl (atL dAL_law_20 28 rfl) ?_
  refine v_iload hX 0 rfl (atL dAL_law_20 29 rfl) ?_
  refine v_iconst hX (atL dAL_law_20 30 rfl) ?_
  refine v_iadd hX (iI_add _ _) (atL dAL_law_20 31 rfl) ?_
  refine v_scld hX hS (7 * n + 1) (by omega) (by omega) hL (atL dAL_law_20 32 rfl) ?_
  rw [← hp1]
  refine v_aload_n hX 4 rfl (atL dAL_law_20 33 rfl) ?_
  refine v_iload hX 0 rfl (atL dAL_law_20 34 rfl) ?_
  refine v_iconst hX (atL dAL_law_20 35 rfl) ?_
  refine v_iadd hX (iI_add _ _) (atL dAL_law_20 36 rfl) ?_
  refine v_scld hX hS (7 * n + 2) (by omega) (by omega) hL (atL dAL_law_20 37 rfl) ?_
  rw [← hp2]
  refine v_aload_n hX 4 rfl (atL dAL_law_20 38 rfl) ?_
  refine v_iload hX 0 rfl (atL dAL_law_20 39 rfl) ?_
  refine v_iconst hX (atL dAL_law_20 40 rfl) ?_
  refine v_iadd hX (iI_add _ _) (atL dAL_law_20 41 rfl) ?_
  refine v_scld hX hS (7 * n + 3) (by omega) (by omega) hL (atL dAL_law_20 42 rfl) ?_
  rw [← hp3]
  refine v_aload_n hX 4 rfl (atL dAL_law_20 43 rfl) ?_
  refine v_iload hX 0 rfl (atL dAL_law_20 44 rfl) ?_
  refine v_iconst hX (atL dAL_law_20 45 rfl) ?_
  refine v_iadd hX (iI_add _ _) (atL dAL_law_20 46 rfl) ?_
  refine v_scld hX hS (7 * n + 4) (by omega) (by omega) hL (atL dAL_law_20 47 rfl) ?_
  rw [← hp4]
  refine v_aload_n hX 1 rfl (atL dAL_law_20 48 rfl) ?_
  refine v_callSH hX (As := [.ref (w.1 0 0), .int (iI p1), .int (iI p2), .int (iI p3), .int (iI p4), .ref (w.1 18 0)]) (rest := []) (c_L_sign (xl X) hst w σ h0 h18 A hH hK p1 hr1 p2 hr2 p3 hr3 p4 hr4) hN lh_sign rfl (by rw [hR]; exact ⟨Nat.le_of_ble_eq_true rfl, Nat.le_of_ble_eq_true rfl⟩) (by rw [hR]; exact ⟨by show z.1 + 4 ≤ 601024; omega, by show z.2 + 24 ≤ 7293034; omega⟩) rfl (Nat.le_of_ble_eq_true rfl) (atL dAL_law_20 49 rfl) (fun k1 w1 s1 hq1 => ?_)
  obtain ⟨a1, A1, hR1, hH1, hF1, ho1, hW1, hK1, hk1⟩ := hq1
  have hM1 : HM s1 A := hM.eq (fun c h1 h2 => hF1 c h1 (by omega) (by omega))
  have g0 := (hW1.1 0 0 h0).1
  have g13 := (hW1.1 13 0 h13).1
  have g18 := (hW1.1 18 0 h18).1
  have g19 : ∀ q, ¬ w1.2 19 q := fun q hq => (hW1.2 19 q hq).elim (h19 q) (fun h => by omega)
  show V X (z.1 + 4, z.2 + 24) w1 _ (lvw w b n) s1 [.int (iI k1)]
  have e0 := (hW1.1 0 0 h0).2
  have e13 := (hW1.1 13 0 h13).2
  have e18 := (hW1.1 18 0 h18).2
  rw [show lvw w b n = lvw w1 b n by show [_, _, _, _, _] = [_, _, _, _, _]; rw [e0, e13, e18]]
  refine v_istore hX (lv' := [(5, .int (iI k1)), (4, .int (iI (7 * (n : Int)))), (3, .ref (w1.1 18 0)), (2, .ref (w1.1 13 0)), (1, .ref (w1.1 0 0)), (0, .ref b)]) (Nat.le_of_ble_eq_true rfl) rfl (atL dAL_law_20 50 rfl) ?_
  refine v_aload_n hX 3 rfl (atL dAL_law_20 51 rfl) ?_
  refine v_aload_n hX 5 rfl (atL dAL_law_20 52 rfl) ?_
  refine v_iload hX 1 rfl (atL dAL_law_20 53 rfl) ?_
  refine v_iconst hX (atL dAL_law_20 54 rfl) ?_
  refine v_iadd hX (iI_add _ _) (atL dAL_law_20 55 rfl) ?_
  refine v_scld hX hS (7 * n + 1) (by omega) (by omega) hL (atL dAL_law_20 56 rfl) ?_
  rw [← hp1]
  refine v_aload_n hX 5 rfl (atL dAL_law_20 57 rfl) ?_
  refine v_iload hX 1 rfl (atL dAL_law_20 58 rfl) ?_
  refine v_iconst hX (atL dAL_law_20 59 rfl) ?_
  refine v_iadd hX (iI_add _ _) (atL dAL_law_21 0 rfl) ?_
  refine v_scld hX hS (7 * n + 2) (by omega) (by omega) hL (atL dAL_law_21 1 rfl) ?_
  rw [← hp2]
  refine v_aload_n hX 5 rfl (atL dAL_law_21 2 rfl) ?_
  refine v_iload hX 1 rfl (atL dAL_law_21 3 rfl) ?_
  refine v_iconst hX (atL dAL_law_21 4 rfl) ?_
  refine v_iadd hX (iI_add _ _) (atL dAL_law_21 5 rfl) ?_
  refine v_scld hX hS (7 * n + 3) (by omega) (by omega) hL (atL dAL_law_21 6 rfl) ?_
  rw [← hp3]
  refine v_aload_n hX 5 rfl (atL dAL_law_21 7 rfl) ?_
  refine v_iload hX 1 rfl (atL dAL_law_21 8 rfl) ?_
  refine v_iconst hX (atL dAL_law_21 9 rfl) ?_
  refine v_iadd hX (iI_add _ _) (atL dAL_law_21 10 rfl) ?_
  refine v_scld hX hS (7 * n + 4) (by omega) (by omega) hL (atL dAL_law_21 11 rfl) ?_
  rw [← hp4]
  have hkp := kap_le (s := s1)
  refine v_callVZ hX (As := [.int (iI p1), .int (iI p2), .int (iI p3), .int (iI p4)]) (rest := []) (c_X8_sign (xl X) w1 s1 g13 (fun q hq => absurd hq (g19 q)) A hM1 p1 hr1 p2 hr2 p3 hr3 p4 hr4) lk_L_182 g13 (fun _ => rfl) rfl rfl rfl (by rw [hR]; exact ⟨Nat.le_of_ble_eq_true rfl, Nat.le_of_ble_eq_true rfl⟩) (by rw [hR]; exact ⟨by show z.1 + 4 + kap s1 * 10360 ≤ 601024; omega, by show z.2 + 24 + kap s1 * 103600 ≤ 7293034; omega⟩) rfl (Nat.le_of_ble_eq_true rfl) (atL dAL_law_21 12 rfl) (fun b2 s2 hq2 hkq => ?_)
  obtain ⟨A2, hR2, hM2, hC2⟩ := hq2
  obtain ⟨ek, ea, eA⟩ := res_eq (uq_res hR1 hR2)
  subst eA
  subst ea
  have hH2 : HS s2 A1 := hH1.eq (fun c hc => funext fun i => hC2 c i (Or.inl hc))
  have fin : V X (z.1 + 4 + (kap s1 * 10360 - kap s2 * 10360), z.2 + 24 + (kap s1 * 103600 - kap s2 * 103600)) w1 2311 (lvw w1 b n) s2 [] := v_fin hX (cz_next (mc := 4) (ms := 24) nx hG hZ (by decide) (by decide) hM1 ⟨hH2, hM2, hK1, g0, g13, g18, g19⟩)
  have hzq : ((z.1 + 4 + (kap s1 * 10360 - kap s2 * 10360), z.2 + 24 + (kap s1 * 103600 - kap s2 * 103600)) : Nat × Nat).1 ≤ 601024 ∧ ((z.1 + 4 + (kap s1 * 10360 - kap s2 * 10360), z.2 + 24 + (kap s1 * 103600 - kap s2 * 103600)) : Nat × Nat).2 ≤ 7293034 := ⟨by show z.1 + 4 + (kap s1 * 10360 - kap s2 * 10360) ≤ 601024; omega, by show z.2 + 24 + (kap s1 * 103600 - kap s2 * 103600) ≤ 7293034; omega⟩
  show V X (z.1 + 4 + (kap s1 * 10360 - kap s2 * 10360), z.2 + 24 + (kap s1 * 103600 - kap s2 * 103600)) w1 _ _ s2 [.int (iI a1)]
  refine v_istore hX (lv' := [(6, .int (iI a1)), (5, .int (iI k1)), (4, .int (iI (7 * (n : Int)))), (3, .ref (w1.1 18 0)), (2, .ref (w1.1 13 0)), (1, .ref (w1.1 0 0)), (0, .ref b)]) (Nat.le_of_ble_eq_true rfl) rfl (atL dAL_law_21 13 rfl) ?_
  refine v_aload_n hX 4 rfl (atL dAL_law_21 14 rfl) ?_
  refine v_callV hX (As := []) (rest := []) (c_X8_thrown (xl X) w1 s2 g13) lk_L_110 g13 (fun _ => rfl) rfl rfl rfl (by rw [hR]; exact ⟨Nat.le_of_ble_eq_true rfl, Nat.le_of_ble_eq_true rfl⟩) (by rw [hR]; exact hzq) rfl (Nat.le_of_ble_eq_true rfl) (atL dAL_law_21 15 rfl) (fun r3 s3 hq3 => ?_)
  obtain ⟨er, es⟩ := hq3
  rw [es, er, ← ek]
  show V X (z.1 + 4 + (kap s1 * 10360 - kap s2 * 10360), z.2 + 24 + (kap s1 * 103600 - kap s2 * 103600)) w1 _ _ s2 [.int (iI k1)]
  refine v_iload hX 1 rfl (atL dAL_law_21 16 rfl) ?_
  refine v_icmp_eq hX ⟨by omega, by omega⟩ ⟨by omega, by omega⟩ (tgt := 1978) (atL dAL_law_21 17 rfl) (by decide) (fun _ => ?_) (fun h => absurd rfl h)
  refine v_iload hX 1 rfl (atL dAL_law_21 20 rfl) ?_
  refine v_if_ne hX ⟨by omega, by omega⟩ (tgt := 1995) (atL dAL_law_21 21 rfl) (by decide) (fun hkk => ?_) (fun hkk => ?_)
  · refine v_goto hX (tgt := 2311) (atL dAL_law_21 31 rfl) (by decide) ?_
    exact v_sub (lv' := lvw w1 b n) [2, 3, 4, 5, 6] rfl fin
  · have hv : s2 15 0 0 = oI a1 := (congrFun (hC2 15 0 (Or.inr (Or.inl rfl))) 0).trans (ho1 hkk)
    refine v_aload_n hX 3 rfl (atL dAL_law_21 22 rfl) ?_
    refine v_iconst hX (atL dAL_law_21 23 rfl) ?_
    refine v_lald hX (r := jI (oI a1)) 0 g18 (fun _ => rfl) rfl (by decide) (by decide) (congrArg jI hv) (atL dAL_law_21 24 rfl) ?_
    refine v_iload hX 0 rfl (atL dAL_law_21 25 rfl) ?_
    refine v_i2l hX (i2l_of a1) (atL dAL_law_21 26 rfl) ?_
    refine v_lcmp_eq hX (rJ_oI a1) (rJ_oI a1) (atL dAL_law_21 27 rfl) (atL dAL_law_21 28 rfl) (tgt := 1995) (by decide) (fun _ => ?_) (fun h => absurd rfl h)
    refine v_goto hX (tgt := 2311) (atL dAL_law_21 31 rfl) (by decide) ?_
    exact v_sub (lv' := lvw w1 b n) [2, 3, 4, 5, 6] rfl fin

set_option maxHeartbeats 1000000 in
set_option maxRecDepth 100000 in
theorem case_prove [G : Gh] {X : CX} (hX : okX X code 7 RL ret) (hR : xR X = room_1) (hst : (xl X).stackTraces = false) (hN : va_Nc eA eI (xs X)) {b L : Nat} {sc : Nat → Int32} (hS : XS X b L sc) (hL : L ≤ 3584) {n : Nat} (hn : 7 * n + 7 ≤ L) (hG : ghk = 0 ∨ ghk = 1) {z : Nat × Nat} {w : Wl} {σ : St} {A : Ab} (hI : LwS w σ A) (hZ : ZB n z) (nx : NX X b (n + 1)) : V X z w 1998 (lvw w b n) σ [] := by
  obtain ⟨hH, hM, hK, h0, h13, h18, h19⟩ := hI
  have z1 : z.1 ≤ 40000 := by have := hZ.1; omega
  have z2 : z.2 ≤ 600000 := by have := hZ.2; omega
  obtain ⟨p1, hp1⟩ : ∃ q, q = (sc (7 * n + 1)).toInt := ⟨_, rfl⟩
  have hr1 : rI p1 := by rw [hp1]; exact rI_of _
  obtain ⟨p2, hp2⟩ : ∃ q, q = (sc (7 * n + 2)).toInt := ⟨_, rfl⟩
  have hr2 : rI p2 := by rw [hp2]; exact rI_of _
  obtain ⟨p3, hp3⟩ : ∃ q, q = (sc (7 * n + 3)).toInt := ⟨_, rfl⟩
  have hr3 : rI p3 := by rw [hp3]; exact rI_of _
  obtain ⟨p4, hp4⟩ : ∃ q, q = (sc (7 * n + 4)).toInt := ⟨_, rfl⟩
  have hr4 : rI p4 := by rw [hp4]; exact rI_of _
  refine v_aload_n hX 3 rfl (atL dAL_law_21 32 rfl) ?_
  refine v_aload_n hX 4 rfl (atL dAL_law_21 33 rfl) ?_
  refine v_iload hX 0 rfl (atL dAL_law_21 34 rfl) ?_
  refine v_iconst hX (atL dAL_law_21 35 rfl) ?_
  refine v_iadd hX (iI_add _ _) (atL dAL_law_21 36 rfl) ?_
  refine v_scld hX hS (7 * n + 1) (by omega) (by omega) hL (atL dAL_law_21 37 rfl) ?_
  rw [← hp1]
  refine v_aload_n hX 4 rfl (atL dAL_law_21 38 rfl) ?_
  refine v_iload hX 0 rfl (atL dAL_law_21 39 rfl) ?_
  refine v_iconst hX (atL dAL_law_21 40 rfl) ?_
  refine v_iadd hX (iI_add _ _) (atL dAL_law_21 41 rfl) ?_
  refine v_scld hX hS (7 * n + 2) (by omega) (by omega) hL (atL dAL_law_21 42 rfl) ?_
  rw [← hp2]
  refine v_aload_n hX 4 rfl (atL dAL_law_21 43 rfl) ?_
  refine v_iload hX 0 rfl (atL dAL_law_21 44 rfl) ?_
  refine v_iconst hX (atL dAL_law_21 45 rfl) ?_
  refine v_iadd hX (iI_add _ _) (atL dAL_law_21 46 rfl) ?_
  refine v_scld hX hS (7 * n + 3) (by omega) (by omega) hL (atL dAL_law_21 47 rfl) ?_
  rw [← hp3]
  refine v_aload_n hX 4 rfl (atL dAL_law_21 48 rfl) ?_
  refine v_iload hX 0 rfl (atL dAL_law_21 49 rfl) ?_
  refine v_iconst hX (atL dAL_law_21 50 rfl) ?_
  refine v_iadd hX (iI_add _ _) (atL dAL_law_21 51 rfl) ?_
  refine v_scld hX hS (7 * n + 4) (by omega) (by omega) hL (atL dAL_law_21 52 rfl) ?_
  rw [← hp4]
  refine v_aload_n hX 1 rfl (atL dAL_law_21 53 rfl) ?_
  refine v_callSH hX (As := [.ref (w.1 0 0), .int (iI p1), .int (iI p2), .int (iI p3), .int (iI p4), .ref (w.1 18 0)]) (rest := []) (c_L_prove (xl X) hst w σ h0 h18 A hH hK p1 hr1 p2 hr2 p3 hr3 p4 hr4) hN lh_prove rfl (by rw [hR]; exact ⟨Nat.le_of_ble_eq_true rfl, Nat.le_of_ble_eq_true rfl⟩) (by rw [hR]; exact ⟨by show z.1 + 4 ≤ 601024; omega, by show z.2 + 24 ≤ 7293034; omega⟩) rfl (Nat.le_of_ble_eq_true rfl) (atL dAL_law_21 54 rfl) (fun k1 w1 s1 hq1 => ?_)
  obtain ⟨a1, A1, hR1, hH1, hF1, ho1, hW1, hK1, hk1⟩ := hq1
  have hM1 : HM s1 A := hM.eq (fun c h1 h2 => hF1 c h1 (by omega) (by omega))
  have g0 := (hW1.1 0 0 h0).1
  have g13 := (hW1.1 13 0 h13).1
  have g18 := (hW1.1 18 0 h18).1
  have g19 : ∀ q, ¬ w1.2 19 q := fun q hq => (hW1.2 19 q hq).elim (h19 q) (fun h => by omega)
  show V X (z.1 + 4, z.2 + 24) w1 _ (lvw w b n) s1 [.int (iI k1)]
  have e0 := (hW1.1 0 0 h0).2
  have e13 := (hW1.1 13 0 h13).2
  have e18 := (hW1.1 18 0 h18).2
  rw [show lvw w b n = lvw w1 b n by show [_, _, _, _, _] = [_, _, _, _, _]; rw [e0, e13, e18]]
  refine v_istore hX (lv' := [(5, .int (iI k1)), (4, .int (iI (7 * (n : Int)))), (3, .ref (w1.1 18 0)), (2, .ref (w1.1 13 0)), (1, .ref (w1.1 0 0)), (0, .ref b)]) (Nat.le_of_ble_eq_true rfl) rfl (atL dAL_law_21 55 rfl) ?_
  refine v_aload_n hX 3 rfl (atL dAL_law_21 56 rfl) ?_
  refine v_aload_n hX 5 rfl (atL dAL_law_21 57 rfl) ?_
  refine v_iload hX 1 rfl (atL dAL_law_21 58 rfl) ?_
  refine v_iconst hX (atL dAL_law_21 59 rfl) ?_
  refine v_iadd hX (iI_add _ _) (atL dAL_law_22 0 rfl) ?_
  refine v_scld hX hS (7 * n + 1) (by omega) (by omega) hL (atL dAL_law_22 1 rfl) ?_
  rw [← hp1]
  refine v_aload_n hX 5 rfl (atL dAL_law_22 2 rfl) ?_
  refine v_iload hX 1 rfl (atL dAL_law_22 3 rfl) ?_
  refine v_iconst hX (atL dAL_law_22 4 rfl) ?_
  refine v_iadd hX (iI_add _ _) (atL dAL_law_22 5 rfl) ?_
  refine v_scld hX hS (7 * n + 2) (by omega) (by omega) hL (atL dAL_law_22 6 rfl) ?_
  rw [← hp2]
  refine v_aload_n hX 5 rfl (atL dAL_law_22 7 rfl) ?_
  refine v_iload hX 1 rfl (atL dAL_law_22 8 rfl) ?_
  refine v_iconst hX (atL dAL_law_22 9 rfl) ?_
  refine v_iadd hX (iI_add _ _) (atL dAL_law_22 10 rfl) ?_
  refine v_scld hX hS (7 * n + 3) (by omega) (by omega) hL (atL dAL_law_22 11 rfl) ?_
  rw [← hp3]
  refine v_aload_n hX 5 rfl (atL dAL_law_22 12 rfl) ?_
  refine v_iload hX 1 rfl (atL dAL_law_22 13 rfl) ?_
  refine v_iconst hX (atL dAL_law_22 14 rfl) ?_
  refine v_iadd hX (iI_add _ _) (atL dAL_law_22 15 rfl) ?_
  refine v_scld hX hS (7 * n + 4) (by omega) (by omega) hL (atL dAL_law_22 16 rfl) ?_
  rw [← hp4]
  have hkp := kap_le (s := s1)
  refine v_callVZ hX (As := [.int (iI p1), .int (iI p2), .int (iI p3), .int (iI p4)]) (rest := []) (c_X8_prove (xl X) w1 s1 g13 (fun q hq => absurd hq (g19 q)) A hM1 p1 hr1 p2 hr2 p3 hr3 p4 hr4) lk_L_185 g13 (fun _ => rfl) rfl rfl rfl (by rw [hR]; exact ⟨Nat.le_of_ble_eq_true rfl, Nat.le_of_ble_eq_true rfl⟩) (by rw [hR]; exact ⟨by show z.1 + 4 + kap s1 * 10360 ≤ 601024; omega, by show z.2 + 24 + kap s1 * 103600 ≤ 7293034; omega⟩) rfl (Nat.le_of_ble_eq_true rfl) (atL dAL_law_22 17 rfl) (fun b2 s2 hq2 hkq => ?_)
  obtain ⟨A2, hR2, hM2, hC2⟩ := hq2
  obtain ⟨ek, ea, eA⟩ := res_eq (uq_res hR1 hR2)
  subst eA
  subst ea
  have hH2 : HS s2 A1 := hH1.eq (fun c hc => funext fun i => hC2 c i (Or.inl hc))
  have fin : V X (z.1 + 4 + (kap s1 * 10360 - kap s2 * 10360), z.2 + 24 + (kap s1 * 103600 - kap s2 * 103600)) w1 2311 (lvw w1 b n) s2 [] := v_fin hX (cz_next (mc := 4) (ms := 24) nx hG hZ (by decide) (by decide) hM1 ⟨hH2, hM2, hK1, g0, g13, g18, g19⟩)
  have hzq : ((z.1 + 4 + (kap s1 * 10360 - kap s2 * 10360), z.2 + 24 + (kap s1 * 103600 - kap s2 * 103600)) : Nat × Nat).1 ≤ 601024 ∧ ((z.1 + 4 + (kap s1 * 10360 - kap s2 * 10360), z.2 + 24 + (kap s1 * 103600 - kap s2 * 103600)) : Nat × Nat).2 ≤ 7293034 := ⟨by show z.1 + 4 + (kap s1 * 10360 - kap s2 * 10360) ≤ 601024; omega, by show z.2 + 24 + (kap s1 * 103600 - kap s2 * 103600) ≤ 7293034; omega⟩
  show V X (z.1 + 4 + (kap s1 * 10360 - kap s2 * 10360), z.2 + 24 + (kap s1 * 103600 - kap s2 * 103600)) w1 _ _ s2 [.int (iI a1)]
  refine v_istore hX (lv' := [(6, .int (iI a1)), (5, .int (iI k1)), (4, .int (iI (7 * (n : Int)))), (3, .ref (w1.1 18 0)), (2, .ref (w1.1 13 0)), (1, .ref (w1.1 0 0)), (0, .ref b)]) (Nat.le_of_ble_eq_true rfl) rfl (atL dAL_law_22 18 rfl) ?_
  refine v_aload_n hX 4 rfl (atL dAL_law_22 19 rfl) ?_
  refine v_callV hX (As := []) (rest := []) (c_X8_thrown (xl X) w1 s2 g13) lk_L_110 g13 (fun _ => rfl) rfl rfl rfl (by rw [hR]; exact ⟨Nat.le_of_ble_eq_true rfl, Nat.le_of_ble_eq_true rfl⟩) (by rw [hR]; exact hzq) rfl (Nat.le_of_ble_eq_true rfl) (atL dAL_law_22 20 rfl) (fun r3 s3 hq3 => ?_)
  obtain ⟨er, es⟩ := hq3
  rw [es, er, ← ek]
  show V X (z.1 + 4 + (kap s1 * 10360 - kap s2 * 10360), z.2 + 24 + (kap s1 * 103600 - kap s2 * 103600)) w1 _ _ s2 [.int (iI k1)]
  refine v_iload hX 1 rfl (atL dAL_law_22 21 rfl) ?_
  refine v_icmp_eq hX ⟨by omega, by omega⟩ ⟨by omega, by omega⟩ (tgt := 2070) (atL dAL_law_22 22 rfl) (by decide) (fun _ => ?_) (fun h => absurd rfl h)
  refine v_iload hX 1 rfl (atL dAL_law_22 25 rfl) ?_
  refine v_if_ne hX ⟨by omega, by omega⟩ (tgt := 2087) (atL dAL_law_22 26 rfl) (by decide) (fun hkk => ?_) (fun hkk => ?_)
  · refine v_goto hX (tgt := 2311) (atL dAL_law_22 36 rfl) (by decide) ?_
    exact v_sub (lv' := lvw w1 b n) [2, 3, 4, 5, 6] rfl fin
  · have hv : s2 15 0 0 = oI a1 := (congrFun (hC2 15 0 (Or.inr (Or.inl rfl))) 0).trans (ho1 hkk)
    refine v_aload_n hX 3 rfl (atL dAL_law_22 27 rfl) ?_
    refine v_iconst hX (atL dAL_law_22 28 rfl) ?_
    refine v_lald hX (r := jI (oI a1)) 0 g18 (fun _ => rfl) rfl (by decide) (by decide) (congrArg jI hv) (atL dAL_law_22 29 rfl) ?_
    refine v_iload hX 0 rfl (atL dAL_law_22 30 rfl) ?_
    refine v_i2l hX (i2l_of a1) (atL dAL_law_22 31 rfl) ?_
    refine v_lcmp_eq hX (rJ_oI a1) (rJ_oI a1) (atL dAL_law_22 32 rfl) (atL dAL_law_22 33 rfl) (tgt := 2087) (by decide) (fun _ => ?_) (fun h => absurd rfl h)
    refine v_goto hX (tgt := 2311) (atL dAL_law_22 36 rfl) (by decide) ?_
    exact v_sub (lv' := lvw w1 b n) [2, 3, 4, 5, 6] rfl fin

set_option maxHeartbeats 1000000 in
set_option maxRecDepth 100000 in
theorem case_salt [G : Gh] {X : CX} (hX : okX X code 7 RL ret) (hR : xR X = room_1) (hst : (xl X).stackTraces = false) (hN : va_Nc eA eI (xs X)) {b L : Nat} {sc : Nat → Int32} (hS : XS X b L sc) (hL : L ≤ 3584) {n : Nat} (hn : 7 * n + 7 ≤ L) (hG : ghk = 0 ∨ ghk = 1) {z : Nat × Nat} {w : Wl} {σ : St} {A : Ab} (hI : LwS w σ A) (hZ : ZB n z) (nx : NX X b (n + 1)) : V X z w 2090 (lvw w b n) σ [] := by
  obtain ⟨hH, hM, hK, h0, h13, h18, h19⟩ := hI
  have z1 : z.1 ≤ 40000 := by have := hZ.1; omega
  have z2 : z.2 ≤ 600000 := by have := hZ.2; omega
  obtain ⟨p1, hp1⟩ : ∃ q, q = (sc (7 * n + 1)).toInt := ⟨_, rfl⟩
  have hr1 : rI p1 := by rw [hp1]; exact rI_of _
  obtain ⟨p2, hp2⟩ : ∃ q, q = (sc (7 * n + 2)).toInt := ⟨_, rfl⟩
  have hr2 : rI p2 := by rw [hp2]; exact rI_of _
  obtain ⟨p3, hp3⟩ : ∃ q, q = (sc (7 * n + 3)).toInt := ⟨_, rfl⟩
  have hr3 : rI p3 := by rw [hp3]; exact rI_of _
  obtain ⟨p4, hp4⟩ : ∃ q, q = (sc (7 * n + 4)).toInt := ⟨_, rfl⟩
  have hr4 : rI p4 := by rw [hp4]; exact rI_of _
  obtain ⟨p5, hp5⟩ : ∃ q, q = (sc (7 * n + 5)).toInt := ⟨_, rfl⟩
  have hr5 : rI p5 := by rw [hp5]; exact rI_of _
  refine v_aload_n hX 3 rfl (atL dAL_law_22 37 rfl) ?_
  refine v_aload_n hX 4 rfl (atL dAL_law_22 38 rfl) ?_
  refine v_iload hX 0 rfl (atL dAL_law_22 39 rfl) ?_
  refine v_iconst hX (atL dAL_law_22 40 rfl) ?_
  refine v_iadd hX (iI_add _ _) (atL dAL_law_22 41 rfl) ?_
  refine v_scld hX hS (7 * n + 1) (by omega) (by omega) hL (atL dAL_law_22 42 rfl) ?_
  rw [← hp1]
  refine v_aload_n hX 4 rfl (atL dAL_law_22 43 rfl) ?_
  refine v_iload hX 0 rfl (atL dAL_law_22 44 rfl) ?_
  refine v_iconst hX (atL dAL_law_22 45 rfl) ?_
  refine v_iadd hX (iI_add _ _) (atL dAL_law_22 46 rfl) ?_
  refine v_scld hX hS (7 * n + 2) (by omega) (by omega) hL (atL dAL_law_22 47 rfl) ?_
  rw [← hp2]
  refine v_aload_n hX 4 rfl (atL dAL_law_22 48 rfl) ?_
  refine v_iload hX 0 rfl (atL dAL_law_22 49 rfl) ?_
  refine v_iconst hX (atL dAL_law_22 50 rfl) ?_
  refine v_iadd hX (iI_add _ _) (atL dAL_law_22 51 rfl) ?_
  refine v_scld hX hS (7 * n + 3) (by omega) (by omega) hL (atL dAL_law_22 52 rfl) ?_
  rw [← hp3]
  refine v_aload_n hX 4 rfl (atL dAL_law_22 53 rfl) ?_
  refine v_iload hX 0 rfl (atL dAL_law_22 54 rfl) ?_
  refine v_iconst hX (atL dAL_law_22 55 rfl) ?_
  refine v_iadd hX (iI_add _ _) (atL dAL_law_22 56 rfl) ?_
  refine v_scld hX hS (7 * n + 4) (by omega) (by omega) hL (atL dAL_law_22 57 rfl) ?_
  rw [← hp4]
  refine v_aload_n hX 4 rfl (atL dAL_law_22 58 rfl) ?_
  refine v_iload hX 0 rfl (atL dAL_law_22 59 rfl) ?_
  refine v_iconst hX (atL dAL_law_23 0 rfl) ?_
  refine v_iadd hX (iI_add _ _) (atL dAL_law_23 1 rfl) ?_
  refine v_scld hX hS (7 * n + 5) (by omega) (by omega) hL (atL dAL_law_23 2 rfl) ?_
  rw [← hp5]
  refine v_aload_n hX 1 rfl (atL dAL_law_23 3 rfl) ?_
  refine v_callSH hX (As := [.ref (w.1 0 0), .int (iI p1), .int (iI p2), .int (iI p3), .int (iI p4), .int (iI p5), .ref (w.1 18 0)]) (rest := []) (c_L_salt (xl X) hst w σ h0 h18 A hH hK p1 hr1 p2 hr2 p3 hr3 p4 hr4 p5 hr5) hN lh_salt rfl (by rw [hR]; exact ⟨Nat.le_of_ble_eq_true rfl, Nat.le_of_ble_eq_true rfl⟩) (by rw [hR]; exact ⟨by show z.1 + 5 ≤ 601024; omega, by show z.2 + 30 ≤ 7293034; omega⟩) rfl (Nat.le_of_ble_eq_true rfl) (atL dAL_law_23 4 rfl) (fun k1 w1 s1 hq1 => ?_)
  obtain ⟨a1, A1, hR1, hH1, hF1, ho1, hW1, hK1, hk1⟩ := hq1
  have hM1 : HM s1 A := hM.eq (fun c h1 h2 => hF1 c h1 (by omega) (by omega))
  have g0 := (hW1.1 0 0 h0).1
  have g13 := (hW1.1 13 0 h13).1
  have g18 := (hW1.1 18 0 h18).1
  have g19 : ∀ q, ¬ w1.2 19 q := fun q hq => (hW1.2 19 q hq).elim (h19 q) (fun h => by omega)
  show V X (z.1 + 5, z.2 + 30) w1 _ (lvw w b n) s1 [.int (iI k1)]
  have e0 := (hW1.1 0 0 h0).2
  have e13 := (hW1.1 13 0 h13).2
  have e18 := (hW1.1 18 0 h18).2
  rw [show lvw w b n = lvw w1 b n by show [_, _, _, _, _] = [_, _, _, _, _]; rw [e0, e13, e18]]
  refine v_istore hX (lv' := [(5, .int (iI k1)), (4, .int (iI (7 * (n : Int)))), (3, .ref (w1.1 18 0)), (2, .ref (w1.1 13 0)), (1, .ref (w1.1 0 0)), (0, .ref b)]) (Nat.le_of_ble_eq_true rfl) rfl (atL dAL_law_23 5 rfl) ?_
  refine v_aload_n hX 3 rfl (atL dAL_law_23 6 rfl) ?_
  refine v_aload_n hX 5 rfl (atL dAL_law_23 7 rfl) ?_
  refine v_iload hX 1 rfl (atL dAL_law_23 8 rfl) ?_
  refine v_iconst hX (atL dAL_law_23 9 rfl) ?_
  refine v_iadd hX (iI_add _ _) (atL dAL_law_23 10 rfl) ?_
  refine v_scld hX hS (7 * n + 1) (by omega) (by omega) hL (atL dAL_law_23 11 rfl) ?_
  rw [← hp1]
  refine v_aload_n hX 5 rfl (atL dAL_law_23 12 rfl) ?_
  refine v_iload hX 1 rfl (atL dAL_law_23 13 rfl) ?_
  refine v_iconst hX (atL dAL_law_23 14 rfl) ?_
  refine v_iadd hX (iI_add _ _) (atL dAL_law_23 15 rfl) ?_
  refine v_scld hX hS (7 * n + 2) (by omega) (by omega) hL (atL dAL_law_23 16 rfl) ?_
  rw [← hp2]
  refine v_aload_n hX 5 rfl (atL dAL_law_23 17 rfl) ?_
  refine v_iload hX 1 rfl (atL dAL_law_23 18 rfl) ?_
  refine v_iconst hX (atL dAL_law_23 19 rfl) ?_
  refine v_iadd hX (iI_add _ _) (atL dAL_law_23 20 rfl) ?_
  refine v_scld hX hS (7 * n + 3) (by omega) (by omega) hL (atL dAL_law_23 21 rfl) ?_
  rw [← hp3]
  refine v_aload_n hX 5 rfl (atL dAL_law_23 22 rfl) ?_
  refine v_iload hX 1 rfl (atL dAL_law_23 23 rfl) ?_
  refine v_iconst hX (atL dAL_law_23 24 rfl) ?_
  refine v_iadd hX (iI_add _ _) (atL dAL_law_23 25 rfl) ?_
  refine v_scld hX hS (7 * n + 4) (by omega) (by omega) hL (atL dAL_law_23 26 rfl) ?_
  rw [← hp4]
  refine v_aload_n hX 5 rfl (atL dAL_law_23 27 rfl) ?_
  refine v_iload hX 1 rfl (atL dAL_law_23 28 rfl) ?_
  refine v_iconst hX (atL dAL_law_23 29 rfl) ?_
  refine v_iadd hX (iI_add _ _) (atL dAL_law_23 30 rfl) ?_
  refine v_scld hX hS (7 * n + 5) (by omega) (by omega) hL (atL dAL_law_23 31 rfl) ?_
  rw [← hp5]
  have hkp := kap_le (s := s1)
  refine v_callVZ hX (As := [.int (iI p1), .int (iI p2), .int (iI p3), .int (iI p4), .int (iI p5)]) (rest := []) (c_X8_salt (xl X) w1 s1 g13 (fun q hq => absurd hq (g19 q)) A hM1 p1 hr1 p2 hr2 p3 hr3 p4 hr4 p5 hr5) lk_L_188 g13 (fun _ => rfl) rfl rfl rfl (by rw [hR]; exact ⟨Nat.le_of_ble_eq_true rfl, Nat.le_of_ble_eq_true rfl⟩) (by rw [hR]; exact ⟨by show z.1 + 5 + kap s1 * 10360 ≤ 601024; omega, by show z.2 + 30 + kap s1 * 103600 ≤ 7293034; omega⟩) rfl (Nat.le_of_ble_eq_true rfl) (atL dAL_law_23 32 rfl) (fun b2 s2 hq2 hkq => ?_)
  obtain ⟨A2, hR2, hM2, hC2⟩ := hq2
  obtain ⟨ek, ea, eA⟩ := res_eq (uq_res hR1 hR2)
  subst eA
  subst ea
  have hH2 : HS s2 A1 := hH1.eq (fun c hc => funext fun i => hC2 c i (Or.inl hc))
  have fin : V X (z.1 + 5 + (kap s1 * 10360 - kap s2 * 10360), z.2 + 30 + (kap s1 * 103600 - kap s2 * 103600)) w1 2311 (lvw w1 b n) s2 [] := v_fin hX (cz_next (mc := 5) (ms := 30) nx hG hZ (by decide) (by decide) hM1 ⟨hH2, hM2, hK1, g0, g13, g18, g19⟩)
  have hzq : ((z.1 + 5 + (kap s1 * 10360 - kap s2 * 10360), z.2 + 30 + (kap s1 * 103600 - kap s2 * 103600)) : Nat × Nat).1 ≤ 601024 ∧ ((z.1 + 5 + (kap s1 * 10360 - kap s2 * 10360), z.2 + 30 + (kap s1 * 103600 - kap s2 * 103600)) : Nat × Nat).2 ≤ 7293034 := ⟨by show z.1 + 5 + (kap s1 * 10360 - kap s2 * 10360) ≤ 601024; omega, by show z.2 + 30 + (kap s1 * 103600 - kap s2 * 103600) ≤ 7293034; omega⟩
  show V X (z.1 + 5 + (kap s1 * 10360 - kap s2 * 10360), z.2 + 30 + (kap s1 * 103600 - kap s2 * 103600)) w1 _ _ s2 [.int (iI a1)]
  refine v_istore hX (lv' := [(6, .int (iI a1)), (5, .int (iI k1)), (4, .int (iI (7 * (n : Int)))), (3, .ref (w1.1 18 0)), (2, .ref (w1.1 13 0)), (1, .ref (w1.1 0 0)), (0, .ref b)]) (Nat.le_of_ble_eq_true rfl) rfl (atL dAL_law_23 33 rfl) ?_
  refine v_aload_n hX 4 rfl (atL dAL_law_23 34 rfl) ?_
  refine v_callV hX (As := []) (rest := []) (c_X8_thrown (xl X) w1 s2 g13) lk_L_110 g13 (fun _ => rfl) rfl rfl rfl (by rw [hR]; exact ⟨Nat.le_of_ble_eq_true rfl, Nat.le_of_ble_eq_true rfl⟩) (by rw [hR]; exact hzq) rfl (Nat.le_of_ble_eq_true rfl) (atL dAL_law_23 35 rfl) (fun r3 s3 hq3 => ?_)
  obtain ⟨er, es⟩ := hq3
  rw [es, er, ← ek]
  show V X (z.1 + 5 + (kap s1 * 10360 - kap s2 * 10360), z.2 + 30 + (kap s1 * 103600 - kap s2 * 103600)) w1 _ _ s2 [.int (iI k1)]
  refine v_iload hX 1 rfl (atL dAL_law_23 36 rfl) ?_
  refine v_icmp_eq hX ⟨by omega, by omega⟩ ⟨by omega, by omega⟩ (tgt := 2174) (atL dAL_law_23 37 rfl) (by decide) (fun _ => ?_) (fun h => absurd rfl h)
  refine v_iload hX 1 rfl (atL dAL_law_23 40 rfl) ?_
  refine v_if_ne hX ⟨by omega, by omega⟩ (tgt := 2191) (atL dAL_law_23 41 rfl) (by decide) (fun hkk => ?_) (fun hkk => ?_)
  · refine v_goto hX (tgt := 2311) (atL dAL_law_23 51 rfl) (by decide) ?_
    exact v_sub (lv' := lvw w1 b n) [2, 3, 4, 5, 6] rfl fin
  · have hv : s2 15 0 0 = oI a1 := (congrFun (hC2 15 0 (Or.inr (Or.inl rfl))) 0).trans (ho1 hkk)
    refine v_aload_n hX 3 rfl (atL dAL_law_23 42 rfl) ?_
    refine v_iconst hX (atL dAL_law_23 43 rfl) ?_
    refine v_lald hX (r := jI (oI a1)) 0 g18 (fun _ => rfl) rfl (by decide) (by decide) (congrArg jI hv) (atL dAL_law_23 44 rfl) ?_
    refine v_iload hX 0 rfl (atL dAL_law_23 45 rfl) ?_
    refine v_i2l hX (i2l_of a1) (atL dAL_law_23 46 rfl) ?_
    refine v_lcmp_eq hX (rJ_oI a1) (rJ_oI a1) (atL dAL_law_23 47 rfl) (atL dAL_law_23 48 rfl) (tgt := 2191) (by decide) (fun _ => ?_) (fun h => absurd rfl h)
    refine v_goto hX (tgt := 2311) (atL dAL_law_23 51 rfl) (by decide) ?_
    exact v_sub (lv' := lvw w1 b n) [2, 3, 4, 5, 6] rfl fin

set_option maxHeartbeats 1000000 in
set_option maxRecDepth 100000 in
theorem case_taste [G : Gh] {X : CX} (hX : okX X code 7 RL ret) (hR : xR X = room_1) (hst : (xl X).stackTraces = false) (hN : va_Nc eA eI (xs X)) {b L : Nat} {sc : Nat → Int32} (hS : XS X b L sc) (hL : L ≤ 3584) {n : Nat} (hn : 7 * n + 7 ≤ L) (hG : ghk = 0 ∨ ghk = 1) {z : Nat × Nat} {w : Wl} {σ : St} {A : Ab} (hI : LwS w σ A) (hZ : ZB n z) (nx : NX X b (n + 1)) : V X z w 2194 (lvw w b n) σ [] := by
  obtain ⟨hH, hM, hK, h0, h13, h18, h19⟩ := hI
  have z1 : z.1 ≤ 40000 := by have := hZ.1; omega
  have z2 : z.2 ≤ 600000 := by have := hZ.2; omega
  obtain ⟨p1, hp1⟩ : ∃ q, q = (sc (7 * n + 1)).toInt := ⟨_, rfl⟩
  have hr1 : rI p1 := by rw [hp1]; exact rI_of _
  obtain ⟨p2, hp2⟩ : ∃ q, q = (sc (7 * n + 2)).toInt := ⟨_, rfl⟩
  have hr2 : rI p2 := by rw [hp2]; exact rI_of _
  obtain ⟨p3, hp3⟩ : ∃ q, q = (sc (7 * n + 3)).toInt := ⟨_, rfl⟩
  have hr3 : rI p3 := by rw [hp3]; exact rI_of _
  obtain ⟨p4, hp4⟩ : ∃ q, q = (sc (7 * n + 4)).toInt := ⟨_, rfl⟩
  have hr4 : rI p4 := by rw [hp4]; exact rI_of _
  obtain ⟨p5, hp5⟩ : ∃ q, q = (sc (7 * n + 5)).toInt := ⟨_, rfl⟩
  have hr5 : rI p5 := by rw [hp5]; exact rI_of _
  refine v_aload_n hX 3 rfl (atL dAL_law_23 52 rfl) ?_
  refine v_aload_n hX 4 rfl (atL dAL_law_23 53 rfl) ?_
  refine v_iload hX 0 rfl (atL dAL_law_23 54 rfl) ?_
  refine v_iconst hX (atL dAL_law_23 55 rfl) ?_
  refine v_iadd hX (iI_add _ _) (atL dAL_law_23 56 rfl) ?_
  refine v_scld hX hS (7 * n + 1) (by omega) (by omega) hL (atL dAL_law_23 57 rfl) ?_
  rw [← hp1]
  refine v_aload_n hX 4 rfl (atL dAL_law_23 58 rfl) ?_
  refine v_iload hX 0 rfl (atL dAL_law_23 59 rfl) ?_
  refine v_iconst hX (atL dAL_law_24 0 rfl) ?_
  refine v_iadd hX (iI_add _ _) (atL dAL_law_24 1 rfl) ?_
  refine v_scld hX hS (7 * n + 2) (by omega) (by omega) hL (atL dAL_law_24 2 rfl) ?_
  rw [← hp2]
  refine v_aload_n hX 4 rfl (atL dAL_law_24 3 rfl) ?_
  refine v_iload hX 0 rfl (atL dAL_law_24 4 rfl) ?_
  refine v_iconst hX (atL dAL_law_24 5 rfl) ?_
  refine v_iadd hX (iI_add _ _) (atL dAL_law_24 6 rfl) ?_
  refine v_scld hX hS (7 * n + 3) (by omega) (by omega) hL (atL dAL_law_24 7 rfl) ?_
  rw [← hp3]
  refine v_aload_n hX 4 rfl (atL dAL_law_24 8 rfl) ?_
  refine v_iload hX 0 rfl (atL dAL_law_24 9 rfl) ?_
  refine v_iconst hX (atL dAL_law_24 10 rfl) ?_
  refine v_iadd hX (iI_add _ _) (atL dAL_law_24 11 rfl) ?_
  refine v_scld hX hS (7 * n + 4) (by omega) (by omega) hL (atL dAL_law_24 12 rfl) ?_
  rw [← hp4]
  refine v_aload_n hX 4 rfl (atL dAL_law_24 13 rfl) ?_
  refine v_iload hX 0 rfl (atL dAL_law_24 14 rfl) ?_
  refine v_iconst hX (atL dAL_law_24 15 rfl) ?_
  refine v_iadd hX (iI_add _ _) (atL dAL_law_24 16 rfl) ?_
  refine v_scld hX hS (7 * n + 5) (by omega) (by omega) hL (atL dAL_law_24 17 rfl) ?_
  rw [← hp5]
  refine v_aload_n hX 1 rfl (atL dAL_law_24 18 rfl) ?_
  refine v_callSH hX (As := [.ref (w.1 0 0), .int (iI p1), .int (iI p2), .int (iI p3), .int (iI p4), .int (iI p5), .ref (w.1 18 0)]) (rest := []) (c_L_taste (xl X) hst w σ h0 h18 A hH hK p1 hr1 p2 hr2 p3 hr3 p4 hr4 p5 hr5) hN lh_taste rfl (by rw [hR]; exact ⟨Nat.le_of_ble_eq_true rfl, Nat.le_of_ble_eq_true rfl⟩) (by rw [hR]; exact ⟨by show z.1 + 5 ≤ 601024; omega, by show z.2 + 30 ≤ 7293034; omega⟩) rfl (Nat.le_of_ble_eq_true rfl) (atL dAL_law_24 19 rfl) (fun k1 w1 s1 hq1 => ?_)
  obtain ⟨a1, A1, hR1, hH1, hF1, ho1, hW1, hK1, hk1⟩ := hq1
  have hM1 : HM s1 A := hM.eq (fun c h1 h2 => hF1 c h1 (by omega) (by omega))
  have g0 := (hW1.1 0 0 h0).1
  have g13 := (hW1.1 13 0 h13).1
  have g18 := (hW1.1 18 0 h18).1
  have g19 : ∀ q, ¬ w1.2 19 q := fun q hq => (hW1.2 19 q hq).elim (h19 q) (fun h => by omega)
  show V X (z.1 + 5, z.2 + 30) w1 _ (lvw w b n) s1 [.int (iI k1)]
  have e0 := (hW1.1 0 0 h0).2
  have e13 := (hW1.1 13 0 h13).2
  have e18 := (hW1.1 18 0 h18).2
  rw [show lvw w b n = lvw w1 b n by show [_, _, _, _, _] = [_, _, _, _, _]; rw [e0, e13, e18]]
  refine v_istore hX (lv' := [(5, .int (iI k1)), (4, .int (iI (7 * (n : Int)))), (3, .ref (w1.1 18 0)), (2, .ref (w1.1 13 0)), (1, .ref (w1.1 0 0)), (0, .ref b)]) (Nat.le_of_ble_eq_true rfl) rfl (atL dAL_law_24 20 rfl) ?_
  refine v_aload_n hX 3 rfl (atL dAL_law_24 21 rfl) ?_
  refine v_aload_n hX 5 rfl (atL dAL_law_24 22 rfl) ?_
  refine v_iload hX 1 rfl (atL dAL_law_24 23 rfl) ?_
  refine v_iconst hX (atL dAL_law_24 24 rfl) ?_
  refine v_iadd hX (iI_add _ _) (atL dAL_law_24 25 rfl) ?_
  refine v_scld hX hS (7 * n + 1) (by omega) (by omega) hL (atL dAL_law_24 26 rfl) ?_
  rw [← hp1]
  refine v_aload_n hX 5 rfl (atL dAL_law_24 27 rfl) ?_
  refine v_iload hX 1 rfl (atL dAL_law_24 28 rfl) ?_
  refine v_iconst hX (atL dAL_law_24 29 rfl) ?_
  refine v_iadd hX (iI_add _ _) (atL dAL_law_24 30 rfl) ?_
  refine v_scld hX hS (7 * n + 2) (by omega) (by omega) hL (atL dAL_law_24 31 rfl) ?_
  rw [← hp2]
  refine v_aload_n hX 5 rfl (atL dAL_law_24 32 rfl) ?_
  refine v_iload hX 1 rfl (atL dAL_law_24 33 rfl) ?_
  refine v_iconst hX (atL dAL_law_24 34 rfl) ?_
  refine v_iadd hX (iI_add _ _) (atL dAL_law_24 35 rfl) ?_
  refine v_scld hX hS (7 * n + 3) (by omega) (by omega) hL (atL dAL_law_24 36 rfl) ?_
  rw [← hp3]
  refine v_aload_n hX 5 rfl (atL dAL_law_24 37 rfl) ?_
  refine v_iload hX 1 rfl (atL dAL_law_24 38 rfl) ?_
  refine v_iconst hX (atL dAL_law_24 39 rfl) ?_
  refine v_iadd hX (iI_add _ _) (atL dAL_law_24 40 rfl) ?_
  refine v_scld hX hS (7 * n + 4) (by omega) (by omega) hL (atL dAL_law_24 41 rfl) ?_
  rw [← hp4]
  refine v_aload_n hX 5 rfl (atL dAL_law_24 42 rfl) ?_
  refine v_iload hX 1 rfl (atL dAL_law_24 43 rfl) ?_
  refine v_iconst hX (atL dAL_law_24 44 rfl) ?_
  refine v_iadd hX (iI_add _ _) (atL dAL_law_24 45 rfl) ?_
  refine v_scld hX hS (7 * n + 5) (by omega) (by omega) hL (atL dAL_law_24 46 rfl) ?_
  rw [← hp5]
  have hkp := kap_le (s := s1)
  refine v_callVZ hX (As := [.int (iI p1), .int (iI p2), .int (iI p3), .int (iI p4), .int (iI p5)]) (rest := []) (c_X8_taste (xl X) w1 s1 g13 (fun q hq => absurd hq (g19 q)) A hM1 p1 hr1 p2 hr2 p3 hr3 p4 hr4 p5 hr5) lk_L_191 g13 (fun _ => rfl) rfl rfl rfl (by rw [hR]; exact ⟨Nat.le_of_ble_eq_true rfl, Nat.le_of_ble_eq_true rfl⟩) (by rw [hR]; exact ⟨by show z.1 + 5 + kap s1 * 10360 ≤ 601024; omega, by show z.2 + 30 + kap s1 * 103600 ≤ 7293034; omega⟩) rfl (Nat.le_of_ble_eq_true rfl) (atL dAL_law_24 47 rfl) (fun b2 s2 hq2 hkq => ?_)
  obtain ⟨A2, hR2, hM2, hC2⟩ := hq2
  obtain ⟨ek, ea, eA⟩ := res_eq (uq_res hR1 hR2)
  subst eA
  subst ea
  have hH2 : HS s2 A1 := hH1.eq (fun c hc => funext fun i => hC2 c i (Or.inl hc))
  have fin : V X (z.1 + 5 + (kap s1 * 10360 - kap s2 * 10360), z.2 + 30 + (kap s1 * 103600 - kap s2 * 103600)) w1 2311 (lvw w1 b n) s2 [] := v_fin hX (cz_next (mc := 5) (ms := 30) nx hG hZ (by decide) (by decide) hM1 ⟨hH2, hM2, hK1, g0, g13, g18, g19⟩)
  have hzq : ((z.1 + 5 + (kap s1 * 10360 - kap s2 * 10360), z.2 + 30 + (kap s1 * 103600 - kap s2 * 103600)) : Nat × Nat).1 ≤ 601024 ∧ ((z.1 + 5 + (kap s1 * 10360 - kap s2 * 10360), z.2 + 30 + (kap s1 * 103600 - kap s2 * 103600)) : Nat × Nat).2 ≤ 7293034 := ⟨by show z.1 + 5 + (kap s1 * 10360 - kap s2 * 10360) ≤ 601024; omega, by show z.2 + 30 + (kap s1 * 103600 - kap s2 * 103600) ≤ 7293034; omega⟩
  show V X (z.1 + 5 + (kap s1 * 10360 - kap s2 * 10360), z.2 + 30 + (kap s1 * 103600 - kap s2 * 103600)) w1 _ _ s2 [.int (iI a1)]
  refine v_istore hX (lv' := [(6, .int (iI a1)), (5, .int (iI k1)), (4, .int (iI (7 * (n : Int)))), (3, .ref (w1.1 18 0)), (2, .ref (w1.1 13 0)), (1, .ref (w1.1 0 0)), (0, .ref b)]) (Nat.le_of_ble_eq_true rfl) rfl (atL dAL_law_24 48 rfl) ?_
  refine v_aload_n hX 4 rfl (atL dAL_law_24 49 rfl) ?_
  refine v_callV hX (As := []) (rest := []) (c_X8_thrown (xl X) w1 s2 g13) lk_L_110 g13 (fun _ => rfl) rfl rfl rfl (by rw [hR]; exact ⟨Nat.le_of_ble_eq_true rfl, Nat.le_of_ble_eq_true rfl⟩) (by rw [hR]; exact hzq) rfl (Nat.le_of_ble_eq_true rfl) (atL dAL_law_24 50 rfl) (fun r3 s3 hq3 => ?_)
  obtain ⟨er, es⟩ := hq3
  rw [es, er, ← ek]
  show V X (z.1 + 5 + (kap s1 * 10360 - kap s2 * 10360), z.2 + 30 + (kap s1 * 103600 - kap s2 * 103600)) w1 _ _ s2 [.int (iI k1)]
  refine v_iload hX 1 rfl (atL dAL_law_24 51 rfl) ?_
  refine v_icmp_eq hX ⟨by omega, by omega⟩ ⟨by omega, by omega⟩ (tgt := 2278) (atL dAL_law_24 52 rfl) (by decide) (fun _ => ?_) (fun h => absurd rfl h)
  refine v_iload hX 1 rfl (atL dAL_law_24 55 rfl) ?_
  refine v_if_ne hX ⟨by omega, by omega⟩ (tgt := 2295) (atL dAL_law_24 56 rfl) (by decide) (fun hkk => ?_) (fun hkk => ?_)
  · refine v_goto hX (tgt := 2311) (atL dAL_law_25 6 rfl) (by decide) ?_
    exact v_sub (lv' := lvw w1 b n) [2, 3, 4, 5, 6] rfl fin
  · have hv : s2 15 0 0 = oI a1 := (congrFun (hC2 15 0 (Or.inr (Or.inl rfl))) 0).trans (ho1 hkk)
    refine v_aload_n hX 3 rfl (atL dAL_law_24 57 rfl) ?_
    refine v_iconst hX (atL dAL_law_24 58 rfl) ?_
    refine v_lald hX (r := jI (oI a1)) 0 g18 (fun _ => rfl) rfl (by decide) (by decide) (congrArg jI hv) (atL dAL_law_24 59 rfl) ?_
    refine v_iload hX 0 rfl (atL dAL_law_25 0 rfl) ?_
    refine v_i2l hX (i2l_of a1) (atL dAL_law_25 1 rfl) ?_
    refine v_lcmp_eq hX (rJ_oI a1) (rJ_oI a1) (atL dAL_law_25 2 rfl) (atL dAL_law_25 3 rfl) (tgt := 2295) (by decide) (fun _ => ?_) (fun h => absurd rfl h)
    refine v_goto hX (tgt := 2311) (atL dAL_law_25 6 rfl) (by decide) ?_
    exact v_sub (lv' := lvw w1 b n) [2, 3, 4, 5, 6] rfl fin

set_option maxHeartbeats 1000000 in
set_option maxRecDepth 100000 in
theorem case_keys [G : Gh] {X : CX} (hX : okX X code 7 RL ret) (hR : xR X = room_1) (hst : (xl X).stackTraces = false) (hN : va_Nc eA eI (xs X)) {b L : Nat} {sc : Nat → Int32} (hS : XS X b L sc) (hL : L ≤ 3584) {n : Nat} (hn : 7 * n + 7 ≤ L) (hG : ghk = 0 ∨ ghk = 1) {z : Nat × Nat} {w : Wl} {σ : St} {A : Ab} (hI : LwS w σ A) (hZ : ZB n z) (nx : NX X b (n + 1)) : V X z w 2298 (lvw w b n) σ [] := by
  obtain ⟨hH, hM, hK, h0, h13, h18, h19⟩ := hI
  have z1 : z.1 ≤ 40000 := by have := hZ.1; omega
  have z2 : z.2 ≤ 600000 := by have := hZ.2; omega
  refine v_aload_n hX 3 rfl (atL dAL_law_25 7 rfl) ?_
  refine v_callV hX (As := []) (rest := []) (c_X6_keys (xl X) w σ h0 A hH) lk_L_192 h0 (fun _ => rfl) rfl rfl rfl (by rw [hR]; exact ⟨Nat.le_of_ble_eq_true rfl, Nat.le_of_ble_eq_true rfl⟩) (by rw [hR]; exact ⟨by show z.1 ≤ 601024; omega, by show z.2 ≤ 7293034; omega⟩) rfl (Nat.le_of_ble_eq_true rfl) (atL dAL_law_25 8 rfl) (fun a1 s1 hq1 => ?_)
  obtain ⟨ea, hH1, hF1⟩ := hq1
  have hM1 : HM s1 A := hM.eq (fun c h1 _ => hF1 c h1)
  show V X _ w _ _ s1 [.int (iI a1)]
  refine v_aload_n hX 2 rfl (atL dAL_law_25 9 rfl) ?_
  refine v_callV hX (As := []) (rest := [.int (iI a1)]) (c_X8_keys (xl X) w s1 h13) lk_L_195 h13 (fun _ => rfl) rfl rfl rfl (by rw [hR]; exact ⟨Nat.le_of_ble_eq_true rfl, Nat.le_of_ble_eq_true rfl⟩) (by rw [hR]; exact ⟨by show z.1 ≤ 601024; omega, by show z.2 ≤ 7293034; omega⟩) rfl (Nat.le_of_ble_eq_true rfl) (atL dAL_law_25 10 rfl) (fun b2 s2 hq2 => ?_)
  show V X _ w _ _ s2 [.int (iI b2), .int (iI a1)]
  obtain ⟨eb, es⟩ := hq2
  have hM2 : HM s2 A := by rw [es]; exact hM1.s0
  have hH2 : HS s2 A := by rw [es]; exact hH1.eq (fun c hc => su_rc (by omega))
  have e5 : b2 = a1 := by rw [eb, ea]; exact hM1.1.2.2.1
  have h16 := hM1.1.2.2.2.1
  rw [e5, ea]
  have hK2 := hK
  refine v_icmp_eq hX ⟨by omega, by omega⟩ ⟨by omega, by omega⟩ (tgt := 2311) (atL dAL_law_25 11 rfl) (by decide) (fun _ => ?_) (fun h => absurd rfl h)
  exact v_fin hX (cn_next (mc := 0) (ms := 0) nx hG hZ (by decide) (by decide) ⟨hH2, hM2, hK2, h0, h13, h18, h19⟩)
