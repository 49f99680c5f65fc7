theorem cal_0 {w : Int} {a b c : Nat} (h : w = 0) : cal w a b c = .inr (a + b) := by unfold cal; rw [if_pos h]
theorem cal_1 {w : Int} {a b c : Nat} (h : w = 1) : cal w a b c = if a < b then .inl (-1) else .inr (a - b) := by unfold cal; rw [if_neg (by omega), if_pos h]
theorem cal_2 {w : Int} {a b c : Nat} (h : w = 2) : cal w a b c = .inr (a * b) := by unfold cal; rw [if_neg (by omega), if_neg (by omega), if_pos h]
theorem cal_3 {w : Int} {a b c : Nat} (h : w = 3) : cal w a b c = if b = 0 then .inl (-2) else .inr (a / b) := by unfold cal; rw [if_neg (by omega), if_neg (by omega), if_neg (by omega), if_pos h]
theorem cal_4 {w : Int} {a b c : Nat} (h : w = 4) : cal w a b c = if b = 0 then .inl (-2) else .inr (a % b) := by unfold cal; rw [if_neg (by omega), if_neg (by omega), if_neg (by omega), if_neg (by omega), if_pos h]
theorem cal_5 {w : Int} {a b c : Nat} (h : w = 5) : cal w a b c = .inr (Nat.gcd a b) := by unfold cal; rw [if_neg (by omega), if_neg (by omega), if_neg (by omega), if_neg (by omega), if_neg (by omega), if_pos h]
theorem cal_6 {w : Int} {a b c : Nat} (h : w = 6) : cal w a b c = .inr (Nat.lcm a b) := by unfold cal; rw [if_neg (by omega), if_neg (by omega), if_neg (by omega), if_neg (by omega), if_neg (by omega), if_neg (by omega), if_pos h]
theorem cal_7 {w : Int} {a b c : Nat} (h : w = 7) : cal w a b c = if b = 0 then .inl (-2) else if Nat.gcd a b = 1 then .inr (inv a b) else .inl (-3) := by unfold cal; rw [if_neg (by omega), if_neg (by omega), if_neg (by omega), if_neg (by omega), if_neg (by omega), if_neg (by omega), if_neg (by omega), if_pos h]
theorem cal_8 {w : Int} {a b c : Nat} (h : w = 8) : cal w a b c = if c = 0 then .inl (-2) else if 128 < nby c then .inl (-4) else .inr (a ^ b % c) := by unfold cal; rw [if_neg (by omega), if_neg (by omega), if_neg (by omega), if_neg (by omega), if_neg (by omega), if_neg (by omega), if_neg (by omega), if_neg (by omega)]
/-- a refusal, or the result lies in whole 3 -/
def CR (σ : St) (q : Int ⊕ Nat) (a : Int) : Prop := (a = 0 ∧ ∃ v, WN σ 3 v ∧ q = .inr v) ∨ ((-10 < a ∧ a < 0) ∧ (q = .inl a ∨ (a = -4 ∧ ∃ v, q = .inr v ∧ 256 < nby v)))

set_option maxHeartbeats 1000000 in
set_option maxRecDepth 100000 in
theorem c_X6_reckonPlain (l : Launch) (w : Wl) (σ : St) (hk0 : w.2 0 0) (hA : AR σ) (hD : AD σ) (va : Nat) (h0 : WN σ 0 va) (b0 : va < 2 ^ 2048) (vb : Nat) (h1 : WN σ 1 vb) (b1 : vb < 2 ^ 2048) (vc : Nat) (h2 : WN σ 2 vc) (b2 : vc < 2 ^ 2048) (wh : Int) (hwh : 0 ≤ wh ∧ wh < 5) : Cn l yX6_reckonPlain cX6_reckonPlain 2 (Option.some Jvm.ClassFile.FieldType.int) 3 87 wI [.ref (w.1 0 0), .int (iI (wh))] w σ (fun a σ' => CR σ' (cal wh va vb vc) a ∧ AR σ' ∧ AD σ' ∧ FH 99 σ σ') := by
  refine Cn.of (own := RX6) (lv := [(0, .ref (w.1 0 0)), (1, .int (iI (wh)))]) (by decide +kernel) rfl (Nat.le_of_ble_eq_true rfl) rfl (fun X hX hxl hR hcl hret => ?_)
  subst hxl
  have hH : ∀ c q, (c, q) ∈ mn σ 0 0 → w.2 c q := fun c q h => hcl 0 0 hk0 (c, q) h
  refine v_iload_n hX 1 rfl (atL dAX6_reckonPlain_0 0 rfl) ?_
  rcases (show wh = 0 ∨ wh = 1 ∨ wh = 2 ∨ (wh < 0 ∨ 2 < wh) by omega) with tq1 | tq1 | tq1 | tq1
  · refine v_tsIn hX (c := 0) tq1 ⟨by omega, by omega⟩ (atL dAX6_reckonPlain_0 1 rfl) (by decide) (by decide) rfl (tgt := 28) (by decide) ?_
    refine v_aload_n hX 0 rfl (atL dAX6_reckonPlain_0 2 rfl) ?_
    refine gf_X6_74 hX hk0 (atL dAX6_reckonPlain_0 3 rfl) ?_
    refine v_aload_n hX 0 rfl (atL dAX6_reckonPlain_0 4 rfl) ?_
    refine gf_X6_64 hX hk0 (atL dAX6_reckonPlain_0 5 rfl) ?_
    refine v_aload_n hX 0 rfl (atL dAX6_reckonPlain_0 6 rfl) ?_
    refine gf_X6_68 hX hk0 (atL dAX6_reckonPlain_0 7 rfl) ?_
    refine v_callV hX (As := [.ref (w.1 3 0), .ref (w.1 3 1)]) (rest := []) (c_X5_setSum (xl X) w σ 3 (hH 3 3 (by simp [mn, tp])) (hD 3) 0 va (hH 3 0 (by simp [mn, tp])) h0 1 vb (hH 3 1 (by simp [mn, tp])) h1 (lt79 b0) (lt79 b1)) lk_X6_290 (hH 3 3 (by simp [mn, tp])) (fun _ => rfl) rfl rfl rfl (by rw [hR]; exact ⟨Nat.le_of_ble_eq_true rfl, Nat.le_of_ble_eq_true rfl⟩) ⟨Nat.zero_le _, Nat.zero_le _⟩ rfl (Nat.le_of_ble_eq_true rfl) (atL dAX6_reckonPlain_0 8 rfl) (fun _ s1 e1 => ?_)
    obtain ⟨hw1, hf1⟩ := e1
    have hA1 := hA.fr hf1 (by simp)
    have hD1 := hD.one hf1 hw1
    have hw1_0 := nm.fr h0 hf1 (by simp <;> omega) (by simp <;> omega)
    have hw1_1 := nm.fr h1 hf1 (by simp <;> omega) (by simp <;> omega)
    have hw1_2 := nm.fr h2 hf1 (by simp <;> omega) (by simp <;> omega)
    have hF1 := (FH.rf : FH 99 σ σ).tr hf1 (by simp [Hk] <;> omega)
    show V X _ w _ _ s1 []
    refine v_iconst hX (atL dAX6_reckonPlain_0 9 rfl) ?_
    exact v_iret hX (atL dAX6_reckonPlain_0 10 rfl) (hret _ _ ⟨Or.inl ⟨rfl, _, hw1, cal_0 tq1⟩, hA1, hD1, hF1⟩)
  · refine v_tsIn hX (c := 1) tq1 ⟨by omega, by omega⟩ (atL dAX6_reckonPlain_0 1 rfl) (by decide) (by decide) rfl (tgt := 45) (by decide) ?_
    refine v_aload_n hX 0 rfl (atL dAX6_reckonPlain_0 11 rfl) ?_
    refine gf_X6_64 hX hk0 (atL dAX6_reckonPlain_0 12 rfl) ?_
    refine v_aload_n hX 0 rfl (atL dAX6_reckonPlain_0 13 rfl) ?_
    refine gf_X6_68 hX hk0 (atL dAX6_reckonPlain_0 14 rfl) ?_
    refine v_callV hX (As := [.ref (w.1 3 1)]) (rest := []) (c_X5_order (xl X) w σ 0 va (hH 3 0 (by simp [mn, tp])) h0 1 vb (hH 3 1 (by simp [mn, tp])) h1) lk_X6_145 (hH 3 0 (by simp [mn, tp])) (fun _ => rfl) rfl rfl rfl (by rw [hR]; exact ⟨Nat.le_of_ble_eq_true rfl, Nat.le_of_ble_eq_true rfl⟩) ⟨Nat.zero_le _, Nat.zero_le _⟩ rfl (Nat.le_of_ble_eq_true rfl) (atL dAX6_reckonPlain_0 15 rfl) (fun r2 z2 g2 => ?_)
    obtain ⟨ga2, gb2⟩ := g2
    rw [gb2]
    have gc2 : (r2 = -1 ∧ va < vb) ∨ (r2 = 0 ∧ va = vb) ∨ (r2 = 1 ∧ vb < va) := ord3 ga2
    show V X _ w _ _ σ [.int (iI (r2))]
    refine v_if_ge hX ⟨by omega, by omega⟩ (tgt := 61) (atL dAX6_reckonPlain_0 16 rfl) (by decide) (fun h56 => ?_) (fun h56 => ?_)
    · refine v_aload_n hX 0 rfl (atL dAX6_reckonPlain_0 19 rfl) ?_
      refine gf_X6_74 hX hk0 (atL dAX6_reckonPlain_0 20 rfl) ?_
      refine v_aload_n hX 0 rfl (atL dAX6_reckonPlain_0 21 rfl) ?_
      refine gf_X6_64 hX hk0 (atL dAX6_reckonPlain_0 22 rfl) ?_
      refine v_aload_n hX 0 rfl (atL dAX6_reckonPlain_0 23 rfl) ?_
      refine gf_X6_68 hX hk0 (atL dAX6_reckonPlain_0 24 rfl) ?_
      refine v_callV hX (As := [.ref (w.1 3 0), .ref (w.1 3 1)]) (rest := []) (c_X5_setDifference (xl X) w σ 3 (hH 3 3 (by simp [mn, tp])) (hD 3) 0 va (hH 3 0 (by simp [mn, tp])) h0 1 vb (hH 3 1 (by simp [mn, tp])) h1 (by omega)) lk_X6_294 (hH 3 3 (by simp [mn, tp])) (fun _ => rfl) rfl rfl rfl (by rw [hR]; exact ⟨Nat.le_of_ble_eq_true rfl, Nat.le_of_ble_eq_true rfl⟩) ⟨Nat.zero_le _, Nat.zero_le _⟩ rfl (Nat.le_of_ble_eq_true rfl) (atL dAX6_reckonPlain_0 25 rfl) (fun _ s3 e3 => ?_)
      obtain ⟨hw3, hf3⟩ := e3
      have hA3 := hA.fr hf3 (by simp)
      have hD3 := hD.one hf3 hw3
      have hw3_0 := nm.fr h0 hf3 (by simp <;> omega) (by simp <;> omega)
      have hw3_1 := nm.fr h1 hf3 (by simp <;> omega) (by simp <;> omega)
      have hw3_2 := nm.fr h2 hf3 (by simp <;> omega) (by simp <;> omega)
      have hF3 := (FH.rf : FH 99 σ σ).tr hf3 (by simp [Hk] <;> omega)
      show V X _ w _ _ s3 []
      refine v_iconst hX (atL dAX6_reckonPlain_0 26 rfl) ?_
      exact v_iret hX (atL dAX6_reckonPlain_0 27 rfl) (hret _ _ ⟨Or.inl ⟨rfl, _, hw3, by rw [cal_1 tq1, if_neg (by omega)]⟩, hA3, hD3, hF3⟩)
    · refine v_iconst hX (atL dAX6_reckonPlain_0 17 rfl) ?_
      exact v_iret hX (atL dAX6_reckonPlain_0 18 rfl) (hret _ _ ⟨Or.inr ⟨by omega, Or.inl (by rw [cal_1 tq1, if_pos (by omega)])⟩, hA, hD, (FH.rf : FH 99 σ σ)⟩)
  · refine v_tsIn hX (c := 2) tq1 ⟨by omega, by omega⟩ (atL dAX6_reckonPlain_0 1 rfl) (by decide) (by decide) rfl (tgt := 78) (by decide) ?_
    refine v_aload_n hX 0 rfl (atL dAX6_reckonPlain_0 28 rfl) ?_
    refine gf_X6_35 hX hk0 (atL dAX6_reckonPlain_0 29 rfl) ?_
    refine v_aload_n hX 0 rfl (atL dAX6_reckonPlain_0 30 rfl) ?_
    refine gf_X6_64 hX hk0 (atL dAX6_reckonPlain_0 31 rfl) ?_
    refine v_aload_n hX 0 rfl (atL dAX6_reckonPlain_0 32 rfl) ?_
    refine gf_X6_68 hX hk0 (atL dAX6_reckonPlain_0 33 rfl) ?_
    refine v_aload_n hX 0 rfl (atL dAX6_reckonPlain_0 34 rfl) ?_
    refine gf_X6_74 hX hk0 (atL dAX6_reckonPlain_0 35 rfl) ?_
    refine v_callV hX (As := [.ref (w.1 3 0), .ref (w.1 3 1), .ref (w.1 3 3)]) (rest := []) (c_X0_multiply (xl X) w σ (hH 7 0 (by simp [mn, tp])) 0 va (hH 3 0 (by simp [mn, tp])) h0 1 vb (hH 3 1 (by simp [mn, tp])) h1 3 (hH 3 3 (by simp [mn, tp])) (hD 3) (by omega) (by omega)) lk_X6_297 (hH 7 0 (by simp [mn, tp])) (fun _ => rfl) rfl rfl rfl (by rw [hR]; exact ⟨Nat.le_of_ble_eq_true rfl, Nat.le_of_ble_eq_true rfl⟩) ⟨Nat.zero_le _, Nat.zero_le _⟩ rfl (Nat.le_of_ble_eq_true rfl) (atL dAX6_reckonPlain_0 36 rfl) (fun r4 s4 gc4 => ?_)
    have gm4 : Fr [(2, 3), (3, 3)] σ s4 ∧ WDg s4 3 := by
      rcases gc4 with q | q
      · rw [q.2.2]; exact ⟨Fr.rf, hD 3⟩
      · exact ⟨q.2.2.2, WN.dg q.2.2.1⟩
    obtain ⟨hf4, hdg4⟩ := gm4
    have gd4 : r4 = 0 ∨ r4 = 1 := by rcases gc4 with q | q <;> omega
    have hDp4 : AD s4 := hD.of hf4 (fun q hq => by simp at hq; subst hq; exact hdg4)
    have hA4 := hA.fr hf4 (by simp)
    have hD4 := hDp4
    have hw4_0 := nm.fr h0 hf4 (by simp <;> omega) (by simp <;> omega)
    have hw4_1 := nm.fr h1 hf4 (by simp <;> omega) (by simp <;> omega)
    have hw4_2 := nm.fr h2 hf4 (by simp <;> omega) (by simp <;> omega)
    have hF4 := (FH.rf : FH 99 σ σ).tr hf4 (by simp [Hk] <;> omega)
    show V X _ w _ _ s4 [.int (iI (r4))]
    refine v_if_eq hX ⟨by omega, by omega⟩ (tgt := 104) (atL dAX6_reckonPlain_0 37 rfl) (by decide) (fun h97 => ?_) (fun h97 => ?_)
    · refine v_bipush hX (by decide +kernel) (atL dAX6_reckonPlain_0 40 rfl) ?_
      exact v_iret hX (atL dAX6_reckonPlain_0 41 rfl) (hret _ _ ⟨Or.inr ⟨by omega, Or.inr ⟨rfl, _, cal_2 tq1, nby_ge (mul_big (gc4.resolve_right (fun q => by omega)).2.1 b0 b1)⟩⟩, hA4, hD4, hF4⟩)
    · have hwm := (gc4.resolve_left (fun q => by omega)).2.2.1
      refine v_iconst hX (atL dAX6_reckonPlain_0 38 rfl) ?_
      refine v_goto hX (tgt := 106) (atL dAX6_reckonPlain_0 39 rfl) (by decide) ?_
      exact v_iret hX (atL dAX6_reckonPlain_0 41 rfl) (hret _ _ ⟨Or.inl ⟨rfl, _, hwm, cal_2 tq1⟩, hA4, hD4, hF4⟩)
  · refine v_tsOut hX ⟨by omega, by omega⟩ tq1 (atL dAX6_reckonPlain_0 1 rfl) (tgt := 107) (by decide) ?_
    refine v_aload_n hX 0 rfl (atL dAX6_reckonPlain_0 42 rfl) ?_
    refine gf_X6_68 hX hk0 (atL dAX6_reckonPlain_0 43 rfl) ?_
    refine v_callV hX (As := []) (rest := []) (c_X5_isZero (xl X) w σ 1 vb (hH 3 1 (by simp [mn, tp])) h1) lk_X6_301 (hH 3 1 (by simp [mn, tp])) (fun _ => rfl) rfl rfl rfl (by rw [hR]; exact ⟨Nat.le_of_ble_eq_true rfl, Nat.le_of_ble_eq_true rfl⟩) ⟨Nat.zero_le _, Nat.zero_le _⟩ rfl (Nat.le_of_ble_eq_true rfl) (atL dAX6_reckonPlain_0 44 rfl) (fun r5 z5 g5 => ?_)
    obtain ⟨ga5, gb5⟩ := g5
    rw [gb5]
    have gc5 : tf r5 (vb = 0) := by rw [ga5]; split; exact tf_p (by assumption); exact tf_n (by assumption)
    have gd5 : r5 = 0 ∨ r5 = 1 := by rw [ga5]; split <;> simp
    show V X _ w _ _ σ [.int (iI (r5))]
    refine v_if_eq hX ⟨by omega, by omega⟩ (tgt := 120) (atL dAX6_reckonPlain_0 45 rfl) (by decide) (fun h114 => ?_) (fun h114 => ?_)
    · have hvb0 : vb ≠ 0 := gc5.f h114
      refine v_aload_n hX 0 rfl (atL dAX6_reckonPlain_0 48 rfl) ?_
      refine gf_X6_35 hX hk0 (atL dAX6_reckonPlain_0 49 rfl) ?_
      refine v_aload_n hX 0 rfl (atL dAX6_reckonPlain_0 50 rfl) ?_
      refine gf_X6_64 hX hk0 (atL dAX6_reckonPlain_0 51 rfl) ?_
      refine v_aload_n hX 0 rfl (atL dAX6_reckonPlain_0 52 rfl) ?_
      refine gf_X6_68 hX hk0 (atL dAX6_reckonPlain_0 53 rfl) ?_
      refine v_aload_n hX 0 rfl (atL dAX6_reckonPlain_0 54 rfl) ?_
      refine gf_X6_74 hX hk0 (atL dAX6_reckonPlain_0 55 rfl) ?_
      refine v_callV hX (As := [.ref (w.1 3 0), .ref (w.1 3 1), .ref (w.1 3 3)]) (rest := []) (c_X0_divide (xl X) w σ (hH 7 0 (by simp [mn, tp])) 0 va (hH 3 0 (by simp [mn, tp])) h0 (p2048 b0) (by omega) 1 vb (hH 3 1 (by simp [mn, tp])) h1 hvb0 (p2048 b1) 3 (hH 3 3 (by simp [mn, tp])) (hD 3) (by omega) (by omega) (by omega) (hD 8) (hD 9) (hD 7)) lk_X6_304 (hH 7 0 (by simp [mn, tp])) (fun _ => rfl) rfl rfl rfl (by rw [hR]; exact ⟨Nat.le_of_ble_eq_true rfl, Nat.le_of_ble_eq_true rfl⟩) ⟨Nat.zero_le _, Nat.zero_le _⟩ rfl (Nat.le_of_ble_eq_true rfl) (atL dAX6_reckonPlain_0 56 rfl) (fun _ s6 e6 => ?_)
      have hDp6 := hD.div e6
      obtain ⟨hw6, hwq6, -, -, hf6⟩ := e6
      have hb6 : va % vb < 2 ^ 2048 := Nat.lt_of_le_of_lt (Nat.mod_le _ _) b0
      have hbq6 : va / vb < 2 ^ 2048 := Nat.lt_of_le_of_lt (Nat.div_le_self _ _) b0
      have hA6 := hA.fr hf6 (by simp)
      have hD6 := hDp6
      have hw6_0 := nm.fr h0 hf6 (by simp <;> omega) (by simp <;> omega)
      have hw6_1 := nm.fr h1 hf6 (by simp <;> omega) (by simp <;> omega)
      have hw6_2 := nm.fr h2 hf6 (by simp <;> omega) (by simp <;> omega)
      have hF6 := (FH.rf : FH 99 σ σ).tr hf6 (by simp [Hk] <;> omega)
      show V X _ w _ _ s6 []
      refine v_iload_n hX 1 rfl (atL dAX6_reckonPlain_0 57 rfl) ?_
      refine v_iconst hX (atL dAX6_reckonPlain_0 58 rfl) ?_
      refine v_icmp_ne hX ⟨by omega, by omega⟩ ⟨by omega, by omega⟩ (tgt := 158) (atL dAX6_reckonPlain_0 59 rfl) (by decide) (fun h141 => ?_) (fun h141 => ?_)
      · refine v_iconst hX (atL dAX6_reckonPlain_1 6 rfl) ?_
        exact v_iret hX (atL dAX6_reckonPlain_1 7 rfl) (hret _ _ ⟨Or.inl ⟨rfl, _, hw6, by rw [cal_4 (by omega), if_neg (gc5.f h114)]⟩, hA6, hD6, hF6⟩)
      · refine v_aload_n hX 0 rfl (atL dAX6_reckonPlain_1 0 rfl) ?_
        refine gf_X6_74 hX hk0 (atL dAX6_reckonPlain_1 1 rfl) ?_
        refine v_aload_n hX 0 rfl (atL dAX6_reckonPlain_1 2 rfl) ?_
        refine gf_X6_35 hX hk0 (atL dAX6_reckonPlain_1 3 rfl) ?_
        refine gf_X6_308 hX (hH 7 0 (by simp [mn, tp])) (atL dAX6_reckonPlain_1 4 rfl) ?_
        refine v_callV hX (As := [.ref (w.1 3 7)]) (rest := []) (c_X5_set (xl X) w s6 3 (hH 3 3 (by simp [mn, tp])) (hD6 3) 7 (va / vb) (hcl 7 0 (hH 7 0 (by simp [mn, tp])) (3, 7) (by simp [mn, tp])) hwq6 (by omega)) lk_X6_311 (hH 3 3 (by simp [mn, tp])) (fun _ => rfl) rfl rfl rfl (by rw [hR]; exact ⟨Nat.le_of_ble_eq_true rfl, Nat.le_of_ble_eq_true rfl⟩) ⟨Nat.zero_le _, Nat.zero_le _⟩ rfl (Nat.le_of_ble_eq_true rfl) (atL dAX6_reckonPlain_1 5 rfl) (fun _ s7 e7 => ?_)
        obtain ⟨hw7, hf7⟩ := e7
        have hA7 := hA6.fr hf7 (by simp)
        have hD7 := hD6.one hf7 hw7
        have hw7_0 := nm.fr hw6_0 hf7 (by simp <;> omega) (by simp <;> omega)
        have hw7_1 := nm.fr hw6_1 hf7 (by simp <;> omega) (by simp <;> omega)
        have hw7_2 := nm.fr hw6_2 hf7 (by simp <;> omega) (by simp <;> omega)
        have hw7_7 := nm.fr hwq6 hf7 (by simp <;> omega) (by simp <;> omega)
        have hF7 := hF6.tr hf7 (by simp [Hk] <;> omega)
        show V X _ w _ _ s7 []
        refine v_iconst hX (atL dAX6_reckonPlain_1 6 rfl) ?_
        exact v_iret hX (atL dAX6_reckonPlain_1 7 rfl) (hret _ _ ⟨Or.inl ⟨rfl, _, hw7, by rw [cal_3 (by omega), if_neg (gc5.f h114)]⟩, hA7, hD7, hF7⟩)
    · refine v_bipush hX (by decide +kernel) (atL dAX6_reckonPlain_0 46 rfl) ?_
      exact v_iret hX (atL dAX6_reckonPlain_0 47 rfl) (hret _ _ ⟨Or.inr ⟨by omega, Or.inl (by rcases (show wh = 3 ∨ wh = 4 by omega) with e | e <;> first | rw [cal_3 e, if_pos (gc5.t h114)] | rw [cal_4 e, if_pos (gc5.t h114)])⟩, hA, hD, (FH.rf : FH 99 σ σ)⟩)

set_option maxHeartbeats 1000000 in
set_option maxRecDepth 100000 in
theorem c_X6_reckonDeep (l : Launch) (w : Wl) (σ : St) (hk0 : w.2 0 0) (hA : AR σ) (hD : AD σ) (va : Nat) (h0 : WN σ 0 va) (b0 : va < 2 ^ 2048) (vb : Nat) (h1 : WN σ 1 vb) (b1 : vb < 2 ^ 2048) (vc : Nat) (h2 : WN σ 2 vc) (b2 : vc < 2 ^ 2048) (wh : Int) (hwh : 5 ≤ wh ∧ wh < 9) : Cn l yX6_reckonDeep cX6_reckonDeep 2 (Option.some Jvm.ClassFile.FieldType.int) 5 134 wI [.ref (w.1 0 0), .int (iI (wh))] w σ (fun a σ' => CR σ' (cal wh va vb vc) a ∧ AR σ' ∧ AD σ' ∧ FH 99 σ σ') := by
  refine Cn.of (own := RX6) (lv := [(0, .ref (w.1 0 0)), (1, .int (iI (wh)))]) (by decide +kernel) rfl (Nat.le_of_ble_eq_true rfl) rfl (fun X hX hxl hR hcl hret => ?_)
  subst hxl
  have hH : ∀ c q, (c, q) ∈ mn σ 0 0 → w.2 c q := fun c q h => hcl 0 0 hk0 (c, q) h
  refine v_iload_n hX 1 rfl (atL dAX6_reckonDeep_0 0 rfl) ?_
  rcases (show wh = 5 ∨ wh = 6 ∨ wh = 7 ∨ (wh < 5 ∨ 7 < wh) by omega) with tq1 | tq1 | tq1 | tq1
  · refine v_tsIn hX (c := 5) tq1 ⟨by omega, by omega⟩ (atL dAX6_reckonDeep_0 1 rfl) (by decide) (by decide) rfl (tgt := 28) (by decide) ?_
    refine v_aload_n hX 0 rfl (atL dAX6_reckonDeep_0 2 rfl) ?_
    refine gf_X6_35 hX hk0 (atL dAX6_reckonDeep_0 3 rfl) ?_
    refine v_aload_n hX 0 rfl (atL dAX6_reckonDeep_0 4 rfl) ?_
    refine gf_X6_64 hX hk0 (atL dAX6_reckonDeep_0 5 rfl) ?_
    refine v_aload_n hX 0 rfl (atL dAX6_reckonDeep_0 6 rfl) ?_
    refine gf_X6_68 hX hk0 (atL dAX6_reckonDeep_0 7 rfl) ?_
    refine v_aload_n hX 0 rfl (atL dAX6_reckonDeep_0 8 rfl) ?_
    refine gf_X6_74 hX hk0 (atL dAX6_reckonDeep_0 9 rfl) ?_
    refine v_callV hX (As := [.ref (w.1 3 0), .ref (w.1 3 1), .ref (w.1 3 3)]) (rest := []) (c_X0_findDivisor (xl X) w σ (hH 7 0 (by simp [mn, tp])) 0 va (hH 3 0 (by simp [mn, tp])) h0 b0 (by omega) 1 vb (hH 3 1 (by simp [mn, tp])) h1 b1 (by omega) (by omega) 3 (hH 3 3 (by simp [mn, tp])) (hD 3) (by omega) (by omega) (by omega) (by omega) (by omega) (hD 7) (hD 8) (hD 9) (hD 13) (hD 14) (hD 15)) lk_X6_315 (hH 7 0 (by simp [mn, tp])) (fun _ => rfl) rfl rfl rfl (by rw [hR]; exact ⟨Nat.le_of_ble_eq_true rfl, Nat.le_of_ble_eq_true rfl⟩) ⟨Nat.zero_le _, Nat.zero_le _⟩ rfl (Nat.le_of_ble_eq_true rfl) (atL dAX6_reckonDeep_0 10 rfl) (fun _ s1 e1 => ?_)
    obtain ⟨hw1, q7, q8, q9, q13, q14, q15, hf1⟩ := e1
    have hDp1 : AD s1 := hD.of hf1 (fun q hq => by simp at hq; rcases hq with e | e | e | e | e | e | e <;> subst e <;> first | assumption | exact WN.dg hw1)
    have hb1 : Nat.gcd va vb < 2 ^ 2048 := gcd_b b0 b1
    have hA1 := hA.fr hf1 (by simp)
    have hD1 := hDp1
    have hw1_0 := nm.fr h0 hf1 (by simp <;> omega) (by simp <;> omega)
    have hw1_1 := nm.fr h1 hf1 (by simp <;> omega) (by simp <;> omega)
    have hw1_2 := nm.fr h2 hf1 (by simp <;> omega) (by simp <;> omega)
    have hF1 := (FH.rf : FH 99 σ σ).tr hf1 (by simp [Hk] <;> omega)
    show V X _ w _ _ s1 []
    refine v_iconst hX (atL dAX6_reckonDeep_0 11 rfl) ?_
    exact v_iret hX (atL dAX6_reckonDeep_0 12 rfl) (hret _ _ ⟨Or.inl ⟨rfl, _, hw1, cal_5 tq1⟩, hA1, hD1, hF1⟩)
  · refine v_tsIn hX (c := 6) tq1 ⟨by omega, by omega⟩ (atL dAX6_reckonDeep_0 1 rfl) (by decide) (by decide) rfl (tgt := 49) (by decide) ?_
    refine v_aload_n hX 0 rfl (atL dAX6_reckonDeep_0 13 rfl) ?_
    refine gf_X6_35 hX hk0 (atL dAX6_reckonDeep_0 14 rfl) ?_
    refine v_aload_n hX 0 rfl (atL dAX6_reckonDeep_0 15 rfl) ?_
    refine gf_X6_64 hX hk0 (atL dAX6_reckonDeep_0 16 rfl) ?_
    refine v_aload_n hX 0 rfl (atL dAX6_reckonDeep_0 17 rfl) ?_
    refine gf_X6_68 hX hk0 (atL dAX6_reckonDeep_0 18 rfl) ?_
    refine v_aload_n hX 0 rfl (atL dAX6_reckonDeep_0 19 rfl) ?_
    refine gf_X6_74 hX hk0 (atL dAX6_reckonDeep_0 20 rfl) ?_
    refine v_callV hX (As := [.ref (w.1 3 0), .ref (w.1 3 1), .ref (w.1 3 3)]) (rest := []) (c_X0_findMultiple (xl X) w σ (hH 7 0 (by simp [mn, tp])) 0 va (hH 3 0 (by simp [mn, tp])) h0 b0 (by omega) (by omega) (by omega) (by omega) (by omega) (by omega) 1 vb (hH 3 1 (by simp [mn, tp])) h1 b1 (by omega) (by omega) (by omega) (by omega) (by omega) (by omega) 3 (hH 3 3 (by simp [mn, tp])) (hD 3) (by omega) (by omega) (by omega) (by omega) (by omega) (by omega) (by omega) (hD 7) (hD 8) (hD 9) (hD 13) (hD 14) (hD 15)) lk_X6_318 (hH 7 0 (by simp [mn, tp])) (fun _ => rfl) rfl rfl rfl (by rw [hR]; exact ⟨Nat.le_of_ble_eq_true rfl, Nat.le_of_ble_eq_true rfl⟩) ⟨Nat.zero_le _, Nat.zero_le _⟩ rfl (Nat.le_of_ble_eq_true rfl) (atL dAX6_reckonDeep_0 21 rfl) (fun r2 s2 e2 => ?_)
    obtain ⟨gc2, q7, q8, q9, q13, q14, q15, hf2⟩ := e2
    have gd2 : r2 = 0 ∨ r2 = 1 := by rcases gc2 with q | q <;> omega
    have hdg2 : WDg s2 3 := by rcases gc2 with q | q; exact WN.dg q.2; exact q.2.2
    have hDp2 : AD s2 := hD.of hf2 (fun q hq => by simp at hq; rcases hq with e | e | e | e | e | e | e <;> subst e <;> assumption)
    have hA2 := hA.fr hf2 (by simp)
    have hD2 := hDp2
    have hw2_0 := nm.fr h0 hf2 (by simp <;> omega) (by simp <;> omega)
    have hw2_1 := nm.fr h1 hf2 (by simp <;> omega) (by simp <;> omega)
    have hw2_2 := nm.fr h2 hf2 (by simp <;> omega) (by simp <;> omega)
    have hF2 := (FH.rf : FH 99 σ σ).tr hf2 (by simp [Hk] <;> omega)
    show V X _ w _ _ s2 [.int (iI (r2))]
    refine v_if_eq hX ⟨by omega, by omega⟩ (tgt := 75) (atL dAX6_reckonDeep_0 22 rfl) (by decide) (fun h68 => ?_) (fun h68 => ?_)
    · refine v_bipush hX (by decide +kernel) (atL dAX6_reckonDeep_0 25 rfl) ?_
      exact v_iret hX (atL dAX6_reckonDeep_0 26 rfl) (hret _ _ ⟨Or.inr ⟨by omega, Or.inr ⟨rfl, _, cal_6 tq1, nby_ge (gc2.resolve_left (fun q => by omega)).2.1⟩⟩, hA2, hD2, hF2⟩)
    · have hwm := (gc2.resolve_right (fun q => by omega)).2
      refine v_iconst hX (atL dAX6_reckonDeep_0 23 rfl) ?_
      refine v_goto hX (tgt := 77) (atL dAX6_reckonDeep_0 24 rfl) (by decide) ?_
      exact v_iret hX (atL dAX6_reckonDeep_0 26 rfl) (hret _ _ ⟨Or.inl ⟨rfl, _, hwm, cal_6 tq1⟩, hA2, hD2, hF2⟩)
  · refine v_tsIn hX (c := 7) tq1 ⟨by omega, by omega⟩ (atL dAX6_reckonDeep_0 1 rfl) (by decide) (by decide) rfl (tgt := 78) (by decide) ?_
    refine v_aload_n hX 0 rfl (atL dAX6_reckonDeep_0 27 rfl) ?_
    refine gf_X6_68 hX hk0 (atL dAX6_reckonDeep_0 28 rfl) ?_
    refine v_callV hX (As := []) (rest := []) (c_X5_isZero (xl X) w σ 1 vb (hH 3 1 (by simp [mn, tp])) h1) lk_X6_301 (hH 3 1 (by simp [mn, tp])) (fun _ => rfl) rfl rfl rfl (by rw [hR]; exact ⟨Nat.le_of_ble_eq_true rfl, Nat.le_of_ble_eq_true rfl⟩) ⟨Nat.zero_le _, Nat.zero_le _⟩ rfl (Nat.le_of_ble_eq_true rfl) (atL dAX6_reckonDeep_0 29 rfl) (fun r3 z3 g3 => ?_)
    obtain ⟨ga3, gb3⟩ := g3
    rw [gb3]
    have gc3 : tf r3 (vb = 0) := by rw [ga3]; split; exact tf_p (by assumption); exact tf_n (by assumption)
    have gd3 : r3 = 0 ∨ r3 = 1 := by rw [ga3]; split <;> simp
    show V X _ w _ _ σ [.int (iI (r3))]
    refine v_if_eq hX ⟨by omega, by omega⟩ (tgt := 91) (atL dAX6_reckonDeep_0 30 rfl) (by decide) (fun h85 => ?_) (fun h85 => ?_)
    · have hvb0 : vb ≠ 0 := gc3.f h85
      refine v_aload_n hX 0 rfl (atL dAX6_reckonDeep_0 33 rfl) ?_
      refine gf_X6_35 hX hk0 (atL dAX6_reckonDeep_0 34 rfl) ?_
      refine v_aload_n hX 0 rfl (atL dAX6_reckonDeep_0 35 rfl) ?_
      refine gf_X6_64 hX hk0 (atL dAX6_reckonDeep_0 36 rfl) ?_
      refine v_aload_n hX 0 rfl (atL dAX6_reckonDeep_0 37 rfl) ?_
      refine gf_X6_68 hX hk0 (atL dAX6_reckonDeep_0 38 rfl) ?_
      refine v_aload_n hX 0 rfl (atL dAX6_reckonDeep_0 39 rfl) ?_
      refine gf_X6_74 hX hk0 (atL dAX6_reckonDeep_0 40 rfl) ?_
      refine v_callV hX (As := [.ref (w.1 3 0), .ref (w.1 3 1), .ref (w.1 3 3)]) (rest := []) (c_X0_invert (xl X) w σ (hH 7 0 (by simp [mn, tp])) 0 va (hH 3 0 (by simp [mn, tp])) h0 b0 (by omega) 1 vb (hH 3 1 (by simp [mn, tp])) h1 b1 hvb0 (by omega) 3 (hH 3 3 (by simp [mn, tp])) (by omega) hD) lk_X6_321 (hH 7 0 (by simp [mn, tp])) (fun _ => rfl) rfl rfl rfl (by rw [hR]; exact ⟨Nat.le_of_ble_eq_true rfl, Nat.le_of_ble_eq_true rfl⟩) ⟨Nat.zero_le _, Nat.zero_le _⟩ rfl (Nat.le_of_ble_eq_true rfl) (atL dAX6_reckonDeep_0 41 rfl) (fun r4 s4 e4 => ?_)
      obtain ⟨gc4, hDp4, hf4⟩ := e4
      have gd4 : r4 = 0 ∨ r4 = 1 := by rcases gc4 with q | q <;> omega
      have hA4 := hA.fr hf4 (by simp)
      have hD4 := hDp4
      have hw4_0 := nm.fr h0 hf4 (by simp <;> omega) (by simp <;> omega)
      have hw4_1 := nm.fr h1 hf4 (by simp <;> omega) (by simp <;> omega)
      have hw4_2 := nm.fr h2 hf4 (by simp <;> omega) (by simp <;> omega)
      have hF4 := (FH.rf : FH 99 σ σ).tr hf4 (by simp [Hk] <;> omega)
      show V X _ w _ _ s4 [.int (iI (r4))]
      refine v_if_eq hX ⟨by omega, by omega⟩ (tgt := 117) (atL dAX6_reckonDeep_0 42 rfl) (by decide) (fun h110 => ?_) (fun h110 => ?_)
      · refine v_bipush hX (by decide +kernel) (atL dAX6_reckonDeep_0 45 rfl) ?_
        exact v_iret hX (atL dAX6_reckonDeep_0 46 rfl) (hret _ _ ⟨Or.inr ⟨by omega, Or.inl (by rw [cal_7 tq1, if_neg hvb0, if_neg (gc4.resolve_left (fun q => by omega)).2])⟩, hA4, hD4, hF4⟩)
      · obtain ⟨hg1, iv, hwm, hi1, hi2⟩ := (gc4.resolve_right (fun q => by omega)).2
        refine v_iconst hX (atL dAX6_reckonDeep_0 43 rfl) ?_
        refine v_goto hX (tgt := 119) (atL dAX6_reckonDeep_0 44 rfl) (by decide) ?_
        exact v_iret hX (atL dAX6_reckonDeep_0 46 rfl) (hret _ _ ⟨Or.inl ⟨rfl, _, hwm, by rw [cal_7 tq1, if_neg hvb0, if_pos hg1, inv_eq hg1 hi1 hi2]⟩, hA4, hD4, hF4⟩)
    · refine v_bipush hX (by decide +kernel) (atL dAX6_reckonDeep_0 31 rfl) ?_
      exact v_iret hX (atL dAX6_reckonDeep_0 32 rfl) (hret _ _ ⟨Or.inr ⟨by omega, Or.inl (by rw [cal_7 tq1, if_pos (gc3.t h85)])⟩, hA, hD, (FH.rf : FH 99 σ σ)⟩)
  · refine v_tsOut hX ⟨by omega, by omega⟩ tq1 (atL dAX6_reckonDeep_0 1 rfl) (tgt := 120) (by decide) ?_
    refine v_aload_n hX 0 rfl (atL dAX6_reckonDeep_0 47 rfl) ?_
    refine gf_X6_71 hX hk0 (atL dAX6_reckonDeep_0 48 rfl) ?_
    refine v_callV hX (As := []) (rest := []) (c_X5_isZero (xl X) w σ 2 vc (hH 3 2 (by simp [mn, tp])) h2) lk_X6_301 (hH 3 2 (by simp [mn, tp])) (fun _ => rfl) rfl rfl rfl (by rw [hR]; exact ⟨Nat.le_of_ble_eq_true rfl, Nat.le_of_ble_eq_true rfl⟩) ⟨Nat.zero_le _, Nat.zero_le _⟩ rfl (Nat.le_of_ble_eq_true rfl) (atL dAX6_reckonDeep_0 49 rfl) (fun r5 z5 g5 => ?_)
    obtain ⟨ga5, gb5⟩ := g5
    rw [gb5]
    have gc5 : tf r5 (vc = 0) := by rw [ga5]; split; exact tf_p (by assumption); exact tf_n (by assumption)
    have gd5 : r5 = 0 ∨ r5 = 1 := by rw [ga5]; split <;> simp
    show V X _ w _ _ σ [.int (iI (r5))]
    refine v_if_eq hX ⟨by omega, by omega⟩ (tgt := 133) (atL dAX6_reckonDeep_0 50 rfl) (by decide) (fun h127 => ?_) (fun h127 => ?_)
    · have hvc0 : vc ≠ 0 := gc5.f h127
      refine v_aload_n hX 0 rfl (atL dAX6_reckonDeep_0 53 rfl) ?_
      refine gf_X6_71 hX hk0 (atL dAX6_reckonDeep_0 54 rfl) ?_
      refine v_callV hX (As := []) (rest := []) (c_X5_byteLength (xl X) w σ 2 vc (hH 3 2 (by simp [mn, tp])) h2) lk_X6_157 (hH 3 2 (by simp [mn, tp])) (fun _ => rfl) rfl rfl rfl (by rw [hR]; exact ⟨Nat.le_of_ble_eq_true rfl, Nat.le_of_ble_eq_true rfl⟩) ⟨Nat.zero_le _, Nat.zero_le _⟩ rfl (Nat.le_of_ble_eq_true rfl) (atL dAX6_reckonDeep_0 55 rfl) (fun r6 z6 g6 => ?_)
      obtain ⟨ga6, gb6⟩ := g6
      rw [gb6]
      subst ga6
      have hbl6 : blen vc ≤ 2240 := blen_le (WN.le h2)
      show V X _ w _ _ σ [.int (iI ((((blen vc + 7) / 8 : Nat) : Int)))]
      refine v_sipush hX (by decide +kernel) (atL dAX6_reckonDeep_0 56 rfl) ?_
      refine v_icmp_le hX ⟨by omega, by omega⟩ ⟨by omega, by omega⟩ (tgt := 149) (atL dAX6_reckonDeep_0 57 rfl) (by decide) (fun h143 => ?_) (fun h143 => ?_)
      · have hvc1 : vc < 2 ^ 1024 := fitN_lt (by unfold nby; omega)
        refine v_aload_n hX 0 rfl (atL dAX6_reckonDeep_1 0 rfl) ?_
        refine gf_X6_35 hX hk0 (atL dAX6_reckonDeep_1 1 rfl) ?_
        refine v_aload_n hX 0 rfl (atL dAX6_reckonDeep_1 2 rfl) ?_
        refine gf_X6_64 hX hk0 (atL dAX6_reckonDeep_1 3 rfl) ?_
        refine v_aload_n hX 0 rfl (atL dAX6_reckonDeep_1 4 rfl) ?_
        refine gf_X6_68 hX hk0 (atL dAX6_reckonDeep_1 5 rfl) ?_
        refine v_aload_n hX 0 rfl (atL dAX6_reckonDeep_1 6 rfl) ?_
        refine gf_X6_71 hX hk0 (atL dAX6_reckonDeep_1 7 rfl) ?_
        refine v_aload_n hX 0 rfl (atL dAX6_reckonDeep_1 8 rfl) ?_
        refine gf_X6_74 hX hk0 (atL dAX6_reckonDeep_1 9 rfl) ?_
        refine v_callV hX (As := [.ref (w.1 3 0), .ref (w.1 3 1), .ref (w.1 3 2), .ref (w.1 3 3)]) (rest := []) (c_X0_power (xl X) w σ (hH 7 0 (by simp [mn, tp])) 0 va (hH 3 0 (by simp [mn, tp])) h0 b0 (by omega) (by omega) 1 vb (hH 3 1 (by simp [mn, tp])) h1 (by omega) (by omega) (by omega) (by omega) (by omega) 2 vc (hH 3 2 (by simp [mn, tp])) h2 hvc0 hvc1 3 (hH 3 3 (by simp [mn, tp])) (hD 3) (by omega) (by omega) (by omega) (by omega) (by omega) (hD 7) (hD 8) (hD 10) (hD 11) (hD 12)) lk_X6_324 (hH 7 0 (by simp [mn, tp])) (fun _ => rfl) rfl rfl rfl (by rw [hR]; exact ⟨Nat.le_of_ble_eq_true rfl, Nat.le_of_ble_eq_true rfl⟩) ⟨Nat.zero_le _, Nat.zero_le _⟩ rfl (Nat.le_of_ble_eq_true rfl) (atL dAX6_reckonDeep_1 10 rfl) (fun _ s7 e7 => ?_)
        obtain ⟨hw7, q7, q8, q10, q11, q12, hf7⟩ := e7
        have hDp7 : AD s7 := hD.of hf7 (fun q hq => by simp at hq; rcases hq with e | e | e | e | e | e <;> subst e <;> first | assumption | exact WN.dg hw7)
        have hA7 := hA.fr hf7 (by simp)
        have hD7 := hDp7
        have hw7_0 := nm.fr h0 hf7 (by simp <;> omega) (by simp <;> omega)
        have hw7_1 := nm.fr h1 hf7 (by simp <;> omega) (by simp <;> omega)
        have hw7_2 := nm.fr h2 hf7 (by simp <;> omega) (by simp <;> omega)
        have hF7 := (FH.rf : FH 99 σ σ).tr hf7 (by simp [Hk] <;> omega)
        show V X _ w _ _ s7 []
        refine v_iconst hX (atL dAX6_reckonDeep_1 11 rfl) ?_
        exact v_iret hX (atL dAX6_reckonDeep_1 12 rfl) (hret _ _ ⟨Or.inl ⟨rfl, _, hw7, by rw [cal_8 (by omega), if_neg hvc0, if_neg (by unfold nby; omega)]⟩, hA7, hD7, hF7⟩)
      · refine v_bipush hX (by decide +kernel) (atL dAX6_reckonDeep_0 58 rfl) ?_
        exact v_iret hX (atL dAX6_reckonDeep_0 59 rfl) (hret _ _ ⟨Or.inr ⟨by omega, Or.inl (by rw [cal_8 (by omega), if_neg hvc0, if_pos (by unfold nby; omega)])⟩, hA, hD, (FH.rf : FH 99 σ σ)⟩)
    · refine v_bipush hX (by decide +kernel) (atL dAX6_reckonDeep_0 51 rfl) ?_
      exact v_iret hX (atL dAX6_reckonDeep_0 52 rfl) (hret _ _ ⟨Or.inr ⟨by omega, Or.inl (by rw [cal_8 (by omega), if_pos (gc5.t h127)])⟩, hA, hD, (FH.rf : FH 99 σ σ)⟩)

theorem gcn1 {a : Nat} (h : ¬ (a ≠ 1)) : a = 1 := Classical.byContradiction h

set_option maxHeartbeats 1000000 in
set_option maxRecDepth 100000 in
theorem c_X6_refusalOfPrimes (l : Launch) (w : Wl) (σ : St) (hk0 : w.2 0 0) (hA : AR σ) (hD : AD σ) (p : Nat) (h0 : WN σ 0 p) (b0 : p < 2 ^ 2048) (q : Nat) (h1 : WN σ 1 q) (b1 : q < 2 ^ 2048) : Cn l yX6_refusalOfPrimes cX6_refusalOfPrimes 1 (Option.some Jvm.ClassFile.FieldType.int) 5 138 wI [.ref (w.1 0 0)] w σ (fun a σ' => RP p q a ∧ (a = 0 → WN σ' 3 (p * q)) ∧ AR σ' ∧ AD σ' ∧ Fr [(8, 0), (2, 3), (3, 3), (2, 6), (3, 6), (2, 7), (3, 7), (2, 8), (3, 8), (2, 9), (3, 9), (2, 10), (3, 10), (2, 11), (3, 11), (2, 12), (3, 12), (2, 13), (3, 13), (2, 14), (3, 14), (2, 15), (3, 15), (2, 19), (3, 19), (2, 20), (3, 20), (2, 21), (3, 21), (2, 22), (3, 22)] σ σ') := by
  refine Cn.of (own := RX6) (lv := [(0, .ref (w.1 0 0))]) (by decide +kernel) rfl (Nat.le_of_ble_eq_true rfl) rfl (fun X hX hxl hR hcl hret => ?_)
  subst hxl
  have hH : ∀ c q, (c, q) ∈ mn σ 0 0 → w.2 c q := fun c q h => hcl 0 0 hk0 (c, q) h
  refine v_aload_n hX 0 rfl (atL dAX6_refusalOfPrimes_0 0 rfl) ?_
  refine gf_X6_35 hX hk0 (atL dAX6_refusalOfPrimes_0 1 rfl) ?_
  refine v_aload_n hX 0 rfl (atL dAX6_refusalOfPrimes_0 2 rfl) ?_
  refine gf_X6_64 hX hk0 (atL dAX6_refusalOfPrimes_0 3 rfl) ?_
  refine v_aload_n hX 0 rfl (atL dAX6_refusalOfPrimes_0 4 rfl) ?_
  refine gf_X6_68 hX hk0 (atL dAX6_refusalOfPrimes_0 5 rfl) ?_
  refine v_aload_n hX 0 rfl (atL dAX6_refusalOfPrimes_0 6 rfl) ?_
  refine gf_X6_74 hX hk0 (atL dAX6_refusalOfPrimes_0 7 rfl) ?_
  refine v_callV hX (As := [.ref (w.1 3 0), .ref (w.1 3 1), .ref (w.1 3 3)]) (rest := []) (c_X0_multiply (xl X) w σ (hH 7 0 (by simp [mn, tp])) 0 p (hH 3 0 (by simp [mn, tp])) h0 1 q (hH 3 1 (by simp [mn, tp])) h1 3 (hH 3 3 (by simp [mn, tp])) (hD 3) (by omega) (by omega)) lk_X6_297 (hH 7 0 (by simp [mn, tp])) (fun _ => rfl) rfl rfl rfl (by rw [hR]; exact ⟨Nat.le_of_ble_eq_true rfl, Nat.le_of_ble_eq_true rfl⟩) ⟨Nat.zero_le _, Nat.zero_le _⟩ rfl (Nat.le_of_ble_eq_true rfl) (atL dAX6_refusalOfPrimes_0 8 rfl) (fun r1 s1 gc1 => ?_)
  have gm1 : Fr [(2, 3), (3, 3)] σ s1 ∧ WDg s1 3 := by
    rcases gc1 with q | q
    · rw [q.2.2]; exact ⟨Fr.rf, hD 3⟩
    · exact ⟨q.2.2.2, WN.dg q.2.2.1⟩
  obtain ⟨hf1, hdg1⟩ := gm1
  have gd1 : r1 = 0 ∨ r1 = 1 := by rcases gc1 with q | q <;> omega
  have hDp1 : AD s1 := hD.of hf1 (fun q hq => by simp at hq; subst hq; exact hdg1)
  have hA1 := hA.fr hf1 (by simp)
  have hD1 := hDp1
  have hw1_0 := nm.fr h0 hf1 (by simp <;> omega) (by simp <;> omega)
  have hw1_1 := nm.fr h1 hf1 (by simp <;> omega) (by simp <;> omega)
  have hF1 := (FH.rf : FH 99 σ σ).tr hf1 (by simp [Hk] <;> omega)
  have hG1 := (Fr.rf : Fr [(8, 0), (2, 3), (3, 3), (2, 6), (3, 6), (2, 7), (3, 7), (2, 8), (3, 8), (2, 9), (3, 9), (2, 10), (3, 10), (2, 11), (3, 11), (2, 12), (3, 12), (2, 13), (3, 13), (2, 14), (3, 14), (2, 15), (3, 15), (2, 19), (3, 19), (2, 20), (3, 20), (2, 21), (3, 21), (2, 22), (3, 22)] σ σ).tr' (hf1.mono (by simp))
  show V X _ w _ _ s1 [.int (iI (r1))]
  refine v_if_eq hX ⟨by omega, by omega⟩ (tgt := 35) (atL dAX6_refusalOfPrimes_0 9 rfl) (by decide) (fun h19 => ?_) (fun h19 => ?_)
  · refine v_iconst hX (atL dAX6_refusalOfPrimes_0 15 rfl) ?_
    exact v_iret hX (atL dAX6_refusalOfPrimes_0 16 rfl) (hret _ _ ⟨Or.inl ⟨rfl, fun c => absurd c.2 (by have := nby_ge (mul_big (gc1.resolve_right (fun q => by omega)).2.1 b0 b1); omega)⟩, fun c => absurd c (by decide), hA1, hD1, hG1⟩)
  · have hwm := (gc1.resolve_left (fun q => by omega)).2.2.1
    refine v_aload_n hX 0 rfl (atL dAX6_refusalOfPrimes_0 10 rfl) ?_
    refine gf_X6_74 hX hk0 (atL dAX6_refusalOfPrimes_0 11 rfl) ?_
    refine v_callV hX (As := []) (rest := []) (c_X5_byteLength (xl X) w s1 3 (p * q) (hH 3 3 (by simp [mn, tp])) hwm) lk_X6_157 (hH 3 3 (by simp [mn, tp])) (fun _ => rfl) rfl rfl rfl (by rw [hR]; exact ⟨Nat.le_of_ble_eq_true rfl, Nat.le_of_ble_eq_true rfl⟩) ⟨Nat.zero_le _, Nat.zero_le _⟩ rfl (Nat.le_of_ble_eq_true rfl) (atL dAX6_refusalOfPrimes_0 12 rfl) (fun r2 z2 g2 => ?_)
    obtain ⟨ga2, gb2⟩ := g2
    rw [gb2]
    subst ga2
    have hbl2 : blen (p * q) ≤ 2240 := blen_le (WN.le hwm)
    show V X _ w _ _ s1 [.int (iI ((((blen (p * q) + 7) / 8 : Nat) : Int)))]
    refine v_callS hX (As := [.int (iI ((((blen (p * q) + 7) / 8 : Nat) : Int)))]) (rest := []) (c_X6_isModulusLength (xl X) w s1 ((blen (p * q) + 7) / 8) (by omega)) lk_X6_190 rfl (by rw [hR]; exact ⟨Nat.le_of_ble_eq_true rfl, Nat.le_of_ble_eq_true rfl⟩) ⟨Nat.zero_le _, Nat.zero_le _⟩ rfl (Nat.le_of_ble_eq_true rfl) (atL dAX6_refusalOfPrimes_0 13 rfl) (fun r3 z3 g3 => ?_)
    obtain ⟨gc3, gb3⟩ := g3
    rw [gb3]
    have gd3 : r3 = 0 ∨ r3 = 1 := by rcases gc3 with q | q <;> omega
    show V X _ w _ _ s1 [.int (iI (r3))]
    refine v_if_ne hX ⟨by omega, by omega⟩ (tgt := 37) (atL dAX6_refusalOfPrimes_0 14 rfl) (by decide) (fun h32 => ?_) (fun h32 => ?_)
    · refine v_aload_n hX 0 rfl (atL dAX6_refusalOfPrimes_0 17 rfl) ?_
      refine gf_X6_64 hX hk0 (atL dAX6_refusalOfPrimes_0 18 rfl) ?_
      refine v_iconst hX (atL dAX6_refusalOfPrimes_0 19 rfl) ?_
      refine v_callV hX (As := [.int (iI (2))]) (rest := []) (c_X5_isSmall (xl X) w s1 0 p (hH 3 0 (by simp [mn, tp])) hw1_0 2 (by omega) (by omega)) lk_X6_328 (hH 3 0 (by simp [mn, tp])) (fun _ => rfl) rfl rfl rfl (by rw [hR]; exact ⟨Nat.le_of_ble_eq_true rfl, Nat.le_of_ble_eq_true rfl⟩) ⟨Nat.zero_le _, Nat.zero_le _⟩ rfl (Nat.le_of_ble_eq_true rfl) (atL dAX6_refusalOfPrimes_0 20 rfl) (fun r4 z4 g4 => ?_)
      obtain ⟨ga4, gb4⟩ := g4
      rw [gb4]
      have gc4 : tf r4 (p = 2) := by rw [ga4]; split; exact tf_p (by assumption); exact tf_n (by assumption)
      have gd4 : r4 = 0 ∨ r4 = 1 := by rw [ga4]; split <;> simp
      show V X _ w _ _ s1 [.int (iI (r4))]
      refine v_if_ne hX ⟨by omega, by omega⟩ (tgt := 87) (atL dAX6_refusalOfPrimes_0 21 rfl) (by decide) (fun h45 => ?_) (fun h45 => ?_)
      · refine v_bipush hX (by decide +kernel) (atL dAX6_refusalOfPrimes_0 39 rfl) ?_
        exact v_iret hX (atL dAX6_refusalOfPrimes_0 40 rfl) (hret _ _ ⟨Or.inr (Or.inl ⟨rfl, gc3.t h32, fun c => c.1 (gc4.t h45)⟩), fun c => absurd c (by decide), hA1, hD1, hG1⟩)
      · refine v_aload_n hX 0 rfl (atL dAX6_refusalOfPrimes_0 22 rfl) ?_
        refine gf_X6_68 hX hk0 (atL dAX6_refusalOfPrimes_0 23 rfl) ?_
        refine v_iconst hX (atL dAX6_refusalOfPrimes_0 24 rfl) ?_
        refine v_callV hX (As := [.int (iI (2))]) (rest := []) (c_X5_isSmall (xl X) w s1 1 q (hH 3 1 (by simp [mn, tp])) hw1_1 2 (by omega) (by omega)) lk_X6_328 (hH 3 1 (by simp [mn, tp])) (fun _ => rfl) rfl rfl rfl (by rw [hR]; exact ⟨Nat.le_of_ble_eq_true rfl, Nat.le_of_ble_eq_true rfl⟩) ⟨Nat.zero_le _, Nat.zero_le _⟩ rfl (Nat.le_of_ble_eq_true rfl) (atL dAX6_refusalOfPrimes_0 25 rfl) (fun r5 z5 g5 => ?_)
        obtain ⟨ga5, gb5⟩ := g5
        rw [gb5]
        have gc5 : tf r5 (q = 2) := by rw [ga5]; split; exact tf_p (by assumption); exact tf_n (by assumption)
        have gd5 : r5 = 0 ∨ r5 = 1 := by rw [ga5]; split <;> simp
        show V X _ w _ _ s1 [.int (iI (r5))]
        refine v_if_ne hX ⟨by omega, by omega⟩ (tgt := 87) (atL dAX6_refusalOfPrimes_0 26 rfl) (by decide) (fun h56 => ?_) (fun h56 => ?_)
        · refine v_bipush hX (by decide +kernel) (atL dAX6_refusalOfPrimes_0 39 rfl) ?_
          exact v_iret hX (atL dAX6_refusalOfPrimes_0 40 rfl) (hret _ _ ⟨Or.inr (Or.inl ⟨rfl, gc3.t h32, fun c => c.2.1 (gc5.t h56)⟩), fun c => absurd c (by decide), hA1, hD1, hG1⟩)
        · refine v_aload_n hX 0 rfl (atL dAX6_refusalOfPrimes_0 27 rfl) ?_
          refine gf_X6_35 hX hk0 (atL dAX6_refusalOfPrimes_0 28 rfl) ?_
          refine v_aload_n hX 0 rfl (atL dAX6_refusalOfPrimes_0 29 rfl) ?_
          refine gf_X6_64 hX hk0 (atL dAX6_refusalOfPrimes_0 30 rfl) ?_
          refine v_callV hX (As := [.ref (w.1 3 0)]) (rest := []) (c_X0_isProbable (xl X) w s1 (hH 7 0 (by simp [mn, tp])) 0 p (hH 3 0 (by simp [mn, tp])) hw1_0 (by omega) hD1) lk_X6_153 (hH 7 0 (by simp [mn, tp])) (fun _ => rfl) rfl rfl rfl (by rw [hR]; exact ⟨Nat.le_of_ble_eq_true rfl, Nat.le_of_ble_eq_true rfl⟩) ⟨Nat.zero_le _, Nat.zero_le _⟩ rfl (Nat.le_of_ble_eq_true rfl) (atL dAX6_refusalOfPrimes_0 31 rfl) (fun r6 s6 e6 => ?_)
          obtain ⟨gc6, hDp6, hf6⟩ := e6
          have gd6 : r6 = 0 ∨ r6 = 1 := by rcases gc6 with q | q <;> omega
          have hA6 := hA1.fr hf6 (by simp)
          have hD6 := hDp6
          have hw6_0 := nm.fr hw1_0 hf6 (by simp <;> omega) (by simp <;> omega)
          have hw6_1 := nm.fr hw1_1 hf6 (by simp <;> omega) (by simp <;> omega)
          have hw6_3 := nm.fr hwm hf6 (by simp <;> omega) (by simp <;> omega)
          have hF6 := hF1.tr hf6 (by simp [Hk] <;> omega)
          have hG6 := hG1.tr' (hf6.mono (by simp))
          show V X _ w _ _ s6 [.int (iI (r6))]
          refine v_if_eq hX ⟨by omega, by omega⟩ (tgt := 87) (atL dAX6_refusalOfPrimes_0 32 rfl) (by decide) (fun h70 => ?_) (fun h70 => ?_)
          · refine v_bipush hX (by decide +kernel) (atL dAX6_refusalOfPrimes_0 39 rfl) ?_
            exact v_iret hX (atL dAX6_refusalOfPrimes_0 40 rfl) (hret _ _ ⟨Or.inr (Or.inl ⟨rfl, gc3.t h32, fun c => gc6.f h70 c.2.2.1⟩), fun c => absurd c (by decide), hA6, hD6, hG6⟩)
          · refine v_aload_n hX 0 rfl (atL dAX6_refusalOfPrimes_0 33 rfl) ?_
            refine gf_X6_35 hX hk0 (atL dAX6_refusalOfPrimes_0 34 rfl) ?_
            refine v_aload_n hX 0 rfl (atL dAX6_refusalOfPrimes_0 35 rfl) ?_
            refine gf_X6_68 hX hk0 (atL dAX6_refusalOfPrimes_0 36 rfl) ?_
            refine v_callV hX (As := [.ref (w.1 3 1)]) (rest := []) (c_X0_isProbable (xl X) w s6 (hH 7 0 (by simp [mn, tp])) 1 q (hH 3 1 (by simp [mn, tp])) hw6_1 (by omega) hD6) lk_X6_153 (hH 7 0 (by simp [mn, tp])) (fun _ => rfl) rfl rfl rfl (by rw [hR]; exact ⟨Nat.le_of_ble_eq_true rfl, Nat.le_of_ble_eq_true rfl⟩) ⟨Nat.zero_le _, Nat.zero_le _⟩ rfl (Nat.le_of_ble_eq_true rfl) (atL dAX6_refusalOfPrimes_0 37 rfl) (fun r7 s7 e7 => ?_)
            obtain ⟨gc7, hDp7, hf7⟩ := e7
            have gd7 : r7 = 0 ∨ r7 = 1 := by rcases gc7 with q | q <;> omega
            have hA7 := hA6.fr hf7 (by simp)
            have hD7 := hDp7
            have hw7_0 := nm.fr hw6_0 hf7 (by simp <;> omega) (by simp <;> omega)
            have hw7_1 := nm.fr hw6_1 hf7 (by simp <;> omega) (by simp <;> omega)
            have hw7_3 := nm.fr hw6_3 hf7 (by simp <;> omega) (by simp <;> omega)
            have hF7 := hF6.tr hf7 (by simp [Hk] <;> omega)
            have hG7 := hG6.tr' (hf7.mono (by simp))
            show V X _ w _ _ s7 [.int (iI (r7))]
            refine v_if_ne hX ⟨by omega, by omega⟩ (tgt := 90) (atL dAX6_refusalOfPrimes_0 38 rfl) (by decide) (fun h84 => ?_) (fun h84 => ?_)
            · refine v_aload_n hX 0 rfl (atL dAX6_refusalOfPrimes_0 41 rfl) ?_
              refine v_aload_n hX 0 rfl (atL dAX6_refusalOfPrimes_0 42 rfl) ?_
              refine gf_X6_64 hX hk0 (atL dAX6_refusalOfPrimes_0 43 rfl) ?_
              refine v_aload_n hX 0 rfl (atL dAX6_refusalOfPrimes_0 44 rfl) ?_
              refine gf_X6_68 hX hk0 (atL dAX6_refusalOfPrimes_0 45 rfl) ?_
              refine v_callV hX (As := [.ref (w.1 3 0), .ref (w.1 3 1)]) (rest := []) (c_X6_haveCommonDivisor (xl X) w s7 hk0 hA7 hD7 0 p (hH 3 0 (by simp [mn, tp])) hw7_0 b0 (by omega) 1 q (hH 3 1 (by simp [mn, tp])) hw7_1 b1 (by omega)) lk_X6_331 hk0 (fun _ => rfl) rfl rfl rfl (by rw [hR]; exact ⟨Nat.le_of_ble_eq_true rfl, Nat.le_of_ble_eq_true rfl⟩) ⟨Nat.zero_le _, Nat.zero_le _⟩ rfl (Nat.le_of_ble_eq_true rfl) (atL dAX6_refusalOfPrimes_0 46 rfl) (fun r8 s8 e8 => ?_)
              obtain ⟨gc8, hDp8, hf8⟩ := e8
              have gd8 : r8 = 0 ∨ r8 = 1 := by rcases gc8 with q | q <;> omega
              have hA8 := hA7.fr hf8 (by simp)
              have hD8 := hDp8
              have hw8_0 := nm.fr hw7_0 hf8 (by simp <;> omega) (by simp <;> omega)
              have hw8_1 := nm.fr hw7_1 hf8 (by simp <;> omega) (by simp <;> omega)
              have hw8_3 := nm.fr hw7_3 hf8 (by simp <;> omega) (by simp <;> omega)
              have hF8 := hF7.tr hf8 (by simp [Hk] <;> omega)
              have hG8 := hG7.tr' (hf8.mono (by simp))
              show V X _ w _ _ s8 [.int (iI (r8))]
              refine v_if_eq hX ⟨by omega, by omega⟩ (tgt := 110) (atL dAX6_refusalOfPrimes_0 47 rfl) (by decide) (fun h102 => ?_) (fun h102 => ?_)
              · refine v_iconst hX (atL dAX6_refusalOfPrimes_0 50 rfl) ?_
                exact v_iret hX (atL dAX6_refusalOfPrimes_0 51 rfl) (hret _ _ ⟨Or.inr (Or.inr (Or.inr ⟨rfl, gc3.t h32, ⟨gc4.f (by omega), gc5.f (by omega), gc6.t h70, gc7.t h84⟩, gcn1 (gc8.f h102)⟩)), fun _ => hw8_3, hA8, hD8, hG8⟩)
              · refine v_bipush hX (by decide +kernel) (atL dAX6_refusalOfPrimes_0 48 rfl) ?_
                refine v_goto hX (tgt := 111) (atL dAX6_refusalOfPrimes_0 49 rfl) (by decide) ?_
                exact v_iret hX (atL dAX6_refusalOfPrimes_0 51 rfl) (hret _ _ ⟨Or.inr (Or.inr (Or.inl ⟨rfl, gc3.t h32, ⟨gc4.f (by omega), gc5.f (by omega), gc6.t h70, gc7.t h84⟩, gc8.t h102⟩)), fun c => absurd c (by decide), hA8, hD8, hG8⟩)
            · refine v_bipush hX (by decide +kernel) (atL dAX6_refusalOfPrimes_0 39 rfl) ?_
              exact v_iret hX (atL dAX6_refusalOfPrimes_0 40 rfl) (hret _ _ ⟨Or.inr (Or.inl ⟨rfl, gc3.t h32, fun c => gc7.f h84 c.2.2.2⟩), fun c => absurd c (by decide), hA7, hD7, hG7⟩)
    · refine v_iconst hX (atL dAX6_refusalOfPrimes_0 15 rfl) ?_
      exact v_iret hX (atL dAX6_refusalOfPrimes_0 16 rfl) (hret _ _ ⟨Or.inl ⟨rfl, fun c => gc3.f h32 c⟩, fun c => absurd c (by decide), hA1, hD1, hG1⟩)

set_option maxHeartbeats 1000000 in
set_option maxRecDepth 100000 in
theorem c_X6_refusalOfExponent (l : Launch) (w : Wl) (σ : St) (hk0 : w.2 0 0) (hA : AR σ) (hD : AD σ) (p : Nat) (h0 : WN σ 0 p) (b0 : p < 2 ^ 2048) (hp0 : 0 < p) (q : Nat) (h1 : WN σ 1 q) (b1 : q < 2 ^ 2048) (hq0 : 0 < q) (e : Nat) (h2 : WN σ 2 e) (b2 : e < 2 ^ 2048) (n : Nat) (hn : WN σ 3 n) : Cn l yX6_refusalOfExponent cX6_refusalOfExponent 1 (Option.some Jvm.ClassFile.FieldType.int) 5 133 wI [.ref (w.1 0 0)] w σ (fun a σ' => RE e n p q a ∧ (a = 0 → WN σ' 4 (p - 1) ∧ WN σ' 5 (q - 1)) ∧ AR σ' ∧ AD σ' ∧ Fr [(8, 0), (2, 4), (3, 4), (2, 5), (3, 5), (2, 6), (3, 6), (2, 7), (3, 7), (2, 8), (3, 8), (2, 9), (3, 9), (2, 13), (3, 13), (2, 14), (3, 14), (2, 15), (3, 15)] σ σ') := by
  refine Cn.of (own := RX6) (lv := [(0, .ref (w.1 0 0))]) (by decide +kernel) rfl (Nat.le_of_ble_eq_true rfl) rfl (fun X hX hxl hR hcl hret => ?_)
  subst hxl
  have hH : ∀ c q, (c, q) ∈ mn σ 0 0 → w.2 c q := fun c q h => hcl 0 0 hk0 (c, q) h
  refine v_aload_n hX 0 rfl (atL dAX6_refusalOfExponent_0 0 rfl) ?_
  refine gf_X6_71 hX hk0 (atL dAX6_refusalOfExponent_0 1 rfl) ?_
  refine v_aload_n hX 0 rfl (atL dAX6_refusalOfExponent_0 2 rfl) ?_
  refine gf_X6_74 hX hk0 (atL dAX6_refusalOfExponent_0 3 rfl) ?_
  refine v_callS hX (As := [.ref (w.1 3 2), .ref (w.1 3 3)]) (rest := []) (c_X6_isExponent (xl X) w σ hA hD 2 e (hH 3 2 (by simp [mn, tp])) h2 3 n (hH 3 3 (by simp [mn, tp])) hn) lk_X6_193 rfl (by rw [hR]; exact ⟨Nat.le_of_ble_eq_true rfl, Nat.le_of_ble_eq_true rfl⟩) ⟨Nat.zero_le _, Nat.zero_le _⟩ rfl (Nat.le_of_ble_eq_true rfl) (atL dAX6_refusalOfExponent_0 4 rfl) (fun r1 z1 g1 => ?_)
  obtain ⟨gc1, gb1⟩ := g1
  rw [gb1]
  have gd1 : r1 = 0 ∨ r1 = 1 := by rcases gc1 with q | q <;> omega
  show V X _ w _ _ σ [.int (iI (r1))]
  refine v_if_ne hX ⟨by omega, by omega⟩ (tgt := 17) (atL dAX6_refusalOfExponent_0 5 rfl) (by decide) (fun h11 => ?_) (fun h11 => ?_)
  · refine v_aload_n hX 0 rfl (atL dAX6_refusalOfExponent_0 8 rfl) ?_
    refine gf_X6_77 hX hk0 (atL dAX6_refusalOfExponent_0 9 rfl) ?_
    refine v_aload_n hX 0 rfl (atL dAX6_refusalOfExponent_0 10 rfl) ?_
    refine gf_X6_64 hX hk0 (atL dAX6_refusalOfExponent_0 11 rfl) ?_
    refine v_callV hX (As := [.ref (w.1 3 0)]) (rest := []) (c_X5_setLess (xl X) w σ 4 (hH 3 4 (by simp [mn, tp])) (hD 4) 0 p (hH 3 0 (by simp [mn, tp])) h0 (by omega)) lk_X6_334 (hH 3 4 (by simp [mn, tp])) (fun _ => rfl) rfl rfl rfl (by rw [hR]; exact ⟨Nat.le_of_ble_eq_true rfl, Nat.le_of_ble_eq_true rfl⟩) ⟨Nat.zero_le _, Nat.zero_le _⟩ rfl (Nat.le_of_ble_eq_true rfl) (atL dAX6_refusalOfExponent_0 12 rfl) (fun _ s2 e2 => ?_)
    obtain ⟨hw2, hf2⟩ := e2
    have hb2 : p - 1 < 2 ^ 2048 := Nat.lt_of_le_of_lt (Nat.sub_le _ _) b0
    have hA2 := hA.fr hf2 (by simp)
    have hD2 := hD.one hf2 hw2
    have hw2_0 := nm.fr h0 hf2 (by simp <;> omega) (by simp <;> omega)
    have hw2_1 := nm.fr h1 hf2 (by simp <;> omega) (by simp <;> omega)
    have hw2_2 := nm.fr h2 hf2 (by simp <;> omega) (by simp <;> omega)
    have hw2_3 := nm.fr hn hf2 (by simp <;> omega) (by simp <;> omega)
    have hF2 := (FH.rf : FH 99 σ σ).tr hf2 (by simp [Hk] <;> omega)
    have hG2 := (Fr.rf : Fr [(8, 0), (2, 4), (3, 4), (2, 5), (3, 5), (2, 6), (3, 6), (2, 7), (3, 7), (2, 8), (3, 8), (2, 9), (3, 9), (2, 13), (3, 13), (2, 14), (3, 14), (2, 15), (3, 15)] σ σ).tr' (hf2.mono (by simp))
    show V X _ w _ _ s2 []
    refine v_aload_n hX 0 rfl (atL dAX6_refusalOfExponent_0 13 rfl) ?_
    refine gf_X6_80 hX hk0 (atL dAX6_refusalOfExponent_0 14 rfl) ?_
    refine v_aload_n hX 0 rfl (atL dAX6_refusalOfExponent_0 15 rfl) ?_
    refine gf_X6_68 hX hk0 (atL dAX6_refusalOfExponent_0 16 rfl) ?_
    refine v_callV hX (As := [.ref (w.1 3 1)]) (rest := []) (c_X5_setLess (xl X) w s2 5 (hH 3 5 (by simp [mn, tp])) (hD2 5) 1 q (hH 3 1 (by simp [mn, tp])) hw2_1 (by omega)) lk_X6_334 (hH 3 5 (by simp [mn, tp])) (fun _ => rfl) rfl rfl rfl (by rw [hR]; exact ⟨Nat.le_of_ble_eq_true rfl, Nat.le_of_ble_eq_true rfl⟩) ⟨Nat.zero_le _, Nat.zero_le _⟩ rfl (Nat.le_of_ble_eq_true rfl) (atL dAX6_refusalOfExponent_0 17 rfl) (fun _ s3 e3 => ?_)
    obtain ⟨hw3, hf3⟩ := e3
    have hb3 : q - 1 < 2 ^ 2048 := Nat.lt_of_le_of_lt (Nat.sub_le _ _) b1
    have hA3 := hA2.fr hf3 (by simp)
    have hD3 := hD2.one hf3 hw3
    have hw3_0 := nm.fr hw2_0 hf3 (by simp <;> omega) (by simp <;> omega)
    have hw3_1 := nm.fr hw2_1 hf3 (by simp <;> omega) (by simp <;> omega)
    have hw3_2 := nm.fr hw2_2 hf3 (by simp <;> omega) (by simp <;> omega)
    have hw3_3 := nm.fr hw2_3 hf3 (by simp <;> omega) (by simp <;> omega)
    have hw3_4 := nm.fr hw2 hf3 (by simp <;> omega) (by simp <;> omega)
    have hF3 := hF2.tr hf3 (by simp [Hk] <;> omega)
    have hG3 := hG2.tr' (hf3.mono (by simp))
    show V X _ w _ _ s3 []
    refine v_aload_n hX 0 rfl (atL dAX6_refusalOfExponent_0 18 rfl) ?_
    refine v_aload_n hX 0 rfl (atL dAX6_refusalOfExponent_0 19 rfl) ?_
    refine gf_X6_71 hX hk0 (atL dAX6_refusalOfExponent_0 20 rfl) ?_
    refine v_aload_n hX 0 rfl (atL dAX6_refusalOfExponent_0 21 rfl) ?_
    refine gf_X6_77 hX hk0 (atL dAX6_refusalOfExponent_0 22 rfl) ?_
    refine v_callV hX (As := [.ref (w.1 3 2), .ref (w.1 3 4)]) (rest := []) (c_X6_haveCommonDivisor (xl X) w s3 hk0 hA3 hD3 2 e (hH 3 2 (by simp [mn, tp])) hw3_2 b2 (by omega) 4 (p - 1) (hH 3 4 (by simp [mn, tp])) hw3_4 hb2 (by omega)) lk_X6_331 hk0 (fun _ => rfl) rfl rfl rfl (by rw [hR]; exact ⟨Nat.le_of_ble_eq_true rfl, Nat.le_of_ble_eq_true rfl⟩) ⟨Nat.zero_le _, Nat.zero_le _⟩ rfl (Nat.le_of_ble_eq_true rfl) (atL dAX6_refusalOfExponent_0 23 rfl) (fun r4 s4 e4 => ?_)
    obtain ⟨gc4, hDp4, hf4⟩ := e4
    have gd4 : r4 = 0 ∨ r4 = 1 := by rcases gc4 with q | q <;> omega
    have hA4 := hA3.fr hf4 (by simp)
    have hD4 := hDp4
    have hw4_0 := nm.fr hw3_0 hf4 (by simp <;> omega) (by simp <;> omega)
    have hw4_1 := nm.fr hw3_1 hf4 (by simp <;> omega) (by simp <;> omega)
    have hw4_2 := nm.fr hw3_2 hf4 (by simp <;> omega) (by simp <;> omega)
    have hw4_3 := nm.fr hw3_3 hf4 (by simp <;> omega) (by simp <;> omega)
    have hw4_4 := nm.fr hw3_4 hf4 (by simp <;> omega) (by simp <;> omega)
    have hw4_5 := nm.fr hw3 hf4 (by simp <;> omega) (by simp <;> omega)
    have hF4 := hF3.tr hf4 (by simp [Hk] <;> omega)
    have hG4 := hG3.tr' (hf4.mono (by simp))
    show V X _ w _ _ s4 [.int (iI (r4))]
    refine v_if_ne hX ⟨by omega, by omega⟩ (tgt := 69) (atL dAX6_refusalOfExponent_0 24 rfl) (by decide) (fun h51 => ?_) (fun h51 => ?_)
    · refine v_bipush hX (by decide +kernel) (atL dAX6_refusalOfExponent_0 32 rfl) ?_
      refine v_goto hX (tgt := 75) (atL dAX6_refusalOfExponent_0 33 rfl) (by decide) ?_
      exact v_iret hX (atL dAX6_refusalOfExponent_0 35 rfl) (hret _ _ ⟨Or.inr (Or.inl ⟨rfl, gc1.t h11, fun c => gc4.t h51 c.1⟩), fun c => absurd c (by decide), hA4, hD4, hG4⟩)
    · refine v_aload_n hX 0 rfl (atL dAX6_refusalOfExponent_0 25 rfl) ?_
      refine v_aload_n hX 0 rfl (atL dAX6_refusalOfExponent_0 26 rfl) ?_
      refine gf_X6_71 hX hk0 (atL dAX6_refusalOfExponent_0 27 rfl) ?_
      refine v_aload_n hX 0 rfl (atL dAX6_refusalOfExponent_0 28 rfl) ?_
      refine gf_X6_80 hX hk0 (atL dAX6_refusalOfExponent_0 29 rfl) ?_
      refine v_callV hX (As := [.ref (w.1 3 2), .ref (w.1 3 5)]) (rest := []) (c_X6_haveCommonDivisor (xl X) w s4 hk0 hA4 hD4 2 e (hH 3 2 (by simp [mn, tp])) hw4_2 b2 (by omega) 5 (q - 1) (hH 3 5 (by simp [mn, tp])) hw4_5 hb3 (by omega)) lk_X6_331 hk0 (fun _ => rfl) rfl rfl rfl (by rw [hR]; exact ⟨Nat.le_of_ble_eq_true rfl, Nat.le_of_ble_eq_true rfl⟩) ⟨Nat.zero_le _, Nat.zero_le _⟩ rfl (Nat.le_of_ble_eq_true rfl) (atL dAX6_refusalOfExponent_0 30 rfl) (fun r5 s5 e5 => ?_)
      obtain ⟨gc5, hDp5, hf5⟩ := e5
      have gd5 : r5 = 0 ∨ r5 = 1 := by rcases gc5 with q | q <;> omega
      have hA5 := hA4.fr hf5 (by simp)
      have hD5 := hDp5
      have hw5_0 := nm.fr hw4_0 hf5 (by simp <;> omega) (by simp <;> omega)
      have hw5_1 := nm.fr hw4_1 hf5 (by simp <;> omega) (by simp <;> omega)
      have hw5_2 := nm.fr hw4_2 hf5 (by simp <;> omega) (by simp <;> omega)
      have hw5_3 := nm.fr hw4_3 hf5 (by simp <;> omega) (by simp <;> omega)
      have hw5_4 := nm.fr hw4_4 hf5 (by simp <;> omega) (by simp <;> omega)
      have hw5_5 := nm.fr hw4_5 hf5 (by simp <;> omega) (by simp <;> omega)
      have hF5 := hF4.tr hf5 (by simp [Hk] <;> omega)
      have hG5 := hG4.tr' (hf5.mono (by simp))
      show V X _ w _ _ s5 [.int (iI (r5))]
      refine v_if_eq hX ⟨by omega, by omega⟩ (tgt := 74) (atL dAX6_refusalOfExponent_0 31 rfl) (by decide) (fun h66 => ?_) (fun h66 => ?_)
      · refine v_iconst hX (atL dAX6_refusalOfExponent_0 34 rfl) ?_
        exact v_iret hX (atL dAX6_refusalOfExponent_0 35 rfl) (hret _ _ ⟨Or.inr (Or.inr ⟨rfl, gc1.t h11, gcn1 (gc4.f h51), gcn1 (gc5.f h66)⟩), fun _ => ⟨hw5_4, hw5_5⟩, hA5, hD5, hG5⟩)
      · refine v_bipush hX (by decide +kernel) (atL dAX6_refusalOfExponent_0 32 rfl) ?_
        refine v_goto hX (tgt := 75) (atL dAX6_refusalOfExponent_0 33 rfl) (by decide) ?_
        exact v_iret hX (atL dAX6_refusalOfExponent_0 35 rfl) (hret _ _ ⟨Or.inr (Or.inl ⟨rfl, gc1.t h11, fun c => gc5.t h66 c.2⟩), fun c => absurd c (by decide), hA5, hD5, hG5⟩)
  · refine v_bipush hX (by decide +kernel) (atL dAX6_refusalOfExponent_0 6 rfl) ?_
    exact v_iret hX (atL dAX6_refusalOfExponent_0 7 rfl) (hret _ _ ⟨Or.inl ⟨rfl, gc1.f h11⟩, fun c => absurd c (by decide), hA, hD, (Fr.rf : Fr [(8, 0), (2, 4), (3, 4), (2, 5), (3, 5), (2, 6), (3, 6), (2, 7), (3, 7), (2, 8), (3, 8), (2, 9), (3, 9), (2, 13), (3, 13), (2, 14), (3, 14), (2, 15), (3, 15)] σ σ)⟩)
