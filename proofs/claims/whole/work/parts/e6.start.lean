/-! the law, from its entry -/
def gh0 : Gh := ⟨fun _ => 0⟩
def A0 : Ab := (fun _ => [], 0, fun _ => 0, fun _ _ => 0)
theorem row_0 {σ : St} {i : Nat} (h0 : σ 0 i 0 = 0) : row σ i = [] := by
  unfold row
  rw [h0]
  rfl
theorem okR_0 {σ : St} {i : Nat} (h0 : σ 0 i 0 = 0) (h1 : ∀ j, σ 1 i j = 0) : okR σ i := ⟨by rw [h0]; omega, by rw [h0]; omega, fun j => by rw [h1 j]; exact ⟨by omega, by omega⟩⟩
theorem HS_0 {σ : St} (h : ∀ c i j, c < 15 → σ c i j = 0) : HS σ A0 := by
  refine ⟨fun i _ => ⟨okR_0 (h 0 i 0 (by decide)) (fun j => h 1 i j (by decide)), row_0 (h 0 i 0 (by decide))⟩, fun i => okR_0 (h 0 i 0 (by decide)) (fun j => h 1 i j (by decide)), fun q j => ?_, h 4 0 0 (by decide), Nat.zero_le _, fun j _ => ?_, fun k hk => absurd hk (Nat.not_lt_zero k)⟩
  · rw [h 3 q j (by decide)]
    exact ⟨by omega, by omega⟩
  · rw [h 7 0 j (by decide)]
    exact (if_neg (Nat.not_lt_zero j)).symm
theorem HM_0 {σ : St} (h : ∀ c i j, c < 15 → σ c i j = 0) : @HM gh0 σ A0 := by
  refine ⟨⟨fun s _ => ⟨⟨h 13 1 s (by decide), Nat.zero_le _, fun j hj => absurd hj (Nat.not_lt_zero j)⟩, BY.nil⟩, ⟨h 10 0 1 (by decide), Nat.zero_le _, BY.nil, fun j hj => absurd hj (Nat.not_lt_zero j)⟩, h 10 0 5 (by decide), Nat.zero_le _, fun k hk => absurd hk (Nat.not_lt_zero k)⟩, fun q j => ?_, h 10 0 3 (by decide), Or.inl ⟨h 10 0 4 (by decide), rfl⟩⟩
  rw [h 12 q j (by decide)]
  exact ⟨by omega, by omega⟩
def l6 : List (Nat × Nat) := (0, 0) :: (mlX6 ++ [])
def l8 : List (Nat × Nat) := (13, 0) :: (mlX8 ++ l6)
def l9 : List (Nat × Nat) := (18, 0) :: l8
theorem l9_ok : (∀ q ∈ l9, q.1 = 12 → q.2 = 0) ∧ (∀ q ∈ l9, q.1 ≠ 5 ∧ q.1 ≠ 6 ∧ q.1 ≠ 35 ∧ q.1 ≠ 36 ∧ q.1 ≠ 33 ∧ q.1 ≠ 19) ∧ (∀ q ∈ l9, q.1 = 3 ∨ q.1 = 4 → q.2 < 32) := by decide +kernel
def w00 : Wl := (fun _ _ => 0, fun _ _ => False)
def s00 : St := fun _ _ _ => 0
set_option maxHeartbeats 4000000 in
set_option maxRecDepth 100000 in
theorem whole_start {p : Program} {e : Env} {s : State} {m : MethodId} {below : List Frame} {meth : Method} {c : Code} (l : Launch) (hst : l.stackTraces = false) {b L : Nat} {xs : Nat → Int32} (hL : L ≤ 3584) (C0 : lw_At p s m meth c b L xs) : W p l e room_1 s m #[Value.ref b] below meth c s.heap [] 0 0 (lw_Z below #[Value.ref b] s) (entryFrame m ([Value.ref b] : List Value).toArray 7) := by
  obtain ⟨hx, hb, hr, hml, hown, hts, hXs, hbl, hlocks, hgv⟩ := C0
  obtain ⟨D, g, hWK⟩ := start_WK hts
  have hSR := start_SR hts hgv
  have hNc := start_Nc hgv
  have hX : okX (lawX p l e s m below meth c b D g) code 7 RL ret := ⟨hx, hb, hml, hr, hown, hlocks, fun w h => hts w (bw_in h)⟩
  have hS : XS (lawX p l e s m below meth c b D g) b L xs := ⟨hXs, hbl, Nat.not_le.mpr hbl⟩
  have hloop := law_loop hX hst hNc hS hL (L + 1) 0 (by omega) (by omega)
  have hl := lv_entry ([.ref b] : List Value) (n := 7) (Nat.le_of_ble_eq_true rfl)
  rw [lg_entry_eq]
  suffices K : V (lawX p l e s m below meth c b D g) (0, 0) w00 0 [(0, .ref b)] s00 [] by
    refine K s.heap [] _ ⟨hWK, fun k i h => h.elim, ⟨fun _ _ _ _ h => h.elim, fun _ _ h => h.elim⟩, fun _ _ h => h.elim, va_S.rf, fun q hq => hq, hSR⟩ ?_
    show lv_has _ c.maxLocals [(0, .ref b)]
    rw [hml]
    exact hl
  have hR : xR (lawX p l e s m below meth c b D g) = room_1 := rfl
  have f30 : ¬ w00.2 30 0 := fun h => h
  refine nw_L_8 hX f30 (by rw [hR]; exact ⟨Nat.le_of_ble_eq_true rfl, Nat.le_of_ble_eq_true rfl⟩) (atL dAL_law_0 0 rfl) (fun a => ?_)
  refine v_dup hX rfl (atL dAL_law_0 1 rfl) ?_
  have hz0 : ∀ c i j, c < 15 → su s00 21 0 0 0 c i j = 0 := fun c i j hc => by rw [su_c (by omega)]; rfl
  refine v_callI hX (As := []) (rest := [.ref a]) (c_X6_init _ _ _ (o := a) wup_new wup_at (wup_frs (fun q _ h => h) (by decide +kernel)) (fun i h => h.elim (fun h => h) (fun h => absurd h.1 (by decide))) (fun i h => h.elim (fun h => h.elim) (fun h => h.2)) su_s ((su_i (by decide)).trans rfl) hz0) li_L_96 rfl (by rw [hR]; exact ⟨Nat.le_of_ble_eq_true rfl, Nat.le_of_ble_eq_true rfl⟩) (by rw [hR]; exact ⟨Nat.le_of_ble_eq_true rfl, Nat.le_of_ble_eq_true rfl⟩) rfl (Nat.le_of_ble_eq_true rfl) (atL dAL_law_0 2 rfl) (fun _ w1 s1 hp1 => ?_)
  obtain ⟨hto1, hF1⟩ := hp1
  obtain ⟨hw1, ha1⟩ := Wad.mk Wad.rf f30 hto1
  replace hw1 : Wad w00 w1 l6 := hw1
  have hz1 : ∀ c i j, c < 15 → s1 c i j = 0 := fun c i j hc => hF1.z (by omega) (hz0 c i j hc)
  have h00 : w1.2 0 0 := hw1.new (by decide +kernel)
  show V (lawX p l e s m below meth c b D g) (123, 10422) w1 7 [(0, .ref b)] s1 [.ref a]
  rw [← ha1]
  refine v_astore_n hX (i := 1) rfl (lv' := [(1, .ref (w1.1 0 0)), (0, .ref b)]) (Nat.le_of_ble_eq_true rfl) rfl (atL dAL_law_0 3 rfl) ?_
  have f43 : ¬ w1.2 43 0 := hw1.fr (fun h => h) (by decide +kernel)
  refine nw_L_97 hX f43 (by rw [hR]; exact ⟨Nat.le_of_ble_eq_true rfl, Nat.le_of_ble_eq_true rfl⟩) (atL dAL_law_0 4 rfl) (fun a2 => ?_)
  refine v_dup hX rfl (atL dAL_law_0 5 rfl) ?_
  have hz2 : ∀ c i j, c < 15 → su s1 21 13 0 0 c i j = 0 := fun c i j hc => by rw [su_c (by omega)]; exact hz1 c i j hc
  refine v_callI hX (As := []) (rest := [.ref a2]) (c_X8_init _ _ _ (o := a2) wup_new wup_at (wup_frs (hw1.frs (fun q _ h => h) (by decide +kernel)) (by decide +kernel)) su_s hz2) li_L_99 rfl (by rw [hR]; exact ⟨Nat.le_of_ble_eq_true rfl, Nat.le_of_ble_eq_true rfl⟩) (by rw [hR]; exact ⟨Nat.le_of_ble_eq_true rfl, Nat.le_of_ble_eq_true rfl⟩) rfl (Nat.le_of_ble_eq_true rfl) (atL dAL_law_0 6 rfl) (fun _ w2 s2 hp2 => ?_)
  obtain ⟨hto2, hF2⟩ := hp2
  obtain ⟨hw2, ha2⟩ := Wad.mk hw1 f43 hto2
  replace hw2 : Wad w00 w2 l8 := hw2
  have hz3 : ∀ c i j, c < 15 → s2 c i j = 0 := fun c i j hc => hF2.z (by omega) (hz2 c i j hc)
  have e00 : w2.1 0 0 = w1.1 0 0 := (hto2.2.1 0 0 (Or.inl h00) (fun h => absurd h.1 (by decide))).trans (Wle.up f43 0 0 h00).2
  show V (lawX p l e s m below meth c b D g) (201, 44739) w2 15 [(1, .ref (w1.1 0 0)), (0, .ref b)] s2 [.ref a2]
  rw [← ha2, ← e00]
  refine v_astore_n hX (i := 2) rfl (lv' := [(2, .ref (w2.1 13 0)), (1, .ref (w2.1 0 0)), (0, .ref b)]) (Nat.le_of_ble_eq_true rfl) rfl (atL dAL_law_0 7 rfl) ?_
  refine v_iconst hX (atL dAL_law_0 8 rfl) ?_
  have f18 : ¬ w2.2 18 0 := hw2.fr (fun h => h) (by decide +kernel)
  refine v_newA18 hX (i := 0) rfl f18 (by rw [hR]; exact ⟨Nat.le_of_ble_eq_true rfl, Nat.le_of_ble_eq_true rfl⟩) (atL dAL_law_0 9 rfl) (fun a3 => ?_)
  have hw3 := hw2.up (a := a3) f18
  replace hw3 : Wad w00 (wup w2 18 0 a3) l9 := hw3
  have h02 : w2.2 0 0 := hw2.new (by decide +kernel)
  have h132 : w2.2 13 0 := hw2.new (by decide +kernel)
  have e0 := (Wle.up (a := a3) f18 0 0 h02).2
  have e13 := (Wle.up (a := a3) f18 13 0 h132).2
  have e18 : (wup w2 18 0 a3).1 18 0 = a3 := wup_at
  obtain ⟨w3, hw3e⟩ : ∃ q, q = wup w2 18 0 a3 := ⟨_, rfl⟩
  rw [← hw3e] at hw3 e0 e13 e18 ⊢
  show V (lawX p l e s m below meth c b D g) (202, 44740) w3 19 [(2, .ref (w2.1 13 0)), (1, .ref (w2.1 0 0)), (0, .ref b)] (zr s2 15 0) [.ref a3]
  rw [← e0, ← e13, ← e18]
  refine v_astore_n hX (i := 3) rfl (lv' := [(3, .ref (w3.1 18 0)), (2, .ref (w3.1 13 0)), (1, .ref (w3.1 0 0)), (0, .ref b)]) (Nat.le_of_ble_eq_true rfl) rfl (atL dAL_law_0 10 rfl) ?_
  refine v_iconst hX (atL dAL_law_0 11 rfl) ?_
  refine v_istore hX (lv' := [(4, .int (iI 0)), (3, .ref (w3.1 18 0)), (2, .ref (w3.1 13 0)), (1, .ref (w3.1 0 0)), (0, .ref b)]) (Nat.le_of_ble_eq_true rfl) rfl (atL dAL_law_0 12 rfl) ?_
  have hz4 : ∀ c i j, c < 15 → zr s2 15 0 c i j = 0 := fun c i j hc => by rw [zr_c (by omega)]; exact hz3 c i j hc
  have hm : ∀ k i, w3.2 k i → (k, i) ∈ l9 := fun k i h => ((hw3.1 k i).mp h).elim (fun h => h.elim) (fun h => h)
  refine hloop gh0 (202, 44740) w3 (zr s2 15 0) A0 (Or.inl rfl) ⟨HS_0 hz4, HM_0 hz4, ⟨fun q hq => l9_ok.1 _ (hm _ _ hq) rfl, fun i _ => ?_⟩, hw3.new (by decide +kernel), hw3.new (by decide +kernel), hw3.new (by decide +kernel), fun q hq => (l9_ok.2.1 _ (hm _ _ hq)).2.2.2.2.2 rfl⟩ ⟨?_, ?_⟩
  · refine ⟨fun h => (l9_ok.2.1 _ (hm _ _ h)).1 rfl, fun h => (l9_ok.2.1 _ (hm _ _ h)).2.1 rfl, fun h => (l9_ok.2.1 _ (hm _ _ h)).2.2.1 rfl, fun h => (l9_ok.2.1 _ (hm _ _ h)).2.2.2.1 rfl, fun j _ => ⟨fun h => ?_, fun h => ?_, fun h => (l9_ok.2.1 _ (hm _ _ h)).2.2.2.2.1 rfl⟩⟩
    · have h5 : 32 + 8 * i + j < 32 := l9_ok.2.2 _ (hm _ _ h) (Or.inl rfl)
      omega
    · have h5 : 32 + 8 * i + j < 32 := l9_ok.2.2 _ (hm _ _ h) (Or.inr rfl)
      omega
  · show 202 + (1 - 0) * 10360 ≤ 11000 + 0 * 30
    decide
  · show 44740 + (1 - 0) * 103600 ≤ 150000 + 0 * 700
    decide
