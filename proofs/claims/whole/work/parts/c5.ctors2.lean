/-! larger constructors -/
theorem done_at {ad : Ly} {τ : St} {k i : Nat} {n : Int} (hn : τ 21 k i = n) (hm : (rawL k i).map Prod.fst = tp k i) (hr : ∀ q ∈ rawL k i, q.1.1 = 0 → (q.2 : Int) < n) (hz : ∀ d ∈ tp k i, d.1 ≠ 0 → τ d.2.1 i d.2.2 = 0) : ob ad τ k i = raw ad τ k i := by
  show Sum.inr (ck k, (tp k i).map (fv ad τ i)) = Sum.inr (ck k, (rawL k i).map (fr ad (τ 21 k i)))
  rw [hn]
  congr 2
  have e : (tp k i).map (fv ad τ i) = (rawL k i).map (fun q => fv ad τ i q.1) := by
    rw [← hm, List.map_map]
    rfl
  rw [e]
  apply List.map_congr_left
  intro q hq
  have hd : q.1 ∈ tp k i := by rw [← hm]; exact List.mem_map.mpr ⟨q, hq, rfl⟩
  unfold fv fr
  by_cases h0 : q.1.1 = 0
  · rw [if_pos h0, if_pos h0, if_pos (hr q hq h0)]
  · rw [if_neg h0, if_neg h0, hz _ hd h0]
    rfl
theorem done_mn {τ : St} {k i : Nat} {n : Int} (hn : τ 21 k i = n) (hm : (rawL k i).map Prod.fst = tp k i) (hr : ∀ q ∈ rawL k i, q.1.1 = 0 → (q.2 : Int) < n) {x : Nat × Nat} (hx : x ∈ (tp k i).filterMap (fun d => if d.1 = 0 then some d.2 else none)) : x ∈ (rawL k i).filterMap (fun q => if q.1.1 = 0 ∧ (q.2 : Int) < τ 21 k i then some q.1.2 else none) := by
  obtain ⟨d, hd, he⟩ := List.mem_filterMap.mp hx
  rw [← hm] at hd
  obtain ⟨q, hq, rfl⟩ := List.mem_map.mp hd
  by_cases h0 : q.1.1 = 0
  · rw [if_pos h0] at he
    exact List.mem_filterMap.mpr ⟨q, hq, by rw [if_pos ⟨h0, by rw [hn]; exact hr q hq h0⟩]; exact he⟩
  · rw [if_neg h0] at he
    cases he
def flX1 : List (Nat × Nat) := [(9, 0), (9, 1), (9, 2), (31, 27), (1, 27), (2, 27), (31, 28), (1, 28), (2, 28), (8, 0)]
def mlX1 : List (Nat × Nat) := [(1, 28), (2, 28), (1, 27), (2, 27), (9, 2), (9, 1), (9, 0)]
set_option maxHeartbeats 8000000 in
set_option maxRecDepth 100000 in
theorem c_X1_init (l : Launch) (w : Wl) (σ : St) {o : Nat} (hl : w.2 38 0) (ho : w.1 38 0 = o) (hfr : ∀ q ∈ flX1, ¬ w.2 q.1 q.2) (hc : σ 21 8 0 = 0) (hz : ∀ c i j, c < 15 → σ c i j = 0) : Cg l yX1_init cX1_init 1 none 2 34 7 376 wN [.ref o] w σ (fun _ w' σ' => Wto w w' 8 0 mlX1 ∧ F21 [1, 8] σ σ') := by
  refine Cg.of (own := RX1) (lv := [(0, .ref o)]) (by decide +kernel) rfl (Nat.le_of_ble_eq_true rfl) rfl (fun X hX hxl hR hnm hcl hret => ?_)
  subst hxl
  have hw : Wad w w [] := Wad.rf
  have hf : F21 [1, 8] σ σ := F21.rf
  refine v_aload_n hX 0 rfl (atL dAX1_init_0 0 rfl) ?_
  refine oi_X1_3 hX (by rw [hR]; exact ⟨Nat.le_of_ble_eq_true rfl, Nat.le_of_ble_eq_true rfl⟩) (atL dAX1_init_0 1 rfl) ?_
  refine v_aload_n hX 0 rfl (atL dAX1_init_0 2 rfl) ?_
  refine v_bipush hX (by decide +kernel) (atL dAX1_init_0 3 rfl) ?_
  have hr1 := hw.fr (k := 9) (i := 0) (hfr (9, 0) (by decide)) (by decide)
  refine v_newA9 hX (i := 0) (n := 64) rfl rfl hr1 (by rw [hR]; exact ⟨Nat.le_of_ble_eq_true rfl, Nat.le_of_ble_eq_true rfl⟩) (atL dAX1_init_0 4 rfl) (fun a1 => ?_)
  have hw1 := hw.up (a := a1) hr1
  rw [zr_id (fun _ => hf.z (by decide) (hz 9 _ _ (by decide)))]
  have ha1 : (wup w 9 0 a1).1 9 0 = a1 := wup_at
  obtain ⟨w1, he1⟩ : ∃ q, wup w 9 0 a1 = q := ⟨_, rfl⟩
  rw [he1] at hw1 ha1
  rw [he1]
  clear he1 hr1
  obtain ⟨σ1, hq1⟩ : ∃ q, q = σ := ⟨_, rfl⟩
  have hn1 : σ1 21 8 0 = 0 := by rw [hq1]; exact hc
  have hF1 : F21 [1, 8] σ σ1 := by rw [hq1]; exact hf
  rw [← hq1]
  clear hq1
  show V X (1, 64) w1 _ _ σ1 [.ref a1, .ref o]
  refine v_eq2 ha1 ((hw1.2 _ _ hl).trans ho) (rp_X1_11 hX hnm (hw1.old hl) (hw1.new (by decide)) hn1 (atL dAX1_init_0 5 rfl) ?_)
  have hm1 : su σ1 21 8 0 (((0 : Nat) : Int) + 1) 21 8 0 = 1 := su_s
  have hf1 : F21 [1, 8] σ (su σ1 21 8 0 (((0 : Nat) : Int) + 1)) := hF1.tr (F21.su (ks := [8]) (by decide)) (by decide)
  obtain ⟨τ1, hs1⟩ : ∃ q, su σ1 21 8 0 (((0 : Nat) : Int) + 1) = q := ⟨_, rfl⟩
  rw [hs1] at hm1 hf1
  rw [hs1]
  clear hs1 hn1 hF1 ha1
  refine v_aload_n hX 0 rfl (atL dAX1_init_0 6 rfl) ?_
  refine v_bipush hX (by decide +kernel) (atL dAX1_init_0 7 rfl) ?_
  have hr2 := hw1.fr (k := 9) (i := 1) (hfr (9, 1) (by decide)) (by decide)
  refine v_newA9 hX (i := 1) (n := 8) rfl rfl hr2 (by rw [hR]; exact ⟨Nat.le_of_ble_eq_true rfl, Nat.le_of_ble_eq_true rfl⟩) (atL dAX1_init_0 8 rfl) (fun a2 => ?_)
  have hw2 := hw1.up (a := a2) hr2
  rw [zr_id (fun _ => hf1.z (by decide) (hz 9 _ _ (by decide)))]
  have ha2 : (wup w1 9 1 a2).1 9 1 = a2 := wup_at
  obtain ⟨w2, he2⟩ : ∃ q, wup w1 9 1 a2 = q := ⟨_, rfl⟩
  rw [he2] at hw2 ha2
  rw [he2]
  clear he2 hr2
  obtain ⟨σ2, hq2⟩ : ∃ q, q = τ1 := ⟨_, rfl⟩
  have hn2 : σ2 21 8 0 = 1 := by rw [hq2]; exact hm1
  have hF2 : F21 [1, 8] σ σ2 := by rw [hq2]; exact hf1
  rw [← hq2]
  clear hq2
  show V X (2, 72) w2 _ _ σ2 [.ref a2, .ref o]
  refine v_eq2 ha2 ((hw2.2 _ _ hl).trans ho) (rp_X1_15 hX hnm (hw2.old hl) (hw2.new (by decide)) hn2 (atL dAX1_init_0 9 rfl) ?_)
  have hm2 : su σ2 21 8 0 (((1 : Nat) : Int) + 1) 21 8 0 = 2 := su_s
  have hf2 : F21 [1, 8] σ (su σ2 21 8 0 (((1 : Nat) : Int) + 1)) := hF2.tr (F21.su (ks := [8]) (by decide)) (by decide)
  obtain ⟨τ2, hs2⟩ : ∃ q, su σ2 21 8 0 (((1 : Nat) : Int) + 1) = q := ⟨_, rfl⟩
  rw [hs2] at hm2 hf2
  rw [hs2]
  clear hs2 hn2 hF2 ha2 hw1 hm1 hf1
  refine v_aload_n hX 0 rfl (atL dAX1_init_0 10 rfl) ?_
  refine v_bipush hX (by decide +kernel) (atL dAX1_init_0 11 rfl) ?_
  have hr3 := hw2.fr (k := 9) (i := 2) (hfr (9, 2) (by decide)) (by decide)
  refine v_newA9 hX (i := 2) (n := 8) rfl rfl hr3 (by rw [hR]; exact ⟨Nat.le_of_ble_eq_true rfl, Nat.le_of_ble_eq_true rfl⟩) (atL dAX1_init_0 12 rfl) (fun a3 => ?_)
  have hw3 := hw2.up (a := a3) hr3
  rw [zr_id (fun _ => hf2.z (by decide) (hz 9 _ _ (by decide)))]
  have ha3 : (wup w2 9 2 a3).1 9 2 = a3 := wup_at
  obtain ⟨w3, he3⟩ : ∃ q, wup w2 9 2 a3 = q := ⟨_, rfl⟩
  rw [he3] at hw3 ha3
  rw [he3]
  clear he3 hr3
  obtain ⟨σ3, hq3⟩ : ∃ q, q = τ2 := ⟨_, rfl⟩
  have hn3 : σ3 21 8 0 = 2 := by rw [hq3]; exact hm2
  have hF3 : F21 [1, 8] σ σ3 := by rw [hq3]; exact hf2
  rw [← hq3]
  clear hq3
  show V X (3, 80) w3 _ _ σ3 [.ref a3, .ref o]
  refine v_eq2 ha3 ((hw3.2 _ _ hl).trans ho) (rp_X1_18 hX hnm (hw3.old hl) (hw3.new (by decide)) hn3 (atL dAX1_init_0 13 rfl) ?_)
  have hm3 : su σ3 21 8 0 (((2 : Nat) : Int) + 1) 21 8 0 = 3 := su_s
  have hf3 : F21 [1, 8] σ (su σ3 21 8 0 (((2 : Nat) : Int) + 1)) := hF3.tr (F21.su (ks := [8]) (by decide)) (by decide)
  obtain ⟨τ3, hs3⟩ : ∃ q, su σ3 21 8 0 (((2 : Nat) : Int) + 1) = q := ⟨_, rfl⟩
  rw [hs3] at hm3 hf3
  rw [hs3]
  clear hs3 hn3 hF3 ha3 hw2 hm2 hf2
  refine v_aload_n hX 0 rfl (atL dAX1_init_0 14 rfl) ?_
  have hr4 := hw3.fr (k := 31) (i := 27) (hfr (31, 27) (by decide)) (by decide)
  refine nw_X1_21 hX (i := 27) hr4 (by rw [hR]; exact ⟨Nat.le_of_ble_eq_true rfl, Nat.le_of_ble_eq_true rfl⟩) (atL dAX1_init_0 15 rfl) (fun a4 => ?_)
  refine v_dup hX rfl (atL dAX1_init_0 16 rfl) ?_
  refine v_sipush hX (by decide +kernel) (atL dAX1_init_0 17 rfl) ?_
  refine v_callI hX (As := [.int (iI 260)]) (rest := [.ref a4, .ref o]) (c_X4_init _ _ _ (i := 27) (o := a4) (n := 260) rfl wup_new wup_at (wup_fr (hw3.fr (hfr (1, 27) (by decide)) (by decide)) (by decide)) (wup_fr (hw3.fr (hfr (2, 27) (by decide)) (by decide)) (by decide)) su_s (F21.z (F21.su (ks := [1]) (by decide)) (by decide) (hf3.z (by decide) (hz 0 _ _ (by decide)))) (fun _ => (F21.z (F21.su (ks := [1]) (by decide)) (by decide) (hf3.z (by decide) (hz 1 _ _ (by decide)))))) li_X1_23 rfl (by rw [hR]; exact ⟨Nat.le_of_ble_eq_true rfl, Nat.le_of_ble_eq_true rfl⟩) (by rw [hR]; exact ⟨Nat.le_of_ble_eq_true rfl, Nat.le_of_ble_eq_true rfl⟩) rfl (Nat.le_of_ble_eq_true rfl) (atL dAX1_init_0 18 rfl) (fun _ w4 σ4 hp4 => ?_)
  obtain ⟨hwt4, hF4⟩ := hp4
  obtain ⟨hw4, ha4⟩ := Wad.mk hw3 hr4 hwt4
  have hn4 : σ4 21 8 0 = 3 := hF4.n (by decide) ((su_i (by decide)).trans hm3)
  replace hF4 : F21 [1, 8] σ σ4 := (hf3.tr (F21.su (ks := [1]) (by decide)) (by decide)).tr hF4 (by decide)
  clear hwt4 hr4
  show V X (5, 342) w4 _ _ σ4 [.ref a4, .ref o]
  refine v_eq2 ha4 ((hw4.2 _ _ hl).trans ho) (rp_X1_26 hX hnm (hw4.old hl) (hw4.new (by decide)) hn4 (atL dAX1_init_0 19 rfl) ?_)
  have hm4 : su σ4 21 8 0 (((3 : Nat) : Int) + 1) 21 8 0 = 4 := su_s
  have hf4 : F21 [1, 8] σ (su σ4 21 8 0 (((3 : Nat) : Int) + 1)) := hF4.tr (F21.su (ks := [8]) (by decide)) (by decide)
  obtain ⟨τ4, hs4⟩ : ∃ q, su σ4 21 8 0 (((3 : Nat) : Int) + 1) = q := ⟨_, rfl⟩
  rw [hs4] at hm4 hf4
  rw [hs4]
  clear hs4 hn4 hF4 ha4 hw3 hm3 hf3
  refine v_aload_n hX 0 rfl (atL dAX1_init_0 20 rfl) ?_
  have hr5 := hw4.fr (k := 31) (i := 28) (hfr (31, 28) (by decide)) (by decide)
  refine nw_X1_21 hX (i := 28) hr5 (by rw [hR]; exact ⟨Nat.le_of_ble_eq_true rfl, Nat.le_of_ble_eq_true rfl⟩) (atL dAX1_init_0 21 rfl) (fun a5 => ?_)
  refine v_dup hX rfl (atL dAX1_init_0 22 rfl) ?_
  refine v_bipush hX (by decide +kernel) (atL dAX1_init_0 23 rfl) ?_
  refine v_callI hX (As := [.int (iI 32)]) (rest := [.ref a5, .ref o]) (c_X4_init _ _ _ (i := 28) (o := a5) (n := 32) rfl wup_new wup_at (wup_fr (hw4.fr (hfr (1, 28) (by decide)) (by decide)) (by decide)) (wup_fr (hw4.fr (hfr (2, 28) (by decide)) (by decide)) (by decide)) su_s (F21.z (F21.su (ks := [1]) (by decide)) (by decide) (hf4.z (by decide) (hz 0 _ _ (by decide)))) (fun _ => (F21.z (F21.su (ks := [1]) (by decide)) (by decide) (hf4.z (by decide) (hz 1 _ _ (by decide)))))) li_X1_23 rfl (by rw [hR]; exact ⟨Nat.le_of_ble_eq_true rfl, Nat.le_of_ble_eq_true rfl⟩) (by rw [hR]; exact ⟨Nat.le_of_ble_eq_true rfl, Nat.le_of_ble_eq_true rfl⟩) rfl (Nat.le_of_ble_eq_true rfl) (atL dAX1_init_0 24 rfl) (fun _ w5 σ5 hp5 => ?_)
  obtain ⟨hwt5, hF5⟩ := hp5
  obtain ⟨hw5, ha5⟩ := Wad.mk hw4 hr5 hwt5
  have hn5 : σ5 21 8 0 = 4 := hF5.n (by decide) ((su_i (by decide)).trans hm4)
  replace hF5 : F21 [1, 8] σ σ5 := (hf4.tr (F21.su (ks := [1]) (by decide)) (by decide)).tr hF5 (by decide)
  clear hwt5 hr5
  show V X (7, 376) w5 _ _ σ5 [.ref a5, .ref o]
  refine v_eq2 ha5 ((hw5.2 _ _ hl).trans ho) (rp_X1_30 hX hnm (hw5.old hl) (hw5.new (by decide)) hn5 (atL dAX1_init_0 25 rfl) ?_)
  have hm5 : su σ5 21 8 0 (((4 : Nat) : Int) + 1) 21 8 0 = 5 := su_s
  have hf5 : F21 [1, 8] σ (su σ5 21 8 0 (((4 : Nat) : Int) + 1)) := hF5.tr (F21.su (ks := [8]) (by decide)) (by decide)
  obtain ⟨τ5, hs5⟩ : ∃ q, su σ5 21 8 0 (((4 : Nat) : Int) + 1) = q := ⟨_, rfl⟩
  rw [hs5] at hm5 hf5
  rw [hs5]
  clear hs5 hn5 hF5 ha5 hw4 hm4 hf4
  refine v_done (k := 8) (i := 0) (by decide) (by decide) (hw5.old hl) (hw5.fr (hfr (8, 0) (by decide)) (by decide)) (fun q hq => done_mn hm5 rfl (by decide) hq) (fun D g ad b H hb => ?_) ?_
  · have e : cont g ad τ5 8 0 = cont g ad τ5 38 0 := done_at hm5 rfl (by decide) (fun d hd hd0 => hf5.z (fun e => absurd (show d.2.1 < 15 from (by decide : ∀ d ∈ tp 8 0, d.1 ≠ 0 → d.2.1 < 15) d hd hd0) (by omega)) (hz _ _ _ ((by decide : ∀ d ∈ tp 8 0, d.1 ≠ 0 → d.2.1 < 15) d hd hd0)))
    rw [e]
    exact hb
  · exact v_vret hX (atL dAX1_init_0 26 rfl) (hret () _ _ ⟨Wto.of hw5 hl (hw5.fr (hfr (8, 0) (by decide)) (by decide)) (by decide), hf5⟩ _ ⟨Nat.le_of_ble_eq_true rfl, Nat.le_of_ble_eq_true rfl⟩)
