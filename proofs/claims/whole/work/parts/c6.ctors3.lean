/-! desk -/
def flX0 : List (Nat × Nat) := [(33, 7), (3, 7), (4, 7), (33, 8), (3, 8), (4, 8), (33, 9), (3, 9), (4, 9), (33, 10), (3, 10), (4, 10), (33, 11), (3, 11), (4, 11), (33, 12), (3, 12), (4, 12), (33, 13), (3, 13), (4, 13), (33, 14), (3, 14), (4, 14), (33, 15), (3, 15), (4, 15), (33, 16), (3, 16), (4, 16), (33, 17), (3, 17), (4, 17), (33, 18), (3, 18), (4, 18), (33, 19), (3, 19), (4, 19), (33, 20), (3, 20), (4, 20), (33, 21), (3, 21), (4, 21), (33, 22), (3, 22), (4, 22), (7, 0)]
def mlX0 : List (Nat × Nat) := [(3, 22), (4, 22), (3, 21), (4, 21), (3, 20), (4, 20), (3, 19), (4, 19), (3, 18), (4, 18), (3, 17), (4, 17), (3, 16), (4, 16), (3, 15), (4, 15), (3, 14), (4, 14), (3, 13), (4, 13), (3, 12), (4, 12), (3, 11), (4, 11), (3, 10), (4, 10), (3, 9), (4, 9), (3, 8), (4, 8), (3, 7), (4, 7)]
set_option maxHeartbeats 8000000 in
set_option maxRecDepth 100000 in
theorem c_X0_init (l : Launch) (w : Wl) (σ : St) {o : Nat} (hl : w.2 37 0) (ho : w.1 37 0 = o) (hfr : ∀ q ∈ flX0, ¬ w.2 q.1 q.2) (hc : σ 21 7 0 = 0) (hz : ∀ c i j, c < 15 → σ c i j = 0) : Cg l yX0_init cX0_init 1 none 2 33 32 1312 wN [.ref o] w σ (fun _ w' σ' => Wto w w' 7 0 mlX0 ∧ F21 [3, 7] σ σ') := by
  refine Cg.of (own := RX0) (lv := [(0, .ref o)]) (by decide +kernel) rfl (Nat.le_of_ble_eq_true rfl) rfl (fun X hX hxl hR hnm hcl hret => ?_)
  subst hxl
  have hw : Wad w w [] := Wad.rf
  have hf : F21 [3, 7] σ σ := F21.rf
  refine v_aload_n hX 0 rfl (atL dAX0_init_0 0 rfl) ?_
  refine oi_X0_3 hX (by rw [hR]; exact ⟨Nat.le_of_ble_eq_true rfl, Nat.le_of_ble_eq_true rfl⟩) (atL dAX0_init_0 1 rfl) ?_
  refine v_aload_n hX 0 rfl (atL dAX0_init_0 2 rfl) ?_
  have hr1 := hw.fr (k := 33) (i := 7) (hfr (33, 7) (by decide)) (by decide)
  refine nw_X0_9 hX (i := 7) hr1 (by rw [hR]; exact ⟨Nat.le_of_ble_eq_true rfl, Nat.le_of_ble_eq_true rfl⟩) (atL dAX0_init_0 3 rfl) (fun a1 => ?_)
  refine v_dup hX rfl (atL dAX0_init_0 4 rfl) ?_
  refine v_callI hX (As := []) (rest := [.ref a1, .ref o]) (c_X5_init _ _ _ (i := 7) (o := a1) wup_new wup_at (wup_fr (hw.fr (hfr (3, 7) (by decide)) (by decide)) (by decide)) (wup_fr (hw.fr (hfr (4, 7) (by decide)) (by decide)) (by decide)) su_s (F21.z (F21.su (ks := [3]) (by decide)) (by decide) (hf.z (by decide) (hz 2 _ _ (by decide)))) (fun _ => (F21.z (F21.su (ks := [3]) (by decide)) (by decide) (hf.z (by decide) (hz 3 _ _ (by decide)))))) li_X0_11 rfl (by rw [hR]; exact ⟨Nat.le_of_ble_eq_true rfl, Nat.le_of_ble_eq_true rfl⟩) (by rw [hR]; exact ⟨Nat.le_of_ble_eq_true rfl, Nat.le_of_ble_eq_true rfl⟩) rfl (Nat.le_of_ble_eq_true rfl) (atL dAX0_init_0 5 rfl) (fun _ w1 σ1 hp1 => ?_)
  obtain ⟨hwt1, hF1⟩ := hp1
  obtain ⟨hw1, ha1⟩ := Wad.mk hw hr1 hwt1
  have hn1 : σ1 21 7 0 = 0 := hF1.n (by decide) ((su_i (by decide)).trans hc)
  replace hF1 : F21 [3, 7] σ σ1 := (hf.tr (F21.su (ks := [3]) (by decide)) (by decide)).tr hF1 (by decide)
  clear hwt1 hr1
  show V X (2, 82) w1 _ _ σ1 [.ref a1, .ref o]
  refine v_eq2 ha1 ((hw1.2 _ _ hl).trans ho) (rp_X0_12 hX hnm (hw1.old hl) (hw1.new (by decide)) hn1 (atL dAX0_init_0 6 rfl) ?_)
  have hm1 : su σ1 21 7 0 (((0 : Nat) : Int) + 1) 21 7 0 = 1 := su_s
  have hf1 : F21 [3, 7] σ (su σ1 21 7 0 (((0 : Nat) : Int) + 1)) := hF1.tr (F21.su (ks := [7]) (by decide)) (by decide)
  obtain ⟨τ1, hs1⟩ : ∃ q, su σ1 21 7 0 (((0 : Nat) : Int) + 1) = q := ⟨_, rfl⟩
  rw [hs1] at hm1 hf1
  rw [hs1]
  clear hs1 hn1 hF1 ha1
  refine v_aload_n hX 0 rfl (atL dAX0_init_0 7 rfl) ?_
  have hr2 := hw1.fr (k := 33) (i := 8) (hfr (33, 8) (by decide)) (by decide)
  refine nw_X0_9 hX (i := 8) hr2 (by rw [hR]; exact ⟨Nat.le_of_ble_eq_true rfl, Nat.le_of_ble_eq_true rfl⟩) (atL dAX0_init_0 8 rfl) (fun a2 => ?_)
  refine v_dup hX rfl (atL dAX0_init_0 9 rfl) ?_
  refine v_callI hX (As := []) (rest := [.ref a2, .ref o]) (c_X5_init _ _ _ (i := 8) (o := a2) wup_new wup_at (wup_fr (hw1.fr (hfr (3, 8) (by decide)) (by decide)) (by decide)) (wup_fr (hw1.fr (hfr (4, 8) (by decide)) (by decide)) (by decide)) su_s (F21.z (F21.su (ks := [3]) (by decide)) (by decide) (hf1.z (by decide) (hz 2 _ _ (by decide)))) (fun _ => (F21.z (F21.su (ks := [3]) (by decide)) (by decide) (hf1.z (by decide) (hz 3 _ _ (by decide)))))) li_X0_11 rfl (by rw [hR]; exact ⟨Nat.le_of_ble_eq_true rfl, Nat.le_of_ble_eq_true rfl⟩) (by rw [hR]; exact ⟨Nat.le_of_ble_eq_true rfl, Nat.le_of_ble_eq_true rfl⟩) rfl (Nat.le_of_ble_eq_true rfl) (atL dAX0_init_0 10 rfl) (fun _ w2 σ2 hp2 => ?_)
  obtain ⟨hwt2, hF2⟩ := hp2
  obtain ⟨hw2, ha2⟩ := Wad.mk hw1 hr2 hwt2
  have hn2 : σ2 21 7 0 = 1 := hF2.n (by decide) ((su_i (by decide)).trans hm1)
  replace hF2 : F21 [3, 7] σ σ2 := (hf1.tr (F21.su (ks := [3]) (by decide)) (by decide)).tr hF2 (by decide)
  clear hwt2 hr2
  show V X (4, 164) w2 _ _ σ2 [.ref a2, .ref o]
  refine v_eq2 ha2 ((hw2.2 _ _ hl).trans ho) (rp_X0_18 hX hnm (hw2.old hl) (hw2.new (by decide)) hn2 (atL dAX0_init_0 11 rfl) ?_)
  have hm2 : su σ2 21 7 0 (((1 : Nat) : Int) + 1) 21 7 0 = 2 := su_s
  have hf2 : F21 [3, 7] σ (su σ2 21 7 0 (((1 : Nat) : Int) + 1)) := hF2.tr (F21.su (ks := [7]) (by decide)) (by decide)
  obtain ⟨τ2, hs2⟩ : ∃ q, su σ2 21 7 0 (((1 : Nat) : Int) + 1) = q := ⟨_, rfl⟩
  rw [hs2] at hm2 hf2
  rw [hs2]
  clear hs2 hn2 hF2 ha2 hw1 hm1 hf1
  refine v_aload_n hX 0 rfl (atL dAX0_init_0 12 rfl) ?_
  refine v_iconst hX (atL dAX0_init_0 13 rfl) ?_
  refine v_eq1 ((hw2.2 _ _ hl).trans ho) (zp_X0_21 hX hnm (hw2.old hl) hm2 (atL dAX0_init_0 14 rfl) ?_)
  refine v_aload_n hX 0 rfl (atL dAX0_init_0 15 rfl) ?_
  have hr4 := hw2.fr (k := 33) (i := 9) (hfr (33, 9) (by decide)) (by decide)
  refine nw_X0_9 hX (i := 9) hr4 (by rw [hR]; exact ⟨Nat.le_of_ble_eq_true rfl, Nat.le_of_ble_eq_true rfl⟩) (atL dAX0_init_0 16 rfl) (fun a4 => ?_)
  refine v_dup hX rfl (atL dAX0_init_0 17 rfl) ?_
  refine v_callI hX (As := []) (rest := [.ref a4, .ref o]) (c_X5_init _ _ _ (i := 9) (o := a4) wup_new wup_at (wup_fr (hw2.fr (hfr (3, 9) (by decide)) (by decide)) (by decide)) (wup_fr (hw2.fr (hfr (4, 9) (by decide)) (by decide)) (by decide)) su_s (F21.z (F21.su (ks := [3]) (by decide)) (by decide) (hf2.z (by decide) (hz 2 _ _ (by decide)))) (fun _ => (F21.z (F21.su (ks := [3]) (by decide)) (by decide) (hf2.z (by decide) (hz 3 _ _ (by decide)))))) li_X0_11 rfl (by rw [hR]; exact ⟨Nat.le_of_ble_eq_true rfl, Nat.le_of_ble_eq_true rfl⟩) (by rw [hR]; exact ⟨Nat.le_of_ble_eq_true rfl, Nat.le_of_ble_eq_true rfl⟩) rfl (Nat.le_of_ble_eq_true rfl) (atL dAX0_init_0 18 rfl) (fun _ w4 σ4 hp4 => ?_)
  obtain ⟨hwt4, hF4⟩ := hp4
  obtain ⟨hw4, ha4⟩ := Wad.mk hw2 hr4 hwt4
  have hn4 : σ4 21 7 0 = 2 := hF4.n (by decide) ((su_i (by decide)).trans hm2)
  replace hF4 : F21 [3, 7] σ σ4 := (hf2.tr (F21.su (ks := [3]) (by decide)) (by decide)).tr hF4 (by decide)
  clear hwt4 hr4
  show V X (6, 246) w4 _ _ σ4 [.ref a4, .ref o]
  refine v_eq2 ha4 ((hw4.2 _ _ hl).trans ho) (rp_X0_25 hX hnm (hw4.old hl) (hw4.new (by decide)) hn4 (atL dAX0_init_0 19 rfl) ?_)
  have hm4 : su σ4 21 7 0 (((3 : Nat) : Int) + 1) 21 7 0 = 4 := su_s
  have hf4 : F21 [3, 7] σ (su σ4 21 7 0 (((3 : Nat) : Int) + 1)) := hF4.tr (F21.su (ks := [7]) (by decide)) (by decide)
  obtain ⟨τ4, hs4⟩ : ∃ q, su σ4 21 7 0 (((3 : Nat) : Int) + 1) = q := ⟨_, rfl⟩
  rw [hs4] at hm4 hf4
  rw [hs4]
  clear hs4 hn4 hF4 ha4 hw2 hm2 hf2
  refine v_aload_n hX 0 rfl (atL dAX0_init_0 20 rfl) ?_
  have hr5 := hw4.fr (k := 33) (i := 10) (hfr (33, 10) (by decide)) (by decide)
  refine nw_X0_9 hX (i := 10) hr5 (by rw [hR]; exact ⟨Nat.le_of_ble_eq_true rfl, Nat.le_of_ble_eq_true rfl⟩) (atL dAX0_init_0 21 rfl) (fun a5 => ?_)
  refine v_dup hX rfl (atL dAX0_init_0 22 rfl) ?_
  refine v_callI hX (As := []) (rest := [.ref a5, .ref o]) (c_X5_init _ _ _ (i := 10) (o := a5) wup_new wup_at (wup_fr (hw4.fr (hfr (3, 10) (by decide)) (by decide)) (by decide)) (wup_fr (hw4.fr (hfr (4, 10) (by decide)) (by decide)) (by decide)) su_s (F21.z (F21.su (ks := [3]) (by decide)) (by decide) (hf4.z (by decide) (hz 2 _ _ (by decide)))) (fun _ => (F21.z (F21.su (ks := [3]) (by decide)) (by decide) (hf4.z (by decide) (hz 3 _ _ (by decide)))))) li_X0_11 rfl (by rw [hR]; exact ⟨Nat.le_of_ble_eq_true rfl, Nat.le_of_ble_eq_true rfl⟩) (by rw [hR]; exact ⟨Nat.le_of_ble_eq_true rfl, Nat.le_of_ble_eq_true rfl⟩) rfl (Nat.le_of_ble_eq_true rfl) (atL dAX0_init_0 23 rfl) (fun _ w5 σ5 hp5 => ?_)
  obtain ⟨hwt5, hF5⟩ := hp5
  obtain ⟨hw5, ha5⟩ := Wad.mk hw4 hr5 hwt5
  have hn5 : σ5 21 7 0 = 4 := hF5.n (by decide) ((su_i (by decide)).trans hm4)
  replace hF5 : F21 [3, 7] σ σ5 := (hf4.tr (F21.su (ks := [3]) (by decide)) (by decide)).tr hF5 (by decide)
  clear hwt5 hr5
  show V X (8, 328) w5 _ _ σ5 [.ref a5, .ref o]
  refine v_eq2 ha5 ((hw5.2 _ _ hl).trans ho) (rp_X0_28 hX hnm (hw5.old hl) (hw5.new (by decide)) hn5 (atL dAX0_init_0 24 rfl) ?_)
  have hm5 : su σ5 21 7 0 (((4 : Nat) : Int) + 1) 21 7 0 = 5 := su_s
  have hf5 : F21 [3, 7] σ (su σ5 21 7 0 (((4 : Nat) : Int) + 1)) := hF5.tr (F21.su (ks := [7]) (by decide)) (by decide)
  obtain ⟨τ5, hs5⟩ : ∃ q, su σ5 21 7 0 (((4 : Nat) : Int) + 1) = q := ⟨_, rfl⟩
  rw [hs5] at hm5 hf5
  rw [hs5]
  clear hs5 hn5 hF5 ha5 hw4 hm4 hf4
  refine v_aload_n hX 0 rfl (atL dAX0_init_0 25 rfl) ?_
  have hr6 := hw5.fr (k := 33) (i := 11) (hfr (33, 11) (by decide)) (by decide)
  refine nw_X0_9 hX (i := 11) hr6 (by rw [hR]; exact ⟨Nat.le_of_ble_eq_true rfl, Nat.le_of_ble_eq_true rfl⟩) (atL dAX0_init_0 26 rfl) (fun a6 => ?_)
  refine v_dup hX rfl (atL dAX0_init_0 27 rfl) ?_
  refine v_callI hX (As := []) (rest := [.ref a6, .ref o]) (c_X5_init _ _ _ (i := 11) (o := a6) wup_new wup_at (wup_fr (hw5.fr (hfr (3, 11) (by decide)) (by decide)) (by decide)) (wup_fr (hw5.fr (hfr (4, 11) (by decide)) (by decide)) (by decide)) su_s (F21.z (F21.su (ks := [3]) (by decide)) (by decide) (hf5.z (by decide) (hz 2 _ _ (by decide)))) (fun _ => (F21.z (F21.su (ks := [3]) (by decide)) (by decide) (hf5.z (by decide) (hz 3 _ _ (by decide)))))) li_X0_11 rfl (by rw [hR]; exact ⟨Nat.le_of_ble_eq_true rfl, Nat.le_of_ble_eq_true rfl⟩) (by rw [hR]; exact ⟨Nat.le_of_ble_eq_true rfl, Nat.le_of_ble_eq_true rfl⟩) rfl (Nat.le_of_ble_eq_true rfl) (atL dAX0_init_0 28 rfl) (fun _ w6 σ6 hp6 => ?_)
  obtain ⟨hwt6, hF6⟩ := hp6
  obtain ⟨hw6, ha6⟩ := Wad.mk hw5 hr6 hwt6
  have hn6 : σ6 21 7 0 = 5 := hF6.n (by decide) ((su_i (by decide)).trans hm5)
  replace hF6 : F21 [3, 7] σ σ6 := (hf5.tr (F21.su (ks := [3]) (by decide)) (by decide)).tr hF6 (by decide)
  clear hwt6 hr6
  show V X (10, 410) w6 _ _ σ6 [.ref a6, .ref o]
  refine v_eq2 ha6 ((hw6.2 _ _ hl).trans ho) (rp_X0_31 hX hnm (hw6.old hl) (hw6.new (by decide)) hn6 (atL dAX0_init_0 29 rfl) ?_)
  have hm6 : su σ6 21 7 0 (((5 : Nat) : Int) + 1) 21 7 0 = 6 := su_s
  have hf6 : F21 [3, 7] σ (su σ6 21 7 0 (((5 : Nat) : Int) + 1)) := hF6.tr (F21.su (ks := [7]) (by decide)) (by decide)
  obtain ⟨τ6, hs6⟩ : ∃ q, su σ6 21 7 0 (((5 : Nat) : Int) + 1) = q := ⟨_, rfl⟩
  rw [hs6] at hm6 hf6
  rw [hs6]
  clear hs6 hn6 hF6 ha6 hw5 hm5 hf5
  refine v_aload_n hX 0 rfl (atL dAX0_init_0 30 rfl) ?_
  have hr7 := hw6.fr (k := 33) (i := 12) (hfr (33, 12) (by decide)) (by decide)
  refine nw_X0_9 hX (i := 12) hr7 (by rw [hR]; exact ⟨Nat.le_of_ble_eq_true rfl, Nat.le_of_ble_eq_true rfl⟩) (atL dAX0_init_0 31 rfl) (fun a7 => ?_)
  refine v_dup hX rfl (atL dAX0_init_0 32 rfl) ?_
  refine v_callI hX (As := []) (rest := [.ref a7, .ref o]) (c_X5_init _ _ _ (i := 12) (o := a7) wup_new wup_at (wup_fr (hw6.fr (hfr (3, 12) (by decide)) (by decide)) (by decide)) (wup_fr (hw6.fr (hfr (4, 12) (by decide)) (by decide)) (by decide)) su_s (F21.z (F21.su (ks := [3]) (by decide)) (by decide) (hf6.z (by decide) (hz 2 _ _ (by decide)))) (fun _ => (F21.z (F21.su (ks := [3]) (by decide)) (by decide) (hf6.z (by decide) (hz 3 _ _ (by decide)))))) li_X0_11 rfl (by rw [hR]; exact ⟨Nat.le_of_ble_eq_true rfl, Nat.le_of_ble_eq_true rfl⟩) (by rw [hR]; exact ⟨Nat.le_of_ble_eq_true rfl, Nat.le_of_ble_eq_true rfl⟩) rfl (Nat.le_of_ble_eq_true rfl) (atL dAX0_init_0 33 rfl) (fun _ w7 σ7 hp7 => ?_)
  obtain ⟨hwt7, hF7⟩ := hp7
  obtain ⟨hw7, ha7⟩ := Wad.mk hw6 hr7 hwt7
  have hn7 : σ7 21 7 0 = 6 := hF7.n (by decide) ((su_i (by decide)).trans hm6)
  replace hF7 : F21 [3, 7] σ σ7 := (hf6.tr (F21.su (ks := [3]) (by decide)) (by decide)).tr hF7 (by decide)
  clear hwt7 hr7
  show V X (12, 492) w7 _ _ σ7 [.ref a7, .ref o]
  refine v_eq2 ha7 ((hw7.2 _ _ hl).trans ho) (rp_X0_34 hX hnm (hw7.old hl) (hw7.new (by decide)) hn7 (atL dAX0_init_0 34 rfl) ?_)
  have hm7 : su σ7 21 7 0 (((6 : Nat) : Int) + 1) 21 7 0 = 7 := su_s
  have hf7 : F21 [3, 7] σ (su σ7 21 7 0 (((6 : Nat) : Int) + 1)) := hF7.tr (F21.su (ks := [7]) (by decide)) (by decide)
  obtain ⟨τ7, hs7⟩ : ∃ q, su σ7 21 7 0 (((6 : Nat) : Int) + 1) = q := ⟨_, rfl⟩
  rw [hs7] at hm7 hf7
  rw [hs7]
  clear hs7 hn7 hF7 ha7 hw6 hm6 hf6
  refine v_aload_n hX 0 rfl (atL dAX0_init_0 35 rfl) ?_
  have hr8 := hw7.fr (k := 33) (i := 13) (hfr (33, 13) (by decide)) (by decide)
  refine nw_X0_9 hX (i := 13) hr8 (by rw [hR]; exact ⟨Nat.le_of_ble_eq_true rfl, Nat.le_of_ble_eq_true rfl⟩) (atL dAX0_init_0 36 rfl) (fun a8 => ?_)
  refine v_dup hX rfl (atL dAX0_init_0 37 rfl) ?_
  refine v_callI hX (As := []) (rest := [.ref a8, .ref o]) (c_X5_init _ _ _ (i := 13) (o := a8) wup_new wup_at (wup_fr (hw7.fr (hfr (3, 13) (by decide)) (by decide)) (by decide)) (wup_fr (hw7.fr (hfr (4, 13) (by decide)) (by decide)) (by decide)) su_s (F21.z (F21.su (ks := [3]) (by decide)) (by decide) (hf7.z (by decide) (hz 2 _ _ (by decide)))) (fun _ => (F21.z (F21.su (ks := [3]) (by decide)) (by decide) (hf7.z (by decide) (hz 3 _ _ (by decide)))))) li_X0_11 rfl (by rw [hR]; exact ⟨Nat.le_of_ble_eq_true rfl, Nat.le_of_ble_eq_true rfl⟩) (by rw [hR]; exact ⟨Nat.le_of_ble_eq_true rfl, Nat.le_of_ble_eq_true rfl⟩) rfl (Nat.le_of_ble_eq_true rfl) (atL dAX0_init_0 38 rfl) (fun _ w8 σ8 hp8 => ?_)
  obtain ⟨hwt8, hF8⟩ := hp8
  obtain ⟨hw8, ha8⟩ := Wad.mk hw7 hr8 hwt8
  have hn8 : σ8 21 7 0 = 7 := hF8.n (by decide) ((su_i (by decide)).trans hm7)
  replace hF8 : F21 [3, 7] σ σ8 := (hf7.tr (F21.su (ks := [3]) (by decide)) (by decide)).tr hF8 (by decide)
  clear hwt8 hr8
  show V X (14, 574) w8 _ _ σ8 [.ref a8, .ref o]
  refine v_eq2 ha8 ((hw8.2 _ _ hl).trans ho) (rp_X0_37 hX hnm (hw8.old hl) (hw8.new (by decide)) hn8 (atL dAX0_init_0 39 rfl) ?_)
  have hm8 : su σ8 21 7 0 (((7 : Nat) : Int) + 1) 21 7 0 = 8 := su_s
  have hf8 : F21 [3, 7] σ (su σ8 21 7 0 (((7 : Nat) : Int) + 1)) := hF8.tr (F21.su (ks := [7]) (by decide)) (by decide)
  obtain ⟨τ8, hs8⟩ : ∃ q, su σ8 21 7 0 (((7 : Nat) : Int) + 1) = q := ⟨_, rfl⟩
  rw [hs8] at hm8 hf8
  rw [hs8]
  clear hs8 hn8 hF8 ha8 hw7 hm7 hf7
  refine v_aload_n hX 0 rfl (atL dAX0_init_0 40 rfl) ?_
  have hr9 := hw8.fr (k := 33) (i := 14) (hfr (33, 14) (by decide)) (by decide)
  refine nw_X0_9 hX (i := 14) hr9 (by rw [hR]; exact ⟨Nat.le_of_ble_eq_true rfl, Nat.le_of_ble_eq_true rfl⟩) (atL dAX0_init_0 41 rfl) (fun a9 => ?_)
  refine v_dup hX rfl (atL dAX0_init_0 42 rfl) ?_
  refine v_callI hX (As := []) (rest := [.ref a9, .ref o]) (c_X5_init _ _ _ (i := 14) (o := a9) wup_new wup_at (wup_fr (hw8.fr (hfr (3, 14) (by decide)) (by decide)) (by decide)) (wup_fr (hw8.fr (hfr (4, 14) (by decide)) (by decide)) (by decide)) su_s (F21.z (F21.su (ks := [3]) (by decide)) (by decide) (hf8.z (by decide) (hz 2 _ _ (by decide)))) (fun _ => (F21.z (F21.su (ks := [3]) (by decide)) (by decide) (hf8.z (by decide) (hz 3 _ _ (by decide)))))) li_X0_11 rfl (by rw [hR]; exact ⟨Nat.le_of_ble_eq_true rfl, Nat.le_of_ble_eq_true rfl⟩) (by rw [hR]; exact ⟨Nat.le_of_ble_eq_true rfl, Nat.le_of_ble_eq_true rfl⟩) rfl (Nat.le_of_ble_eq_true rfl) (atL dAX0_init_0 43 rfl) (fun _ w9 σ9 hp9 => ?_)
  obtain ⟨hwt9, hF9⟩ := hp9
  obtain ⟨hw9, ha9⟩ := Wad.mk hw8 hr9 hwt9
  have hn9 : σ9 21 7 0 = 8 := hF9.n (by decide) ((su_i (by decide)).trans hm8)
  replace hF9 : F21 [3, 7] σ σ9 := (hf8.tr (F21.su (ks := [3]) (by decide)) (by decide)).tr hF9 (by decide)
  clear hwt9 hr9
  show V X (16, 656) w9 _ _ σ9 [.ref a9, .ref o]
  refine v_eq2 ha9 ((hw9.2 _ _ hl).trans ho) (rp_X0_40 hX hnm (hw9.old hl) (hw9.new (by decide)) hn9 (atL dAX0_init_0 44 rfl) ?_)
  have hm9 : su σ9 21 7 0 (((8 : Nat) : Int) + 1) 21 7 0 = 9 := su_s
  have hf9 : F21 [3, 7] σ (su σ9 21 7 0 (((8 : Nat) : Int) + 1)) := hF9.tr (F21.su (ks := [7]) (by decide)) (by decide)
  obtain ⟨τ9, hs9⟩ : ∃ q, su σ9 21 7 0 (((8 : Nat) : Int) + 1) = q := ⟨_, rfl⟩
  rw [hs9] at hm9 hf9
  rw [hs9]
  clear hs9 hn9 hF9 ha9 hw8 hm8 hf8
  refine v_aload_n hX 0 rfl (atL dAX0_init_0 45 rfl) ?_
  have hr10 := hw9.fr (k := 33) (i := 15) (hfr (33, 15) (by decide)) (by decide)
  refine nw_X0_9 hX (i := 15) hr10 (by rw [hR]; exact ⟨Nat.le_of_ble_eq_true rfl, Nat.le_of_ble_eq_true rfl⟩) (atL dAX0_init_0 46 rfl) (fun a10 => ?_)
  refine v_dup hX rfl (atL dAX0_init_0 47 rfl) ?_
  refine v_callI hX (As := []) (rest := [.ref a10, .ref o]) (c_X5_init _ _ _ (i := 15) (o := a10) wup_new wup_at (wup_fr (hw9.fr (hfr (3, 15) (by decide)) (by decide)) (by decide)) (wup_fr (hw9.fr (hfr (4, 15) (by decide)) (by decide)) (by decide)) su_s (F21.z (F21.su (ks := [3]) (by decide)) (by decide) (hf9.z (by decide) (hz 2 _ _ (by decide)))) (fun _ => (F21.z (F21.su (ks := [3]) (by decide)) (by decide) (hf9.z (by decide) (hz 3 _ _ (by decide)))))) li_X0_11 rfl (by rw [hR]; exact ⟨Nat.le_of_ble_eq_true rfl, Nat.le_of_ble_eq_true rfl⟩) (by rw [hR]; exact ⟨Nat.le_of_ble_eq_true rfl, Nat.le_of_ble_eq_true rfl⟩) rfl (Nat.le_of_ble_eq_true rfl) (atL dAX0_init_0 48 rfl) (fun _ w10 σ10 hp10 => ?_)
  obtain ⟨hwt10, hF10⟩ := hp10
  obtain ⟨hw10, ha10⟩ := Wad.mk hw9 hr10 hwt10
  have hn10 : σ10 21 7 0 = 9 := hF10.n (by decide) ((su_i (by decide)).trans hm9)
  replace hF10 : F21 [3, 7] σ σ10 := (hf9.tr (F21.su (ks := [3]) (by decide)) (by decide)).tr hF10 (by decide)
  clear hwt10 hr10
  show V X (18, 738) w10 _ _ σ10 [.ref a10, .ref o]
  refine v_eq2 ha10 ((hw10.2 _ _ hl).trans ho) (rp_X0_43 hX hnm (hw10.old hl) (hw10.new (by decide)) hn10 (atL dAX0_init_0 49 rfl) ?_)
  have hm10 : su σ10 21 7 0 (((9 : Nat) : Int) + 1) 21 7 0 = 10 := su_s
  have hf10 : F21 [3, 7] σ (su σ10 21 7 0 (((9 : Nat) : Int) + 1)) := hF10.tr (F21.su (ks := [7]) (by decide)) (by decide)
  obtain ⟨τ10, hs10⟩ : ∃ q, su σ10 21 7 0 (((9 : Nat) : Int) + 1) = q := ⟨_, rfl⟩
  rw [hs10] at hm10 hf10
  rw [hs10]
  clear hs10 hn10 hF10 ha10 hw9 hm9 hf9
  refine v_aload_n hX 0 rfl (atL dAX0_init_0 50 rfl) ?_
  have hr11 := hw10.fr (k := 33) (i := 16) (hfr (33, 16) (by decide)) (by decide)
  refine nw_X0_9 hX (i := 16) hr11 (by rw [hR]; exact ⟨Nat.le_of_ble_eq_true rfl, Nat.le_of_ble_eq_true rfl⟩) (atL dAX0_init_0 51 rfl) (fun a11 => ?_)
  refine v_dup hX rfl (atL dAX0_init_0 52 rfl) ?_
  refine v_callI hX (As := []) (rest := [.ref a11, .ref o]) (c_X5_init _ _ _ (i := 16) (o := a11) wup_new wup_at (wup_fr (hw10.fr (hfr (3, 16) (by decide)) (by decide)) (by decide)) (wup_fr (hw10.fr (hfr (4, 16) (by decide)) (by decide)) (by decide)) su_s (F21.z (F21.su (ks := [3]) (by decide)) (by decide) (hf10.z (by decide) (hz 2 _ _ (by decide)))) (fun _ => (F21.z (F21.su (ks := [3]) (by decide)) (by decide) (hf10.z (by decide) (hz 3 _ _ (by decide)))))) li_X0_11 rfl (by rw [hR]; exact ⟨Nat.le_of_ble_eq_true rfl, Nat.le_of_ble_eq_true rfl⟩) (by rw [hR]; exact ⟨Nat.le_of_ble_eq_true rfl, Nat.le_of_ble_eq_true rfl⟩) rfl (Nat.le_of_ble_eq_true rfl) (atL dAX0_init_0 53 rfl) (fun _ w11 σ11 hp11 => ?_)
  obtain ⟨hwt11, hF11⟩ := hp11
  obtain ⟨hw11, ha11⟩ := Wad.mk hw10 hr11 hwt11
  have hn11 : σ11 21 7 0 = 10 := hF11.n (by decide) ((su_i (by decide)).trans hm10)
  replace hF11 : F21 [3, 7] σ σ11 := (hf10.tr (F21.su (ks := [3]) (by decide)) (by decide)).tr hF11 (by decide)
  clear hwt11 hr11
  show V X (20, 820) w11 _ _ σ11 [.ref a11, .ref o]
  refine v_eq2 ha11 ((hw11.2 _ _ hl).trans ho) (rp_X0_46 hX hnm (hw11.old hl) (hw11.new (by decide)) hn11 (atL dAX0_init_0 54 rfl) ?_)
  have hm11 : su σ11 21 7 0 (((10 : Nat) : Int) + 1) 21 7 0 = 11 := su_s
  have hf11 : F21 [3, 7] σ (su σ11 21 7 0 (((10 : Nat) : Int) + 1)) := hF11.tr (F21.su (ks := [7]) (by decide)) (by decide)
  obtain ⟨τ11, hs11⟩ : ∃ q, su σ11 21 7 0 (((10 : Nat) : Int) + 1) = q := ⟨_, rfl⟩
  rw [hs11] at hm11 hf11
  rw [hs11]
  clear hs11 hn11 hF11 ha11 hw10 hm10 hf10
  refine v_aload_n hX 0 rfl (atL dAX0_init_0 55 rfl) ?_
  have hr12 := hw11.fr (k := 33) (i := 17) (hfr (33, 17) (by decide)) (by decide)
  refine nw_X0_9 hX (i := 17) hr12 (by rw [hR]; exact ⟨Nat.le_of_ble_eq_true rfl, Nat.le_of_ble_eq_true rfl⟩) (atL dAX0_init_0 56 rfl) (fun a12 => ?_)
  refine v_dup hX rfl (atL dAX0_init_0 57 rfl) ?_
  refine v_callI hX (As := []) (rest := [.ref a12, .ref o]) (c_X5_init _ _ _ (i := 17) (o := a12) wup_new wup_at (wup_fr (hw11.fr (hfr (3, 17) (by decide)) (by decide)) (by decide)) (wup_fr (hw11.fr (hfr (4, 17) (by decide)) (by decide)) (by decide)) su_s (F21.z (F21.su (ks := [3]) (by decide)) (by decide) (hf11.z (by decide) (hz 2 _ _ (by decide)))) (fun _ => (F21.z (F21.su (ks := [3]) (by decide)) (by decide) (hf11.z (by decide) (hz 3 _ _ (by decide)))))) li_X0_11 rfl (by rw [hR]; exact ⟨Nat.le_of_ble_eq_true rfl, Nat.le_of_ble_eq_true rfl⟩) (by rw [hR]; exact ⟨Nat.le_of_ble_eq_true rfl, Nat.le_of_ble_eq_true rfl⟩) rfl (Nat.le_of_ble_eq_true rfl) (atL dAX0_init_0 58 rfl) (fun _ w12 σ12 hp12 => ?_)
  obtain ⟨hwt12, hF12⟩ := hp12
  obtain ⟨hw12, ha12⟩ := Wad.mk hw11 hr12 hwt12
  have hn12 : σ12 21 7 0 = 11 := hF12.n (by decide) ((su_i (by decide)).trans hm11)
  replace hF12 : F21 [3, 7] σ σ12 := (hf11.tr (F21.su (ks := [3]) (by decide)) (by decide)).tr hF12 (by decide)
  clear hwt12 hr12
  show V X (22, 902) w12 _ _ σ12 [.ref a12, .ref o]
  refine v_eq2 ha12 ((hw12.2 _ _ hl).trans ho) (rp_X0_49 hX hnm (hw12.old hl) (hw12.new (by decide)) hn12 (atL dAX0_init_0 59 rfl) ?_)
  have hm12 : su σ12 21 7 0 (((11 : Nat) : Int) + 1) 21 7 0 = 12 := su_s
  have hf12 : F21 [3, 7] σ (su σ12 21 7 0 (((11 : Nat) : Int) + 1)) := hF12.tr (F21.su (ks := [7]) (by decide)) (by decide)
  obtain ⟨τ12, hs12⟩ : ∃ q, su σ12 21 7 0 (((11 : Nat) : Int) + 1) = q := ⟨_, rfl⟩
  rw [hs12] at hm12 hf12
  rw [hs12]
  clear hs12 hn12 hF12 ha12 hw11 hm11 hf11
  refine v_aload_n hX 0 rfl (atL dAX0_init_1 0 rfl) ?_
  have hr13 := hw12.fr (k := 33) (i := 18) (hfr (33, 18) (by decide)) (by decide)
  refine nw_X0_9 hX (i := 18) hr13 (by rw [hR]; exact ⟨Nat.le_of_ble_eq_true rfl, Nat.le_of_ble_eq_true rfl⟩) (atL dAX0_init_1 1 rfl) (fun a13 => ?_)
  refine v_dup hX rfl (atL dAX0_init_1 2 rfl) ?_
  refine v_callI hX (As := []) (rest := [.ref a13, .ref o]) (c_X5_init _ _ _ (i := 18) (o := a13) wup_new wup_at (wup_fr (hw12.fr (hfr (3, 18) (by decide)) (by decide)) (by decide)) (wup_fr (hw12.fr (hfr (4, 18) (by decide)) (by decide)) (by decide)) su_s (F21.z (F21.su (ks := [3]) (by decide)) (by decide) (hf12.z (by decide) (hz 2 _ _ (by decide)))) (fun _ => (F21.z (F21.su (ks := [3]) (by decide)) (by decide) (hf12.z (by decide) (hz 3 _ _ (by decide)))))) li_X0_11 rfl (by rw [hR]; exact ⟨Nat.le_of_ble_eq_true rfl, Nat.le_of_ble_eq_true rfl⟩) (by rw [hR]; exact ⟨Nat.le_of_ble_eq_true rfl, Nat.le_of_ble_eq_true rfl⟩) rfl (Nat.le_of_ble_eq_true rfl) (atL dAX0_init_1 3 rfl) (fun _ w13 σ13 hp13 => ?_)
  obtain ⟨hwt13, hF13⟩ := hp13
  obtain ⟨hw13, ha13⟩ := Wad.mk hw12 hr13 hwt13
  have hn13 : σ13 21 7 0 = 12 := hF13.n (by decide) ((su_i (by decide)).trans hm12)
  replace hF13 : F21 [3, 7] σ σ13 := (hf12.tr (F21.su (ks := [3]) (by decide)) (by decide)).tr hF13 (by decide)
  clear hwt13 hr13
  show V X (24, 984) w13 _ _ σ13 [.ref a13, .ref o]
  refine v_eq2 ha13 ((hw13.2 _ _ hl).trans ho) (rp_X0_52 hX hnm (hw13.old hl) (hw13.new (by decide)) hn13 (atL dAX0_init_1 4 rfl) ?_)
  have hm13 : su σ13 21 7 0 (((12 : Nat) : Int) + 1) 21 7 0 = 13 := su_s
  have hf13 : F21 [3, 7] σ (su σ13 21 7 0 (((12 : Nat) : Int) + 1)) := hF13.tr (F21.su (ks := [7]) (by decide)) (by decide)
  obtain ⟨τ13, hs13⟩ : ∃ q, su σ13 21 7 0 (((12 : Nat) : Int) + 1) = q := ⟨_, rfl⟩
  rw [hs13] at hm13 hf13
  rw [hs13]
  clear hs13 hn13 hF13 ha13 hw12 hm12 hf12
  refine v_aload_n hX 0 rfl (atL dAX0_init_1 5 rfl) ?_
  have hr14 := hw13.fr (k := 33) (i := 19) (hfr (33, 19) (by decide)) (by decide)
  refine nw_X0_9 hX (i := 19) hr14 (by rw [hR]; exact ⟨Nat.le_of_ble_eq_true rfl, Nat.le_of_ble_eq_true rfl⟩) (atL dAX0_init_1 6 rfl) (fun a14 => ?_)
  refine v_dup hX rfl (atL dAX0_init_1 7 rfl) ?_
  refine v_callI hX (As := []) (rest := [.ref a14, .ref o]) (c_X5_init _ _ _ (i := 19) (o := a14) wup_new wup_at (wup_fr (hw13.fr (hfr (3, 19) (by decide)) (by decide)) (by decide)) (wup_fr (hw13.fr (hfr (4, 19) (by decide)) (by decide)) (by decide)) su_s (F21.z (F21.su (ks := [3]) (by decide)) (by decide) (hf13.z (by decide) (hz 2 _ _ (by decide)))) (fun _ => (F21.z (F21.su (ks := [3]) (by decide)) (by decide) (hf13.z (by decide) (hz 3 _ _ (by decide)))))) li_X0_11 rfl (by rw [hR]; exact ⟨Nat.le_of_ble_eq_true rfl, Nat.le_of_ble_eq_true rfl⟩) (by rw [hR]; exact ⟨Nat.le_of_ble_eq_true rfl, Nat.le_of_ble_eq_true rfl⟩) rfl (Nat.le_of_ble_eq_true rfl) (atL dAX0_init_1 8 rfl) (fun _ w14 σ14 hp14 => ?_)
  obtain ⟨hwt14, hF14⟩ := hp14
  obtain ⟨hw14, ha14⟩ := Wad.mk hw13 hr14 hwt14
  have hn14 : σ14 21 7 0 = 13 := hF14.n (by decide) ((su_i (by decide)).trans hm13)
  replace hF14 : F21 [3, 7] σ σ14 := (hf13.tr (F21.su (ks := [3]) (by decide)) (by decide)).tr hF14 (by decide)
  clear hwt14 hr14
  show V X (26, 1066) w14 _ _ σ14 [.ref a14, .ref o]
  refine v_eq2 ha14 ((hw14.2 _ _ hl).trans ho) (rp_X0_55 hX hnm (hw14.old hl) (hw14.new (by decide)) hn14 (atL dAX0_init_1 9 rfl) ?_)
  have hm14 : su σ14 21 7 0 (((13 : Nat) : Int) + 1) 21 7 0 = 14 := su_s
  have hf14 : F21 [3, 7] σ (su σ14 21 7 0 (((13 : Nat) : Int) + 1)) := hF14.tr (F21.su (ks := [7]) (by decide)) (by decide)
  obtain ⟨τ14, hs14⟩ : ∃ q, su σ14 21 7 0 (((13 : Nat) : Int) + 1) = q := ⟨_, rfl⟩
  rw [hs14] at hm14 hf14
  rw [hs14]
  clear hs14 hn14 hF14 ha14 hw13 hm13 hf13
  refine v_aload_n hX 0 rfl (atL dAX0_init_1 10 rfl) ?_
  have hr15 := hw14.fr (k := 33) (i := 20) (hfr (33, 20) (by decide)) (by decide)
  refine nw_X0_9 hX (i := 20) hr15 (by rw [hR]; exact ⟨Nat.le_of_ble_eq_true rfl, Nat.le_of_ble_eq_true rfl⟩) (atL dAX0_init_1 11 rfl) (fun a15 => ?_)
  refine v_dup hX rfl (atL dAX0_init_1 12 rfl) ?_
  refine v_callI hX (As := []) (rest := [.ref a15, .ref o]) (c_X5_init _ _ _ (i := 20) (o := a15) wup_new wup_at (wup_fr (hw14.fr (hfr (3, 20) (by decide)) (by decide)) (by decide)) (wup_fr (hw14.fr (hfr (4, 20) (by decide)) (by decide)) (by decide)) su_s (F21.z (F21.su (ks := [3]) (by decide)) (by decide) (hf14.z (by decide) (hz 2 _ _ (by decide)))) (fun _ => (F21.z (F21.su (ks := [3]) (by decide)) (by decide) (hf14.z (by decide) (hz 3 _ _ (by decide)))))) li_X0_11 rfl (by rw [hR]; exact ⟨Nat.le_of_ble_eq_true rfl, Nat.le_of_ble_eq_true rfl⟩) (by rw [hR]; exact ⟨Nat.le_of_ble_eq_true rfl, Nat.le_of_ble_eq_true rfl⟩) rfl (Nat.le_of_ble_eq_true rfl) (atL dAX0_init_1 13 rfl) (fun _ w15 σ15 hp15 => ?_)
  obtain ⟨hwt15, hF15⟩ := hp15
  obtain ⟨hw15, ha15⟩ := Wad.mk hw14 hr15 hwt15
  have hn15 : σ15 21 7 0 = 14 := hF15.n (by decide) ((su_i (by decide)).trans hm14)
  replace hF15 : F21 [3, 7] σ σ15 := (hf14.tr (F21.su (ks := [3]) (by decide)) (by decide)).tr hF15 (by decide)
  clear hwt15 hr15
  show V X (28, 1148) w15 _ _ σ15 [.ref a15, .ref o]
  refine v_eq2 ha15 ((hw15.2 _ _ hl).trans ho) (rp_X0_58 hX hnm (hw15.old hl) (hw15.new (by decide)) hn15 (atL dAX0_init_1 14 rfl) ?_)
  have hm15 : su σ15 21 7 0 (((14 : Nat) : Int) + 1) 21 7 0 = 15 := su_s
  have hf15 : F21 [3, 7] σ (su σ15 21 7 0 (((14 : Nat) : Int) + 1)) := hF15.tr (F21.su (ks := [7]) (by decide)) (by decide)
  obtain ⟨τ15, hs15⟩ : ∃ q, su σ15 21 7 0 (((14 : Nat) : Int) + 1) = q := ⟨_, rfl⟩
  rw [hs15] at hm15 hf15
  rw [hs15]
  clear hs15 hn15 hF15 ha15 hw14 hm14 hf14
  refine v_aload_n hX 0 rfl (atL dAX0_init_1 15 rfl) ?_
  have hr16 := hw15.fr (k := 33) (i := 21) (hfr (33, 21) (by decide)) (by decide)
  refine nw_X0_9 hX (i := 21) hr16 (by rw [hR]; exact ⟨Nat.le_of_ble_eq_true rfl, Nat.le_of_ble_eq_true rfl⟩) (atL dAX0_init_1 16 rfl) (fun a16 => ?_)
  refine v_dup hX rfl (atL dAX0_init_1 17 rfl) ?_
  refine v_callI hX (As := []) (rest := [.ref a16, .ref o]) (c_X5_init _ _ _ (i := 21) (o := a16) wup_new wup_at (wup_fr (hw15.fr (hfr (3, 21) (by decide)) (by decide)) (by decide)) (wup_fr (hw15.fr (hfr (4, 21) (by decide)) (by decide)) (by decide)) su_s (F21.z (F21.su (ks := [3]) (by decide)) (by decide) (hf15.z (by decide) (hz 2 _ _ (by decide)))) (fun _ => (F21.z (F21.su (ks := [3]) (by decide)) (by decide) (hf15.z (by decide) (hz 3 _ _ (by decide)))))) li_X0_11 rfl (by rw [hR]; exact ⟨Nat.le_of_ble_eq_true rfl, Nat.le_of_ble_eq_true rfl⟩) (by rw [hR]; exact ⟨Nat.le_of_ble_eq_true rfl, Nat.le_of_ble_eq_true rfl⟩) rfl (Nat.le_of_ble_eq_true rfl) (atL dAX0_init_1 18 rfl) (fun _ w16 σ16 hp16 => ?_)
  obtain ⟨hwt16, hF16⟩ := hp16
  obtain ⟨hw16, ha16⟩ := Wad.mk hw15 hr16 hwt16
  have hn16 : σ16 21 7 0 = 15 := hF16.n (by decide) ((su_i (by decide)).trans hm15)
  replace hF16 : F21 [3, 7] σ σ16 := (hf15.tr (F21.su (ks := [3]) (by decide)) (by decide)).tr hF16 (by decide)
  clear hwt16 hr16
  show V X (30, 1230) w16 _ _ σ16 [.ref a16, .ref o]
  refine v_eq2 ha16 ((hw16.2 _ _ hl).trans ho) (rp_X0_61 hX hnm (hw16.old hl) (hw16.new (by decide)) hn16 (atL dAX0_init_1 19 rfl) ?_)
  have hm16 : su σ16 21 7 0 (((15 : Nat) : Int) + 1) 21 7 0 = 16 := su_s
  have hf16 : F21 [3, 7] σ (su σ16 21 7 0 (((15 : Nat) : Int) + 1)) := hF16.tr (F21.su (ks := [7]) (by decide)) (by decide)
  obtain ⟨τ16, hs16⟩ : ∃ q, su σ16 21 7 0 (((15 : Nat) : Int) + 1) = q := ⟨_, rfl⟩
  rw [hs16] at hm16 hf16
  rw [hs16]
  clear hs16 hn16 hF16 ha16 hw15 hm15 hf15
  refine v_aload_n hX 0 rfl (atL dAX0_init_1 20 rfl) ?_
  have hr17 := hw16.fr (k := 33) (i := 22) (hfr (33, 22) (by decide)) (by decide)
  refine nw_X0_9 hX (i := 22) hr17 (by rw [hR]; exact ⟨Nat.le_of_ble_eq_true rfl, Nat.le_of_ble_eq_true rfl⟩) (atL dAX0_init_1 21 rfl) (fun a17 => ?_)
  refine v_dup hX rfl (atL dAX0_init_1 22 rfl) ?_
  refine v_callI hX (As := []) (rest := [.ref a17, .ref o]) (c_X5_init _ _ _ (i := 22) (o := a17) wup_new wup_at (wup_fr (hw16.fr (hfr (3, 22) (by decide)) (by decide)) (by decide)) (wup_fr (hw16.fr (hfr (4, 22) (by decide)) (by decide)) (by decide)) su_s (F21.z (F21.su (ks := [3]) (by decide)) (by decide) (hf16.z (by decide) (hz 2 _ _ (by decide)))) (fun _ => (F21.z (F21.su (ks := [3]) (by decide)) (by decide) (hf16.z (by decide) (hz 3 _ _ (by decide)))))) li_X0_11 rfl (by rw [hR]; exact ⟨Nat.le_of_ble_eq_true rfl, Nat.le_of_ble_eq_true rfl⟩) (by rw [hR]; exact ⟨Nat.le_of_ble_eq_true rfl, Nat.le_of_ble_eq_true rfl⟩) rfl (Nat.le_of_ble_eq_true rfl) (atL dAX0_init_1 23 rfl) (fun _ w17 σ17 hp17 => ?_)
  obtain ⟨hwt17, hF17⟩ := hp17
  obtain ⟨hw17, ha17⟩ := Wad.mk hw16 hr17 hwt17
  have hn17 : σ17 21 7 0 = 16 := hF17.n (by decide) ((su_i (by decide)).trans hm16)
  replace hF17 : F21 [3, 7] σ σ17 := (hf16.tr (F21.su (ks := [3]) (by decide)) (by decide)).tr hF17 (by decide)
  clear hwt17 hr17
  show V X (32, 1312) w17 _ _ σ17 [.ref a17, .ref o]
  refine v_eq2 ha17 ((hw17.2 _ _ hl).trans ho) (rp_X0_64 hX hnm (hw17.old hl) (hw17.new (by decide)) hn17 (atL dAX0_init_1 24 rfl) ?_)
  have hm17 : su σ17 21 7 0 (((16 : Nat) : Int) + 1) 21 7 0 = 17 := su_s
  have hf17 : F21 [3, 7] σ (su σ17 21 7 0 (((16 : Nat) : Int) + 1)) := hF17.tr (F21.su (ks := [7]) (by decide)) (by decide)
  obtain ⟨τ17, hs17⟩ : ∃ q, su σ17 21 7 0 (((16 : Nat) : Int) + 1) = q := ⟨_, rfl⟩
  rw [hs17] at hm17 hf17
  rw [hs17]
  clear hs17 hn17 hF17 ha17 hw16 hm16 hf16
  refine v_done (k := 7) (i := 0) (by decide) (by decide) (hw17.old hl) (hw17.fr (hfr (7, 0) (by decide)) (by decide)) (fun q hq => done_mn hm17 rfl (by decide) hq) (fun D g ad b H hb => ?_) ?_
  · have e : cont g ad τ17 7 0 = cont g ad τ17 37 0 := done_at hm17 rfl (by decide) (fun d hd hd0 => hf17.z (fun e => absurd (show d.2.1 < 15 from (by decide : ∀ d ∈ tp 7 0, d.1 ≠ 0 → d.2.1 < 15) d hd hd0) (by omega)) (hz _ _ _ ((by decide : ∀ d ∈ tp 7 0, d.1 ≠ 0 → d.2.1 < 15) d hd hd0)))
    rw [e]
    exact hb
  · exact v_vret hX (atL dAX0_init_1 25 rfl) (hret () _ _ ⟨Wto.of hw17 hl (hw17.fr (hfr (7, 0) (by decide)) (by decide)) (by decide), hf17⟩ _ ⟨Nat.le_of_ble_eq_true rfl, Nat.le_of_ble_eq_true rfl⟩)
