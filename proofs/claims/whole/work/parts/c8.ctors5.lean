/-! padder -/
def flX3 : List (Nat × Nat) := [(31, 29), (1, 29), (2, 29), (31, 30), (1, 30), (2, 30), (31, 31), (1, 31), (2, 31), (31, 32), (1, 32), (2, 32), (31, 33), (1, 33), (2, 33), (10, 0)]
def mlX3 : List (Nat × Nat) := [(1, 33), (2, 33), (1, 32), (2, 32), (1, 31), (2, 31), (1, 30), (2, 30), (1, 29), (2, 29)]
set_option maxHeartbeats 8000000 in
set_option maxRecDepth 100000 in
theorem c_X3_init (l : Launch) (w : Wl) (σ : St) {o : Nat} (hl : w.2 40 0) (ho : w.1 40 0 = o) {d : Nat} (hd : w.2 8 0) (hda : w.1 8 0 = d) (hfr : ∀ q ∈ flX3, ¬ w.2 q.1 q.2) (hc : σ 21 10 0 = 0) (hz : ∀ c i j, c < 15 → σ c i j = 0) : Cg l yX3_init cX3_init 2 none 2 34 10 1106 wN [.ref o, .ref d] w σ (fun _ w' σ' => Wto w w' 10 0 mlX3 ∧ F21 [1, 10] σ σ') := by
  refine Cg.of (own := RX3) (lv := [(0, .ref o), (1, .ref d)]) (by decide +kernel) rfl (Nat.le_of_ble_eq_true rfl) rfl (fun X hX hxl hR hnm hcl hret => ?_)
  subst hxl
  have hw : Wad w w [] := Wad.rf
  have hf : F21 [1, 10] σ σ := F21.rf
  refine v_aload_n hX 0 rfl (atL dAX3_init_0 0 rfl) ?_
  refine oi_X3_3 hX (by rw [hR]; exact ⟨Nat.le_of_ble_eq_true rfl, Nat.le_of_ble_eq_true rfl⟩) (atL dAX3_init_0 1 rfl) ?_
  refine v_aload_n hX 0 rfl (atL dAX3_init_0 2 rfl) ?_
  have hr1 := hw.fr (k := 31) (i := 29) (hfr (31, 29) (by decide)) (by decide)
  refine nw_X3_9 hX (i := 29) hr1 (by rw [hR]; exact ⟨Nat.le_of_ble_eq_true rfl, Nat.le_of_ble_eq_true rfl⟩) (atL dAX3_init_0 3 rfl) (fun a1 => ?_)
  refine v_dup hX rfl (atL dAX3_init_0 4 rfl) ?_
  refine v_sipush hX (by decide +kernel) (atL dAX3_init_0 5 rfl) ?_
  refine v_callI hX (As := [.int (iI 256)]) (rest := [.ref a1, .ref o]) (c_X4_init _ _ _ (i := 29) (o := a1) (n := 256) rfl wup_new wup_at (wup_fr (hw.fr (hfr (1, 29) (by decide)) (by decide)) (by decide)) (wup_fr (hw.fr (hfr (2, 29) (by decide)) (by decide)) (by decide)) su_s (F21.z (F21.su (ks := [1]) (by decide)) (by decide) (hf.z (by decide) (hz 0 _ _ (by decide)))) (fun _ => (F21.z (F21.su (ks := [1]) (by decide)) (by decide) (hf.z (by decide) (hz 1 _ _ (by decide)))))) li_X3_11 rfl (by rw [hR]; exact ⟨Nat.le_of_ble_eq_true rfl, Nat.le_of_ble_eq_true rfl⟩) (by rw [hR]; exact ⟨Nat.le_of_ble_eq_true rfl, Nat.le_of_ble_eq_true rfl⟩) rfl (Nat.le_of_ble_eq_true rfl) (atL dAX3_init_0 6 rfl) (fun _ w1 σ1 hp1 => ?_)
  obtain ⟨hwt1, hF1⟩ := hp1
  obtain ⟨hw1, ha1⟩ := Wad.mk hw hr1 hwt1
  have hn1 : σ1 21 10 0 = 0 := hF1.n (by decide) ((su_i (by decide)).trans hc)
  replace hF1 : F21 [1, 10] σ σ1 := (hf.tr (F21.su (ks := [1]) (by decide)) (by decide)).tr hF1 (by decide)
  clear hwt1 hr1
  show V X (2, 258) w1 _ _ σ1 [.ref a1, .ref o]
  refine v_eq2 ha1 ((hw1.2 _ _ hl).trans ho) (rp_X3_14 hX hnm (hw1.old hl) (hw1.new (by decide)) hn1 (atL dAX3_init_0 7 rfl) ?_)
  have hm1 : su σ1 21 10 0 (((0 : Nat) : Int) + 1) 21 10 0 = 1 := su_s
  have hf1 : F21 [1, 10] σ (su σ1 21 10 0 (((0 : Nat) : Int) + 1)) := hF1.tr (F21.su (ks := [10]) (by decide)) (by decide)
  obtain ⟨τ1, hs1⟩ : ∃ q, su σ1 21 10 0 (((0 : Nat) : Int) + 1) = q := ⟨_, rfl⟩
  rw [hs1] at hm1 hf1
  rw [hs1]
  clear hs1 hn1 hF1 ha1
  refine v_aload_n hX 0 rfl (atL dAX3_init_0 8 rfl) ?_
  have hr2 := hw1.fr (k := 31) (i := 30) (hfr (31, 30) (by decide)) (by decide)
  refine nw_X3_9 hX (i := 30) hr2 (by rw [hR]; exact ⟨Nat.le_of_ble_eq_true rfl, Nat.le_of_ble_eq_true rfl⟩) (atL dAX3_init_0 9 rfl) (fun a2 => ?_)
  refine v_dup hX rfl (atL dAX3_init_0 10 rfl) ?_
  refine v_sipush hX (by decide +kernel) (atL dAX3_init_0 11 rfl) ?_
  refine v_callI hX (As := [.int (iI 256)]) (rest := [.ref a2, .ref o]) (c_X4_init _ _ _ (i := 30) (o := a2) (n := 256) rfl wup_new wup_at (wup_fr (hw1.fr (hfr (1, 30) (by decide)) (by decide)) (by decide)) (wup_fr (hw1.fr (hfr (2, 30) (by decide)) (by decide)) (by decide)) su_s (F21.z (F21.su (ks := [1]) (by decide)) (by decide) (hf1.z (by decide) (hz 0 _ _ (by decide)))) (fun _ => (F21.z (F21.su (ks := [1]) (by decide)) (by decide) (hf1.z (by decide) (hz 1 _ _ (by decide)))))) li_X3_11 rfl (by rw [hR]; exact ⟨Nat.le_of_ble_eq_true rfl, Nat.le_of_ble_eq_true rfl⟩) (by rw [hR]; exact ⟨Nat.le_of_ble_eq_true rfl, Nat.le_of_ble_eq_true rfl⟩) rfl (Nat.le_of_ble_eq_true rfl) (atL dAX3_init_0 12 rfl) (fun _ w2 σ2 hp2 => ?_)
  obtain ⟨hwt2, hF2⟩ := hp2
  obtain ⟨hw2, ha2⟩ := Wad.mk hw1 hr2 hwt2
  have hn2 : σ2 21 10 0 = 1 := hF2.n (by decide) ((su_i (by decide)).trans hm1)
  replace hF2 : F21 [1, 10] σ σ2 := (hf1.tr (F21.su (ks := [1]) (by decide)) (by decide)).tr hF2 (by decide)
  clear hwt2 hr2
  show V X (4, 516) w2 _ _ σ2 [.ref a2, .ref o]
  refine v_eq2 ha2 ((hw2.2 _ _ hl).trans ho) (rp_X3_20 hX hnm (hw2.old hl) (hw2.new (by decide)) hn2 (atL dAX3_init_0 13 rfl) ?_)
  have hm2 : su σ2 21 10 0 (((1 : Nat) : Int) + 1) 21 10 0 = 2 := su_s
  have hf2 : F21 [1, 10] σ (su σ2 21 10 0 (((1 : Nat) : Int) + 1)) := hF2.tr (F21.su (ks := [10]) (by decide)) (by decide)
  obtain ⟨τ2, hs2⟩ : ∃ q, su σ2 21 10 0 (((1 : Nat) : Int) + 1) = q := ⟨_, rfl⟩
  rw [hs2] at hm2 hf2
  rw [hs2]
  clear hs2 hn2 hF2 ha2 hw1 hm1 hf1
  refine v_aload_n hX 0 rfl (atL dAX3_init_0 14 rfl) ?_
  have hr3 := hw2.fr (k := 31) (i := 31) (hfr (31, 31) (by decide)) (by decide)
  refine nw_X3_9 hX (i := 31) hr3 (by rw [hR]; exact ⟨Nat.le_of_ble_eq_true rfl, Nat.le_of_ble_eq_true rfl⟩) (atL dAX3_init_0 15 rfl) (fun a3 => ?_)
  refine v_dup hX rfl (atL dAX3_init_0 16 rfl) ?_
  refine v_sipush hX (by decide +kernel) (atL dAX3_init_0 17 rfl) ?_
  refine v_callI hX (As := [.int (iI 256)]) (rest := [.ref a3, .ref o]) (c_X4_init _ _ _ (i := 31) (o := a3) (n := 256) rfl wup_new wup_at (wup_fr (hw2.fr (hfr (1, 31) (by decide)) (by decide)) (by decide)) (wup_fr (hw2.fr (hfr (2, 31) (by decide)) (by decide)) (by decide)) su_s (F21.z (F21.su (ks := [1]) (by decide)) (by decide) (hf2.z (by decide) (hz 0 _ _ (by decide)))) (fun _ => (F21.z (F21.su (ks := [1]) (by decide)) (by decide) (hf2.z (by decide) (hz 1 _ _ (by decide)))))) li_X3_11 rfl (by rw [hR]; exact ⟨Nat.le_of_ble_eq_true rfl, Nat.le_of_ble_eq_true rfl⟩) (by rw [hR]; exact ⟨Nat.le_of_ble_eq_true rfl, Nat.le_of_ble_eq_true rfl⟩) rfl (Nat.le_of_ble_eq_true rfl) (atL dAX3_init_0 18 rfl) (fun _ w3 σ3 hp3 => ?_)
  obtain ⟨hwt3, hF3⟩ := hp3
  obtain ⟨hw3, ha3⟩ := Wad.mk hw2 hr3 hwt3
  have hn3 : σ3 21 10 0 = 2 := hF3.n (by decide) ((su_i (by decide)).trans hm2)
  replace hF3 : F21 [1, 10] σ σ3 := (hf2.tr (F21.su (ks := [1]) (by decide)) (by decide)).tr hF3 (by decide)
  clear hwt3 hr3
  show V X (6, 774) w3 _ _ σ3 [.ref a3, .ref o]
  refine v_eq2 ha3 ((hw3.2 _ _ hl).trans ho) (rp_X3_23 hX hnm (hw3.old hl) (hw3.new (by decide)) hn3 (atL dAX3_init_0 19 rfl) ?_)
  have hm3 : su σ3 21 10 0 (((2 : Nat) : Int) + 1) 21 10 0 = 3 := su_s
  have hf3 : F21 [1, 10] σ (su σ3 21 10 0 (((2 : Nat) : Int) + 1)) := hF3.tr (F21.su (ks := [10]) (by decide)) (by decide)
  obtain ⟨τ3, hs3⟩ : ∃ q, su σ3 21 10 0 (((2 : Nat) : Int) + 1) = q := ⟨_, rfl⟩
  rw [hs3] at hm3 hf3
  rw [hs3]
  clear hs3 hn3 hF3 ha3 hw2 hm2 hf2
  refine v_aload_n hX 0 rfl (atL dAX3_init_0 20 rfl) ?_
  have hr4 := hw3.fr (k := 31) (i := 32) (hfr (31, 32) (by decide)) (by decide)
  refine nw_X3_9 hX (i := 32) hr4 (by rw [hR]; exact ⟨Nat.le_of_ble_eq_true rfl, Nat.le_of_ble_eq_true rfl⟩) (atL dAX3_init_0 21 rfl) (fun a4 => ?_)
  refine v_dup hX rfl (atL dAX3_init_0 22 rfl) ?_
  refine v_bipush hX (by decide +kernel) (atL dAX3_init_0 23 rfl) ?_
  refine v_callI hX (As := [.int (iI 32)]) (rest := [.ref a4, .ref o]) (c_X4_init _ _ _ (i := 32) (o := a4) (n := 32) rfl wup_new wup_at (wup_fr (hw3.fr (hfr (1, 32) (by decide)) (by decide)) (by decide)) (wup_fr (hw3.fr (hfr (2, 32) (by decide)) (by decide)) (by decide)) su_s (F21.z (F21.su (ks := [1]) (by decide)) (by decide) (hf3.z (by decide) (hz 0 _ _ (by decide)))) (fun _ => (F21.z (F21.su (ks := [1]) (by decide)) (by decide) (hf3.z (by decide) (hz 1 _ _ (by decide)))))) li_X3_11 rfl (by rw [hR]; exact ⟨Nat.le_of_ble_eq_true rfl, Nat.le_of_ble_eq_true rfl⟩) (by rw [hR]; exact ⟨Nat.le_of_ble_eq_true rfl, Nat.le_of_ble_eq_true rfl⟩) rfl (Nat.le_of_ble_eq_true rfl) (atL dAX3_init_0 24 rfl) (fun _ w4 σ4 hp4 => ?_)
  obtain ⟨hwt4, hF4⟩ := hp4
  obtain ⟨hw4, ha4⟩ := Wad.mk hw3 hr4 hwt4
  have hn4 : σ4 21 10 0 = 3 := hF4.n (by decide) ((su_i (by decide)).trans hm3)
  replace hF4 : F21 [1, 10] σ σ4 := (hf3.tr (F21.su (ks := [1]) (by decide)) (by decide)).tr hF4 (by decide)
  clear hwt4 hr4
  show V X (8, 808) w4 _ _ σ4 [.ref a4, .ref o]
  refine v_eq2 ha4 ((hw4.2 _ _ hl).trans ho) (rp_X3_26 hX hnm (hw4.old hl) (hw4.new (by decide)) hn4 (atL dAX3_init_0 25 rfl) ?_)
  have hm4 : su σ4 21 10 0 (((3 : Nat) : Int) + 1) 21 10 0 = 4 := su_s
  have hf4 : F21 [1, 10] σ (su σ4 21 10 0 (((3 : Nat) : Int) + 1)) := hF4.tr (F21.su (ks := [10]) (by decide)) (by decide)
  obtain ⟨τ4, hs4⟩ : ∃ q, su σ4 21 10 0 (((3 : Nat) : Int) + 1) = q := ⟨_, rfl⟩
  rw [hs4] at hm4 hf4
  rw [hs4]
  clear hs4 hn4 hF4 ha4 hw3 hm3 hf3
  refine v_aload_n hX 0 rfl (atL dAX3_init_0 26 rfl) ?_
  have hr5 := hw4.fr (k := 31) (i := 33) (hfr (31, 33) (by decide)) (by decide)
  refine nw_X3_9 hX (i := 33) hr5 (by rw [hR]; exact ⟨Nat.le_of_ble_eq_true rfl, Nat.le_of_ble_eq_true rfl⟩) (atL dAX3_init_0 27 rfl) (fun a5 => ?_)
  refine v_dup hX rfl (atL dAX3_init_0 28 rfl) ?_
  refine v_sipush hX (by decide +kernel) (atL dAX3_init_0 29 rfl) ?_
  refine v_callI hX (As := [.int (iI 296)]) (rest := [.ref a5, .ref o]) (c_X4_init _ _ _ (i := 33) (o := a5) (n := 296) rfl wup_new wup_at (wup_fr (hw4.fr (hfr (1, 33) (by decide)) (by decide)) (by decide)) (wup_fr (hw4.fr (hfr (2, 33) (by decide)) (by decide)) (by decide)) su_s (F21.z (F21.su (ks := [1]) (by decide)) (by decide) (hf4.z (by decide) (hz 0 _ _ (by decide)))) (fun _ => (F21.z (F21.su (ks := [1]) (by decide)) (by decide) (hf4.z (by decide) (hz 1 _ _ (by decide)))))) li_X3_11 rfl (by rw [hR]; exact ⟨Nat.le_of_ble_eq_true rfl, Nat.le_of_ble_eq_true rfl⟩) (by rw [hR]; exact ⟨Nat.le_of_ble_eq_true rfl, Nat.le_of_ble_eq_true rfl⟩) rfl (Nat.le_of_ble_eq_true rfl) (atL dAX3_init_0 30 rfl) (fun _ w5 σ5 hp5 => ?_)
  obtain ⟨hwt5, hF5⟩ := hp5
  obtain ⟨hw5, ha5⟩ := Wad.mk hw4 hr5 hwt5
  have hn5 : σ5 21 10 0 = 4 := hF5.n (by decide) ((su_i (by decide)).trans hm4)
  replace hF5 : F21 [1, 10] σ σ5 := (hf4.tr (F21.su (ks := [1]) (by decide)) (by decide)).tr hF5 (by decide)
  clear hwt5 hr5
  show V X (10, 1106) w5 _ _ σ5 [.ref a5, .ref o]
  refine v_eq2 ha5 ((hw5.2 _ _ hl).trans ho) (rp_X3_29 hX hnm (hw5.old hl) (hw5.new (by decide)) hn5 (atL dAX3_init_0 31 rfl) ?_)
  have hm5 : su σ5 21 10 0 (((4 : Nat) : Int) + 1) 21 10 0 = 5 := su_s
  have hf5 : F21 [1, 10] σ (su σ5 21 10 0 (((4 : Nat) : Int) + 1)) := hF5.tr (F21.su (ks := [10]) (by decide)) (by decide)
  obtain ⟨τ5, hs5⟩ : ∃ q, su σ5 21 10 0 (((4 : Nat) : Int) + 1) = q := ⟨_, rfl⟩
  rw [hs5] at hm5 hf5
  rw [hs5]
  clear hs5 hn5 hF5 ha5 hw4 hm4 hf4
  refine v_aload_n hX 0 rfl (atL dAX3_init_0 32 rfl) ?_
  refine v_aload_n hX 1 rfl (atL dAX3_init_0 33 rfl) ?_
  obtain ⟨w6, he6⟩ : ∃ q, q = w5 := ⟨_, rfl⟩
  have hw6 := hw5
  rw [← he6] at hw6
  rw [← he6]
  obtain ⟨σ6, hq6⟩ : ∃ q, q = τ5 := ⟨_, rfl⟩
  have hn6 : σ6 21 10 0 = 5 := by rw [hq6]; exact hm5
  have hF6 : F21 [1, 10] σ σ6 := by rw [hq6]; exact hf5
  rw [← hq6]
  show V X (10, 1106) w6 _ _ σ6 [.ref d, .ref o]
  refine v_eq2 ((hw6.2 _ _ hd).trans hda) ((hw6.2 _ _ hl).trans ho) (rp_X3_32 hX hnm (hw6.old hl) (hw6.old hd) hn6 (atL dAX3_init_0 34 rfl) ?_)
  have hm6 : su σ6 21 10 0 (((5 : Nat) : Int) + 1) 21 10 0 = 6 := su_s
  have hf6 : F21 [1, 10] σ (su σ6 21 10 0 (((5 : Nat) : Int) + 1)) := hF6.tr (F21.su (ks := [10]) (by decide)) (by decide)
  obtain ⟨τ6, hs6⟩ : ∃ q, su σ6 21 10 0 (((5 : Nat) : Int) + 1) = q := ⟨_, rfl⟩
  rw [hs6] at hm6 hf6
  rw [hs6]
  clear hs6 hn6 hF6   
  refine v_done (k := 10) (i := 0) (by decide) (by decide) (hw6.old hl) (hw6.fr (hfr (10, 0) (by decide)) (by decide)) (fun q hq => done_mn hm6 rfl (by decide) hq) (fun D g ad b H hb => ?_) ?_
  · have e : cont g ad τ6 10 0 = cont g ad τ6 40 0 := done_at hm6 rfl (by decide) (fun d hd hd0 => hf6.z (fun e => absurd (show d.2.1 < 15 from (by decide : ∀ d ∈ tp 10 0, d.1 ≠ 0 → d.2.1 < 15) d hd hd0) (by omega)) (hz _ _ _ ((by decide : ∀ d ∈ tp 10 0, d.1 ≠ 0 → d.2.1 < 15) d hd hd0)))
    rw [e]
    exact hb
  · exact v_vret hX (atL dAX3_init_0 35 rfl) (hret () _ _ ⟨Wto.of hw6 hl (hw6.fr (hfr (10, 0) (by decide)) (by decide)) (by decide), hf6⟩ _ ⟨Nat.le_of_ble_eq_true rfl, Nat.le_of_ble_eq_true rfl⟩)
