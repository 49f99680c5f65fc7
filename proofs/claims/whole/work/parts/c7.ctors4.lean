/-! model -/
theorem dAX8_init_0 : ([(0, .aload_n 0, 1, 1), (1, .invokespecial 1, 3, 4), (4, .aload_n 0, 1, 5), (5, .new 7, 3, 8), (8, .dup, 1, 9), (9, .invokespecial 9, 3, 12), (12, .putfield 10, 3, 15), (15, .aload_n 0, 1, 16), (16, .new 7, 3, 19), (19, .dup, 1, 20), (20, .invokespecial 9, 3, 23), (23, .putfield 16, 3, 26), (26, .aload_n 0, 1, 27), (27, .new 7, 3, 30), (30, .dup, 1, 31), (31, .invokespecial 9, 3, 34), (34, .putfield 19, 3, 37), (37, .aload_n 0, 1, 38), (38, .new 7, 3, 41), (41, .dup, 1, 42), (42, .invokespecial 9, 3, 45), (45, .putfield 22, 3, 48), (48, .aload_n 0, 1, 49), (49, .new 7, 3, 52), (52, .dup, 1, 53), (53, .invokespecial 9, 3, 56), (56, .putfield 25, 3, 59), (59, .aload_n 0, 1, 60), (60, .new 7, 3, 63), (63, .dup, 1, 64), (64, .invokespecial 9, 3, 67), (67, .putfield 28, 3, 70), (70, .aload_n 0, 1, 71), (71, .new 7, 3, 74), (74, .dup, 1, 75), (75, .invokespecial 9, 3, 78), (78, .putfield 31, 3, 81), (81, .aload_n 0, 1, 82), (82, .new 7, 3, 85), (85, .dup, 1, 86), (86, .invokespecial 9, 3, 89), (89, .putfield 34, 3, 92), (92, .aload_n 0, 1, 93), (93, .new 7, 3, 96), (96, .dup, 1, 97), (97, .invokespecial 9, 3, 100), (100, .putfield 37, 3, 103), (103, .aload_n 0, 1, 104), (104, .new 7, 3, 107), (107, .dup, 1, 108), (108, .invokespecial 9, 3, 111), (111, .putfield 40, 3, 114), (114, .aload_n 0, 1, 115), (115, .new 7, 3, 118), (118, .dup, 1, 119), (119, .invokespecial 9, 3, 122), (122, .putfield 43, 3, 125), (125, .aload_n 0, 1, 126), (126, .new 7, 3, 129), (129, .dup, 1, 130)] : List (Nat × Instr × Nat × Nat)).all (fun q => decide (decode cX8_init q.1 = .ok (q.2.1, q.2.2.1)) && q.2.2.2 == q.1 + q.2.2.1) = true := by decide +kernel
theorem dAX8_init_1 : ([(130, .invokespecial 9, 3, 133), (133, .putfield 46, 3, 136), (136, .aload_n 0, 1, 137), (137, .new 7, 3, 140), (140, .dup, 1, 141), (141, .invokespecial 9, 3, 144), (144, .putfield 49, 3, 147), (147, .aload_n 0, 1, 148), (148, .new 7, 3, 151), (151, .dup, 1, 152), (152, .invokespecial 9, 3, 155), (155, .putfield 52, 3, 158), (158, .aload_n 0, 1, 159), (159, .new 7, 3, 162), (162, .dup, 1, 163), (163, .invokespecial 9, 3, 166), (166, .putfield 55, 3, 169), (169, .aload_n 0, 1, 170), (170, .new 7, 3, 173), (173, .dup, 1, 174), (174, .invokespecial 9, 3, 177), (177, .putfield 58, 3, 180), (180, .aload_n 0, 1, 181), (181, .new 7, 3, 184), (184, .dup, 1, 185), (185, .invokespecial 9, 3, 188), (188, .putfield 61, 3, 191), (191, .aload_n 0, 1, 192), (192, .new 7, 3, 195), (195, .dup, 1, 196), (196, .invokespecial 9, 3, 199), (199, .putfield 64, 3, 202), (202, .aload_n 0, 1, 203), (203, .sipush 6144, 3, 206), (206, .newarray .int, 2, 208), (208, .putfield 67, 3, 211), (211, .aload_n 0, 1, 212), (212, .bipush 24, 2, 214), (214, .newarray .int, 2, 216), (216, .putfield 71, 3, 219), (219, .aload_n 0, 1, 220), (220, .sipush 260, 3, 223), (223, .newarray .int, 2, 225), (225, .putfield 74, 3, 228), (228, .aload_n 0, 1, 229), (229, .sipush 1000, 3, 232), (232, .newarray .int, 2, 234), (234, .putfield 77, 3, 237), (237, .aload_n 0, 1, 238), (238, .new 7, 3, 241), (241, .dup, 1, 242), (242, .invokespecial 9, 3, 245), (245, .putfield 80, 3, 248), (248, .aload_n 0, 1, 249), (249, .new 7, 3, 252), (252, .dup, 1, 253), (253, .invokespecial 9, 3, 256), (256, .putfield 83, 3, 259), (259, .aload_n 0, 1, 260), (260, .new 7, 3, 263)] : List (Nat × Instr × Nat × Nat)).all (fun q => decide (decode cX8_init q.1 = .ok (q.2.1, q.2.2.1)) && q.2.2.2 == q.1 + q.2.2.1) = true := by decide +kernel
theorem dAX8_init_2 : ([(263, .dup, 1, 264), (264, .invokespecial 9, 3, 267), (267, .putfield 86, 3, 270), (270, .aload_n 0, 1, 271), (271, .new 7, 3, 274), (274, .dup, 1, 275), (275, .invokespecial 9, 3, 278), (278, .putfield 89, 3, 281), (281, .aload_n 0, 1, 282), (282, .new 7, 3, 285), (285, .dup, 1, 286), (286, .invokespecial 9, 3, 289), (289, .putfield 92, 3, 292), (292, .aload_n 0, 1, 293), (293, .sipush 700, 3, 296), (296, .newarray .int, 2, 298), (298, .putfield 95, 3, 301), (301, .aload_n 0, 1, 302), (302, .bipush 32, 2, 304), (304, .newarray .int, 2, 306), (306, .putfield 98, 3, 309), (309, .aload_n 0, 1, 310), (310, .bipush 64, 2, 312), (312, .newarray .int, 2, 314), (314, .putfield 101, 3, 317), (317, .aload_n 0, 1, 318), (318, .bipush 64, 2, 320), (320, .newarray .int, 2, 322), (322, .putfield 104, 3, 325), (325, .aload_n 0, 1, 326), (326, .bipush 8, 2, 328), (328, .newarray .int, 2, 330), (330, .putfield 107, 3, 333), (333, .aload_n 0, 1, 334), (334, .bipush 8, 2, 336), (336, .newarray .int, 2, 338), (338, .putfield 110, 3, 341), (341, .aload_n 0, 1, 342), (342, .sipush 512, 3, 345), (345, .newarray .int, 2, 347), (347, .putfield 113, 3, 350), (350, .aload_n 0, 1, 351), (351, .sipush 16384, 3, 354), (354, .newarray .int, 2, 356), (356, .putfield 116, 3, 359), (359, .aload_n 0, 1, 360), (360, .sipush 128, 3, 363), (363, .newarray .int, 2, 365), (365, .putfield 119, 3, 368), (368, .aload_n 0, 1, 369), (369, .bipush 16, 2, 371), (371, .newarray .boolean, 2, 373), (373, .putfield 122, 3, 376), (376, .aload_n 0, 1, 377), (377, .new 7, 3, 380), (380, .dup, 1, 381), (381, .invokespecial 9, 3, 384), (384, .putfield 126, 3, 387), (387, .aload_n 0, 1, 388), (388, .new 7, 3, 391)] : List (Nat × Instr × Nat × Nat)).all (fun q => decide (decode cX8_init q.1 = .ok (q.2.1, q.2.2.1)) && q.2.2.2 == q.1 + q.2.2.1) = true := by decide +kernel
theorem dAX8_init_3 : ([(391, .dup, 1, 392), (392, .invokespecial 9, 3, 395), (395, .putfield 129, 3, 398), (398, .aload_n 0, 1, 399), (399, .new 7, 3, 402), (402, .dup, 1, 403), (403, .invokespecial 9, 3, 406), (406, .putfield 132, 3, 409), (409, .aload_n 0, 1, 410), (410, .new 7, 3, 413), (413, .dup, 1, 414), (414, .invokespecial 9, 3, 417), (417, .putfield 135, 3, 420), (420, .aload_n 0, 1, 421), (421, .new 7, 3, 424), (424, .dup, 1, 425), (425, .invokespecial 9, 3, 428), (428, .putfield 138, 3, 431), (431, .aload_n 0, 1, 432), (432, .new 7, 3, 435), (435, .dup, 1, 436), (436, .invokespecial 9, 3, 439), (439, .putfield 141, 3, 442), (442, .aload_n 0, 1, 443), (443, .new 7, 3, 446), (446, .dup, 1, 447), (447, .invokespecial 9, 3, 450), (450, .putfield 144, 3, 453), (453, .aload_n 0, 1, 454), (454, .sipush 600, 3, 457), (457, .newarray .int, 2, 459), (459, .putfield 147, 3, 462), (462, .aload_n 0, 1, 463), (463, .bipush 32, 2, 465), (465, .newarray .int, 2, 467), (467, .putfield 150, 3, 470), (470, .aload_n 0, 1, 471), (471, .sipush 128, 3, 474), (474, .newarray .int, 2, 476), (476, .putfield 153, 3, 479), (479, .return_, 1, 480)] : List (Nat × Instr × Nat × Nat)).all (fun q => decide (decode cX8_init q.1 = .ok (q.2.1, q.2.2.1)) && q.2.2.2 == q.1 + q.2.2.1) = true := by decide +kernel
def flX8 : List (Nat × Nat) := [(44, 0), (14, 0), (15, 0), (44, 1), (14, 1), (15, 1), (44, 2), (14, 2), (15, 2), (44, 3), (14, 3), (15, 3), (44, 4), (14, 4), (15, 4), (44, 5), (14, 5), (15, 5), (44, 6), (14, 6), (15, 6), (44, 7), (14, 7), (15, 7), (44, 8), (14, 8), (15, 8), (44, 9), (14, 9), (15, 9), (44, 10), (14, 10), (15, 10), (44, 11), (14, 11), (15, 11), (44, 12), (14, 12), (15, 12), (44, 13), (14, 13), (15, 13), (44, 14), (14, 14), (15, 14), (44, 15), (14, 15), (15, 15), (44, 16), (14, 16), (15, 16), (44, 17), (14, 17), (15, 17), (16, 0), (16, 1), (16, 2), (16, 3), (44, 18), (14, 18), (15, 18), (44, 19), (14, 19), (15, 19), (44, 20), (14, 20), (15, 20), (44, 21), (14, 21), (15, 21), (44, 22), (14, 22), (15, 22), (16, 4), (16, 5), (16, 6), (16, 7), (16, 8), (16, 9), (16, 10), (16, 11), (16, 12), (17, 0), (44, 23), (14, 23), (15, 23), (44, 24), (14, 24), (15, 24), (44, 25), (14, 25), (15, 25), (44, 26), (14, 26), (15, 26), (44, 27), (14, 27), (15, 27), (44, 28), (14, 28), (15, 28), (44, 29), (14, 29), (15, 29), (16, 13), (16, 14), (16, 15), (13, 0)]
def mlX8 : List (Nat × Nat) := [(16, 15), (16, 14), (16, 13), (14, 29), (15, 29), (14, 28), (15, 28), (14, 27), (15, 27), (14, 26), (15, 26), (14, 25), (15, 25), (14, 24), (15, 24), (14, 23), (15, 23), (17, 0), (16, 12), (16, 11), (16, 10), (16, 9), (16, 8), (16, 7), (16, 6), (16, 5), (16, 4), (14, 22), (15, 22), (14, 21), (15, 21), (14, 20), (15, 20), (14, 19), (15, 19), (14, 18), (15, 18), (16, 3), (16, 2), (16, 1), (16, 0), (14, 17), (15, 17), (14, 16), (15, 16), (14, 15), (15, 15), (14, 14), (15, 14), (14, 13), (15, 13), (14, 12), (15, 12), (14, 11), (15, 11), (14, 10), (15, 10), (14, 9), (15, 9), (14, 8), (15, 8), (14, 7), (15, 7), (14, 6), (15, 6), (14, 5), (15, 5), (14, 4), (15, 4), (14, 3), (15, 3), (14, 2), (15, 2), (14, 1), (15, 1), (14, 0), (15, 0)]
set_option maxHeartbeats 8000000 in
set_option maxRecDepth 100000 in
theorem c_X8_init (l : Launch) (w : Wl) (σ : St) {o : Nat} (hl : w.2 43 0) (ho : w.1 43 0 = o) (hfr : ∀ q ∈ flX8, ¬ w.2 q.1 q.2) (hc : σ 21 13 0 = 0) (hz : ∀ c i j, c < 15 → σ c i j = 0) : Cg l yX8_init cX8_init 1 none 2 33 77 34264 wN [.ref o] w σ (fun _ w' σ' => Wto w w' 13 0 mlX8 ∧ F21 [13, 14] σ σ') := by
  refine Cg.of (own := RX8) (lv := [(0, .ref o)]) (by decide +kernel) rfl (Nat.le_of_ble_eq_true rfl) rfl (fun X hX hxl hR hnm hcl hret => ?_)
  subst hxl
  have hw : Wad w w [] := Wad.rf
  have hf : F21 [13, 14] σ σ := F21.rf
  refine v_aload_n hX 0 rfl (atL dAX8_init_0 0 rfl) ?_
  refine oi_X8_1 hX (by rw [hR]; exact ⟨Nat.le_of_ble_eq_true rfl, Nat.le_of_ble_eq_true rfl⟩) (atL dAX8_init_0 1 rfl) ?_
  refine v_aload_n hX 0 rfl (atL dAX8_init_0 2 rfl) ?_
  have hr1 := hw.fr (k := 44) (i := 0) (hfr (44, 0) (by decide)) (by decide)
  refine nw_X8_7 hX (i := 0) hr1 (by rw [hR]; exact ⟨Nat.le_of_ble_eq_true rfl, Nat.le_of_ble_eq_true rfl⟩) (atL dAX8_init_0 3 rfl) (fun a1 => ?_)
  refine v_dup hX rfl (atL dAX8_init_0 4 rfl) ?_
  refine v_callIN hX (As := []) (rest := [.ref a1, .ref o]) (c_X7_init _ _ _ (i := 0) (o := a1) wup_new wup_at (wup_fr (hw.fr (hfr (14, 0) (by decide)) (by decide)) (by decide)) (wup_fr (hw.fr (hfr (15, 0) (by decide)) (by decide)) (by decide)) su_s (F21.z (F21.su (ks := [14]) (by decide)) (by decide) (hf.z (by decide) (hz 11 _ _ (by decide)))) (fun _ => (F21.z (F21.su (ks := [14]) (by decide)) (by decide) (hf.z (by decide) (hz 12 _ _ (by decide)))))) li_X8_9 rfl (by rw [hR]; exact ⟨Nat.le_of_ble_eq_true rfl, Nat.le_of_ble_eq_true rfl⟩) (by rw [hR]; exact ⟨Nat.le_of_ble_eq_true rfl, Nat.le_of_ble_eq_true rfl⟩) rfl (Nat.le_of_ble_eq_true rfl) (atL dAX8_init_0 5 rfl) (fun _ w1 σ1 hp1 => ?_)
  obtain ⟨hwt1, hF1⟩ := hp1
  obtain ⟨hw1, ha1⟩ := Wad.mk hw hr1 hwt1
  have hn1 : σ1 21 13 0 = 0 := hF1.n (by decide) ((su_i (by decide)).trans hc)
  replace hF1 : F21 [13, 14] σ σ1 := (hf.tr (F21.su (ks := [14]) (by decide)) (by decide)).tr hF1 (by decide)
  clear hwt1 hr1
  show V X (2, 272) w1 _ _ σ1 [.ref a1, .ref o]
  refine v_eq2 ha1 ((hw1.2 _ _ hl).trans ho) (rp_X8_10 hX hnm (hw1.old hl) (hw1.new (by decide)) hn1 (atL dAX8_init_0 6 rfl) ?_)
  have hm1 : su σ1 21 13 0 (((1 : Nat) : Int) + 1) 21 13 0 = 2 := su_s
  have hf1 : F21 [13, 14] σ (su σ1 21 13 0 (((1 : Nat) : Int) + 1)) := hF1.tr (F21.su (ks := [13]) (by decide)) (by decide)
  obtain ⟨τ1, hs1⟩ : ∃ q, su σ1 21 13 0 (((1 : Nat) : Int) + 1) = q := ⟨_, rfl⟩
  rw [hs1] at hm1 hf1
  rw [hs1]
  clear hs1 hn1 hF1 ha1
  refine v_aload_n hX 0 rfl (atL dAX8_init_0 7 rfl) ?_
  have hr2 := hw1.fr (k := 44) (i := 1) (hfr (44, 1) (by decide)) (by decide)
  refine nw_X8_7 hX (i := 1) hr2 (by rw [hR]; exact ⟨Nat.le_of_ble_eq_true rfl, Nat.le_of_ble_eq_true rfl⟩) (atL dAX8_init_0 8 rfl) (fun a2 => ?_)
  refine v_dup hX rfl (atL dAX8_init_0 9 rfl) ?_
  refine v_callIN hX (As := []) (rest := [.ref a2, .ref o]) (c_X7_init _ _ _ (i := 1) (o := a2) wup_new wup_at (wup_fr (hw1.fr (hfr (14, 1) (by decide)) (by decide)) (by decide)) (wup_fr (hw1.fr (hfr (15, 1) (by decide)) (by decide)) (by decide)) su_s (F21.z (F21.su (ks := [14]) (by decide)) (by decide) (hf1.z (by decide) (hz 11 _ _ (by decide)))) (fun _ => (F21.z (F21.su (ks := [14]) (by decide)) (by decide) (hf1.z (by decide) (hz 12 _ _ (by decide)))))) li_X8_9 rfl (by rw [hR]; exact ⟨Nat.le_of_ble_eq_true rfl, Nat.le_of_ble_eq_true rfl⟩) (by rw [hR]; exact ⟨Nat.le_of_ble_eq_true rfl, Nat.le_of_ble_eq_true rfl⟩) rfl (Nat.le_of_ble_eq_true rfl) (atL dAX8_init_0 10 rfl) (fun _ w2 σ2 hp2 => ?_)
  obtain ⟨hwt2, hF2⟩ := hp2
  obtain ⟨hw2, ha2⟩ := Wad.mk hw1 hr2 hwt2
  have hn2 : σ2 21 13 0 = 2 := hF2.n (by decide) ((su_i (by decide)).trans hm1)
  replace hF2 : F21 [13, 14] σ σ2 := (hf1.tr (F21.su (ks := [14]) (by decide)) (by decide)).tr hF2 (by decide)
  clear hwt2 hr2
  show V X (4, 544) w2 _ _ σ2 [.ref a2, .ref o]
  refine v_eq2 ha2 ((hw2.2 _ _ hl).trans ho) (rp_X8_16 hX hnm (hw2.old hl) (hw2.new (by decide)) hn2 (atL dAX8_init_0 11 rfl) ?_)
  have hm2 : su σ2 21 13 0 (((2 : Nat) : Int) + 1) 21 13 0 = 3 := su_s
  have hf2 : F21 [13, 14] σ (su σ2 21 13 0 (((2 : Nat) : Int) + 1)) := hF2.tr (F21.su (ks := [13]) (by decide)) (by decide)
  obtain ⟨τ2, hs2⟩ : ∃ q, su σ2 21 13 0 (((2 : Nat) : Int) + 1) = q := ⟨_, rfl⟩
  rw [hs2] at hm2 hf2
  rw [hs2]
  clear hs2 hn2 hF2 ha2 hw1 hm1 hf1
  refine v_aload_n hX 0 rfl (atL dAX8_init_0 12 rfl) ?_
  have hr3 := hw2.fr (k := 44) (i := 2) (hfr (44, 2) (by decide)) (by decide)
  refine nw_X8_7 hX (i := 2) hr3 (by rw [hR]; exact ⟨Nat.le_of_ble_eq_true rfl, Nat.le_of_ble_eq_true rfl⟩) (atL dAX8_init_0 13 rfl) (fun a3 => ?_)
  refine v_dup hX rfl (atL dAX8_init_0 14 rfl) ?_
  refine v_callIN hX (As := []) (rest := [.ref a3, .ref o]) (c_X7_init _ _ _ (i := 2) (o := a3) wup_new wup_at (wup_fr (hw2.fr (hfr (14, 2) (by decide)) (by decide)) (by decide)) (wup_fr (hw2.fr (hfr (15, 2) (by decide)) (by decide)) (by decide)) su_s (F21.z (F21.su (ks := [14]) (by decide)) (by decide) (hf2.z (by decide) (hz 11 _ _ (by decide)))) (fun _ => (F21.z (F21.su (ks := [14]) (by decide)) (by decide) (hf2.z (by decide) (hz 12 _ _ (by decide)))))) li_X8_9 rfl (by rw [hR]; exact ⟨Nat.le_of_ble_eq_true rfl, Nat.le_of_ble_eq_true rfl⟩) (by rw [hR]; exact ⟨Nat.le_of_ble_eq_true rfl, Nat.le_of_ble_eq_true rfl⟩) rfl (Nat.le_of_ble_eq_true rfl) (atL dAX8_init_0 15 rfl) (fun _ w3 σ3 hp3 => ?_)
  obtain ⟨hwt3, hF3⟩ := hp3
  obtain ⟨hw3, ha3⟩ := Wad.mk hw2 hr3 hwt3
  have hn3 : σ3 21 13 0 = 3 := hF3.n (by decide) ((su_i (by decide)).trans hm2)
  replace hF3 : F21 [13, 14] σ σ3 := (hf2.tr (F21.su (ks := [14]) (by decide)) (by decide)).tr hF3 (by decide)
  clear hwt3 hr3
  show V X (6, 816) w3 _ _ σ3 [.ref a3, .ref o]
  refine v_eq2 ha3 ((hw3.2 _ _ hl).trans ho) (rp_X8_19 hX hnm (hw3.old hl) (hw3.new (by decide)) hn3 (atL dAX8_init_0 16 rfl) ?_)
  have hm3 : su σ3 21 13 0 (((3 : Nat) : Int) + 1) 21 13 0 = 4 := su_s
  have hf3 : F21 [13, 14] σ (su σ3 21 13 0 (((3 : Nat) : Int) + 1)) := hF3.tr (F21.su (ks := [13]) (by decide)) (by decide)
  obtain ⟨τ3, hs3⟩ : ∃ q, su σ3 21 13 0 (((3 : Nat) : Int) + 1) = q := ⟨_, rfl⟩
  rw [hs3] at hm3 hf3
  rw [hs3]
  clear hs3 hn3 hF3 ha3 hw2 hm2 hf2
  refine v_aload_n hX 0 rfl (atL dAX8_init_0 17 rfl) ?_
  have hr4 := hw3.fr (k := 44) (i := 3) (hfr (44, 3) (by decide)) (by decide)
  refine nw_X8_7 hX (i := 3) hr4 (by rw [hR]; exact ⟨Nat.le_of_ble_eq_true rfl, Nat.le_of_ble_eq_true rfl⟩) (atL dAX8_init_0 18 rfl) (fun a4 => ?_)
  refine v_dup hX rfl (atL dAX8_init_0 19 rfl) ?_
  refine v_callIN hX (As := []) (rest := [.ref a4, .ref o]) (c_X7_init _ _ _ (i := 3) (o := a4) wup_new wup_at (wup_fr (hw3.fr (hfr (14, 3) (by decide)) (by decide)) (by decide)) (wup_fr (hw3.fr (hfr (15, 3) (by decide)) (by decide)) (by decide)) su_s (F21.z (F21.su (ks := [14]) (by decide)) (by decide) (hf3.z (by decide) (hz 11 _ _ (by decide)))) (fun _ => (F21.z (F21.su (ks := [14]) (by decide)) (by decide) (hf3.z (by decide) (hz 12 _ _ (by decide)))))) li_X8_9 rfl (by rw [hR]; exact ⟨Nat.le_of_ble_eq_true rfl, Nat.le_of_ble_eq_true rfl⟩) (by rw [hR]; exact ⟨Nat.le_of_ble_eq_true rfl, Nat.le_of_ble_eq_true rfl⟩) rfl (Nat.le_of_ble_eq_true rfl) (atL dAX8_init_0 20 rfl) (fun _ w4 σ4 hp4 => ?_)
  obtain ⟨hwt4, hF4⟩ := hp4
  obtain ⟨hw4, ha4⟩ := Wad.mk hw3 hr4 hwt4
  have hn4 : σ4 21 13 0 = 4 := hF4.n (by decide) ((su_i (by decide)).trans hm3)
  replace hF4 : F21 [13, 14] σ σ4 := (hf3.tr (F21.su (ks := [14]) (by decide)) (by decide)).tr hF4 (by decide)
  clear hwt4 hr4
  show V X (8, 1088) w4 _ _ σ4 [.ref a4, .ref o]
  refine v_eq2 ha4 ((hw4.2 _ _ hl).trans ho) (rp_X8_22 hX hnm (hw4.old hl) (hw4.new (by decide)) hn4 (atL dAX8_init_0 21 rfl) ?_)
  have hm4 : su σ4 21 13 0 (((4 : Nat) : Int) + 1) 21 13 0 = 5 := su_s
  have hf4 : F21 [13, 14] σ (su σ4 21 13 0 (((4 : Nat) : Int) + 1)) := hF4.tr (F21.su (ks := [13]) (by decide)) (by decide)
  obtain ⟨τ4, hs4⟩ : ∃ q, su σ4 21 13 0 (((4 : Nat) : Int) + 1) = q := ⟨_, rfl⟩
  rw [hs4] at hm4 hf4
  rw [hs4]
  clear hs4 hn4 hF4 ha4 hw3 hm3 hf3
  refine v_aload_n hX 0 rfl (atL dAX8_init_0 22 rfl) ?_
  have hr5 := hw4.fr (k := 44) (i := 4) (hfr (44, 4) (by decide)) (by decide)
  refine nw_X8_7 hX (i := 4) hr5 (by rw [hR]; exact ⟨Nat.le_of_ble_eq_true rfl, Nat.le_of_ble_eq_true rfl⟩) (atL dAX8_init_0 23 rfl) (fun a5 => ?_)
  refine v_dup hX rfl (atL dAX8_init_0 24 rfl) ?_
  refine v_callIN hX (As := []) (rest := [.ref a5, .ref o]) (c_X7_init _ _ _ (i := 4) (o := a5) wup_new wup_at (wup_fr (hw4.fr (hfr (14, 4) (by decide)) (by decide)) (by decide)) (wup_fr (hw4.fr (hfr (15, 4) (by decide)) (by decide)) (by decide)) su_s (F21.z (F21.su (ks := [14]) (by decide)) (by decide) (hf4.z (by decide) (hz 11 _ _ (by decide)))) (fun _ => (F21.z (F21.su (ks := [14]) (by decide)) (by decide) (hf4.z (by decide) (hz 12 _ _ (by decide)))))) li_X8_9 rfl (by rw [hR]; exact ⟨Nat.le_of_ble_eq_true rfl, Nat.le_of_ble_eq_true rfl⟩) (by rw [hR]; exact ⟨Nat.le_of_ble_eq_true rfl, Nat.le_of_ble_eq_true rfl⟩) rfl (Nat.le_of_ble_eq_true rfl) (atL dAX8_init_0 25 rfl) (fun _ w5 σ5 hp5 => ?_)
  obtain ⟨hwt5, hF5⟩ := hp5
  obtain ⟨hw5, ha5⟩ := Wad.mk hw4 hr5 hwt5
  have hn5 : σ5 21 13 0 = 5 := hF5.n (by decide) ((su_i (by decide)).trans hm4)
  replace hF5 : F21 [13, 14] σ σ5 := (hf4.tr (F21.su (ks := [14]) (by decide)) (by decide)).tr hF5 (by decide)
  clear hwt5 hr5
  show V X (10, 1360) w5 _ _ σ5 [.ref a5, .ref o]
  refine v_eq2 ha5 ((hw5.2 _ _ hl).trans ho) (rp_X8_25 hX hnm (hw5.old hl) (hw5.new (by decide)) hn5 (atL dAX8_init_0 26 rfl) ?_)
  have hm5 : su σ5 21 13 0 (((5 : Nat) : Int) + 1) 21 13 0 = 6 := su_s
  have hf5 : F21 [13, 14] σ (su σ5 21 13 0 (((5 : Nat) : Int) + 1)) := hF5.tr (F21.su (ks := [13]) (by decide)) (by decide)
  obtain ⟨τ5, hs5⟩ : ∃ q, su σ5 21 13 0 (((5 : Nat) : Int) + 1) = q := ⟨_, rfl⟩
  rw [hs5] at hm5 hf5
  rw [hs5]
  clear hs5 hn5 hF5 ha5 hw4 hm4 hf4
  refine v_aload_n hX 0 rfl (atL dAX8_init_0 27 rfl) ?_
  have hr6 := hw5.fr (k := 44) (i := 5) (hfr (44, 5) (by decide)) (by decide)
  refine nw_X8_7 hX (i := 5) hr6 (by rw [hR]; exact ⟨Nat.le_of_ble_eq_true rfl, Nat.le_of_ble_eq_true rfl⟩) (atL dAX8_init_0 28 rfl) (fun a6 => ?_)
  refine v_dup hX rfl (atL dAX8_init_0 29 rfl) ?_
  refine v_callIN hX (As := []) (rest := [.ref a6, .ref o]) (c_X7_init _ _ _ (i := 5) (o := a6) wup_new wup_at (wup_fr (hw5.fr (hfr (14, 5) (by decide)) (by decide)) (by decide)) (wup_fr (hw5.fr (hfr (15, 5) (by decide)) (by decide)) (by decide)) su_s (F21.z (F21.su (ks := [14]) (by decide)) (by decide) (hf5.z (by decide) (hz 11 _ _ (by decide)))) (fun _ => (F21.z (F21.su (ks := [14]) (by decide)) (by decide) (hf5.z (by decide) (hz 12 _ _ (by decide)))))) li_X8_9 rfl (by rw [hR]; exact ⟨Nat.le_of_ble_eq_true rfl, Nat.le_of_ble_eq_true rfl⟩) (by rw [hR]; exact ⟨Nat.le_of_ble_eq_true rfl, Nat.le_of_ble_eq_true rfl⟩) rfl (Nat.le_of_ble_eq_true rfl) (atL dAX8_init_0 30 rfl) (fun _ w6 σ6 hp6 => ?_)
  obtain ⟨hwt6, hF6⟩ := hp6
  obtain ⟨hw6, ha6⟩ := Wad.mk hw5 hr6 hwt6
  have hn6 : σ6 21 13 0 = 6 := hF6.n (by decide) ((su_i (by decide)).trans hm5)
  replace hF6 : F21 [13, 14] σ σ6 := (hf5.tr (F21.su (ks := [14]) (by decide)) (by decide)).tr hF6 (by decide)
  clear hwt6 hr6
  show V X (12, 1632) w6 _ _ σ6 [.ref a6, .ref o]
  refine v_eq2 ha6 ((hw6.2 _ _ hl).trans ho) (rp_X8_28 hX hnm (hw6.old hl) (hw6.new (by decide)) hn6 (atL dAX8_init_0 31 rfl) ?_)
  have hm6 : su σ6 21 13 0 (((6 : Nat) : Int) + 1) 21 13 0 = 7 := su_s
  have hf6 : F21 [13, 14] σ (su σ6 21 13 0 (((6 : Nat) : Int) + 1)) := hF6.tr (F21.su (ks := [13]) (by decide)) (by decide)
  obtain ⟨τ6, hs6⟩ : ∃ q, su σ6 21 13 0 (((6 : Nat) : Int) + 1) = q := ⟨_, rfl⟩
  rw [hs6] at hm6 hf6
  rw [hs6]
  clear hs6 hn6 hF6 ha6 hw5 hm5 hf5
  refine v_aload_n hX 0 rfl (atL dAX8_init_0 32 rfl) ?_
  have hr7 := hw6.fr (k := 44) (i := 6) (hfr (44, 6) (by decide)) (by decide)
  refine nw_X8_7 hX (i := 6) hr7 (by rw [hR]; exact ⟨Nat.le_of_ble_eq_true rfl, Nat.le_of_ble_eq_true rfl⟩) (atL dAX8_init_0 33 rfl) (fun a7 => ?_)
  refine v_dup hX rfl (atL dAX8_init_0 34 rfl) ?_
  refine v_callIN hX (As := []) (rest := [.ref a7, .ref o]) (c_X7_init _ _ _ (i := 6) (o := a7) wup_new wup_at (wup_fr (hw6.fr (hfr (14, 6) (by decide)) (by decide)) (by decide)) (wup_fr (hw6.fr (hfr (15, 6) (by decide)) (by decide)) (by decide)) su_s (F21.z (F21.su (ks := [14]) (by decide)) (by decide) (hf6.z (by decide) (hz 11 _ _ (by decide)))) (fun _ => (F21.z (F21.su (ks := [14]) (by decide)) (by decide) (hf6.z (by decide) (hz 12 _ _ (by decide)))))) li_X8_9 rfl (by rw [hR]; exact ⟨Nat.le_of_ble_eq_true rfl, Nat.le_of_ble_eq_true rfl⟩) (by rw [hR]; exact ⟨Nat.le_of_ble_eq_true rfl, Nat.le_of_ble_eq_true rfl⟩) rfl (Nat.le_of_ble_eq_true rfl) (atL dAX8_init_0 35 rfl) (fun _ w7 σ7 hp7 => ?_)
  obtain ⟨hwt7, hF7⟩ := hp7
  obtain ⟨hw7, ha7⟩ := Wad.mk hw6 hr7 hwt7
  have hn7 : σ7 21 13 0 = 7 := hF7.n (by decide) ((su_i (by decide)).trans hm6)
  replace hF7 : F21 [13, 14] σ σ7 := (hf6.tr (F21.su (ks := [14]) (by decide)) (by decide)).tr hF7 (by decide)
  clear hwt7 hr7
  show V X (14, 1904) w7 _ _ σ7 [.ref a7, .ref o]
  refine v_eq2 ha7 ((hw7.2 _ _ hl).trans ho) (rp_X8_31 hX hnm (hw7.old hl) (hw7.new (by decide)) hn7 (atL dAX8_init_0 36 rfl) ?_)
  have hm7 : su σ7 21 13 0 (((7 : Nat) : Int) + 1) 21 13 0 = 8 := su_s
  have hf7 : F21 [13, 14] σ (su σ7 21 13 0 (((7 : Nat) : Int) + 1)) := hF7.tr (F21.su (ks := [13]) (by decide)) (by decide)
  obtain ⟨τ7, hs7⟩ : ∃ q, su σ7 21 13 0 (((7 : Nat) : Int) + 1) = q := ⟨_, rfl⟩
  rw [hs7] at hm7 hf7
  rw [hs7]
  clear hs7 hn7 hF7 ha7 hw6 hm6 hf6
  refine v_aload_n hX 0 rfl (atL dAX8_init_0 37 rfl) ?_
  have hr8 := hw7.fr (k := 44) (i := 7) (hfr (44, 7) (by decide)) (by decide)
  refine nw_X8_7 hX (i := 7) hr8 (by rw [hR]; exact ⟨Nat.le_of_ble_eq_true rfl, Nat.le_of_ble_eq_true rfl⟩) (atL dAX8_init_0 38 rfl) (fun a8 => ?_)
  refine v_dup hX rfl (atL dAX8_init_0 39 rfl) ?_
  refine v_callIN hX (As := []) (rest := [.ref a8, .ref o]) (c_X7_init _ _ _ (i := 7) (o := a8) wup_new wup_at (wup_fr (hw7.fr (hfr (14, 7) (by decide)) (by decide)) (by decide)) (wup_fr (hw7.fr (hfr (15, 7) (by decide)) (by decide)) (by decide)) su_s (F21.z (F21.su (ks := [14]) (by decide)) (by decide) (hf7.z (by decide) (hz 11 _ _ (by decide)))) (fun _ => (F21.z (F21.su (ks := [14]) (by decide)) (by decide) (hf7.z (by decide) (hz 12 _ _ (by decide)))))) li_X8_9 rfl (by rw [hR]; exact ⟨Nat.le_of_ble_eq_true rfl, Nat.le_of_ble_eq_true rfl⟩) (by rw [hR]; exact ⟨Nat.le_of_ble_eq_true rfl, Nat.le_of_ble_eq_true rfl⟩) rfl (Nat.le_of_ble_eq_true rfl) (atL dAX8_init_0 40 rfl) (fun _ w8 σ8 hp8 => ?_)
  obtain ⟨hwt8, hF8⟩ := hp8
  obtain ⟨hw8, ha8⟩ := Wad.mk hw7 hr8 hwt8
  have hn8 : σ8 21 13 0 = 8 := hF8.n (by decide) ((su_i (by decide)).trans hm7)
  replace hF8 : F21 [13, 14] σ σ8 := (hf7.tr (F21.su (ks := [14]) (by decide)) (by decide)).tr hF8 (by decide)
  clear hwt8 hr8
  show V X (16, 2176) w8 _ _ σ8 [.ref a8, .ref o]
  refine v_eq2 ha8 ((hw8.2 _ _ hl).trans ho) (rp_X8_34 hX hnm (hw8.old hl) (hw8.new (by decide)) hn8 (atL dAX8_init_0 41 rfl) ?_)
  have hm8 : su σ8 21 13 0 (((8 : Nat) : Int) + 1) 21 13 0 = 9 := su_s
  have hf8 : F21 [13, 14] σ (su σ8 21 13 0 (((8 : Nat) : Int) + 1)) := hF8.tr (F21.su (ks := [13]) (by decide)) (by decide)
  obtain ⟨τ8, hs8⟩ : ∃ q, su σ8 21 13 0 (((8 : Nat) : Int) + 1) = q := ⟨_, rfl⟩
  rw [hs8] at hm8 hf8
  rw [hs8]
  clear hs8 hn8 hF8 ha8 hw7 hm7 hf7
  refine v_aload_n hX 0 rfl (atL dAX8_init_0 42 rfl) ?_
  have hr9 := hw8.fr (k := 44) (i := 8) (hfr (44, 8) (by decide)) (by decide)
  refine nw_X8_7 hX (i := 8) hr9 (by rw [hR]; exact ⟨Nat.le_of_ble_eq_true rfl, Nat.le_of_ble_eq_true rfl⟩) (atL dAX8_init_0 43 rfl) (fun a9 => ?_)
  refine v_dup hX rfl (atL dAX8_init_0 44 rfl) ?_
  refine v_callIN hX (As := []) (rest := [.ref a9, .ref o]) (c_X7_init _ _ _ (i := 8) (o := a9) wup_new wup_at (wup_fr (hw8.fr (hfr (14, 8) (by decide)) (by decide)) (by decide)) (wup_fr (hw8.fr (hfr (15, 8) (by decide)) (by decide)) (by decide)) su_s (F21.z (F21.su (ks := [14]) (by decide)) (by decide) (hf8.z (by decide) (hz 11 _ _ (by decide)))) (fun _ => (F21.z (F21.su (ks := [14]) (by decide)) (by decide) (hf8.z (by decide) (hz 12 _ _ (by decide)))))) li_X8_9 rfl (by rw [hR]; exact ⟨Nat.le_of_ble_eq_true rfl, Nat.le_of_ble_eq_true rfl⟩) (by rw [hR]; exact ⟨Nat.le_of_ble_eq_true rfl, Nat.le_of_ble_eq_true rfl⟩) rfl (Nat.le_of_ble_eq_true rfl) (atL dAX8_init_0 45 rfl) (fun _ w9 σ9 hp9 => ?_)
  obtain ⟨hwt9, hF9⟩ := hp9
  obtain ⟨hw9, ha9⟩ := Wad.mk hw8 hr9 hwt9
  have hn9 : σ9 21 13 0 = 9 := hF9.n (by decide) ((su_i (by decide)).trans hm8)
  replace hF9 : F21 [13, 14] σ σ9 := (hf8.tr (F21.su (ks := [14]) (by decide)) (by decide)).tr hF9 (by decide)
  clear hwt9 hr9
  show V X (18, 2448) w9 _ _ σ9 [.ref a9, .ref o]
  refine v_eq2 ha9 ((hw9.2 _ _ hl).trans ho) (rp_X8_37 hX hnm (hw9.old hl) (hw9.new (by decide)) hn9 (atL dAX8_init_0 46 rfl) ?_)
  have hm9 : su σ9 21 13 0 (((9 : Nat) : Int) + 1) 21 13 0 = 10 := su_s
  have hf9 : F21 [13, 14] σ (su σ9 21 13 0 (((9 : Nat) : Int) + 1)) := hF9.tr (F21.su (ks := [13]) (by decide)) (by decide)
  obtain ⟨τ9, hs9⟩ : ∃ q, su σ9 21 13 0 (((9 : Nat) : Int) + 1) = q := ⟨_, rfl⟩
  rw [hs9] at hm9 hf9
  rw [hs9]
  clear hs9 hn9 hF9 ha9 hw8 hm8 hf8
  refine v_aload_n hX 0 rfl (atL dAX8_init_0 47 rfl) ?_
  have hr10 := hw9.fr (k := 44) (i := 9) (hfr (44, 9) (by decide)) (by decide)
  refine nw_X8_7 hX (i := 9) hr10 (by rw [hR]; exact ⟨Nat.le_of_ble_eq_true rfl, Nat.le_of_ble_eq_true rfl⟩) (atL dAX8_init_0 48 rfl) (fun a10 => ?_)
  refine v_dup hX rfl (atL dAX8_init_0 49 rfl) ?_
  refine v_callIN hX (As := []) (rest := [.ref a10, .ref o]) (c_X7_init _ _ _ (i := 9) (o := a10) wup_new wup_at (wup_fr (hw9.fr (hfr (14, 9) (by decide)) (by decide)) (by decide)) (wup_fr (hw9.fr (hfr (15, 9) (by decide)) (by decide)) (by decide)) su_s (F21.z (F21.su (ks := [14]) (by decide)) (by decide) (hf9.z (by decide) (hz 11 _ _ (by decide)))) (fun _ => (F21.z (F21.su (ks := [14]) (by decide)) (by decide) (hf9.z (by decide) (hz 12 _ _ (by decide)))))) li_X8_9 rfl (by rw [hR]; exact ⟨Nat.le_of_ble_eq_true rfl, Nat.le_of_ble_eq_true rfl⟩) (by rw [hR]; exact ⟨Nat.le_of_ble_eq_true rfl, Nat.le_of_ble_eq_true rfl⟩) rfl (Nat.le_of_ble_eq_true rfl) (atL dAX8_init_0 50 rfl) (fun _ w10 σ10 hp10 => ?_)
  obtain ⟨hwt10, hF10⟩ := hp10
  obtain ⟨hw10, ha10⟩ := Wad.mk hw9 hr10 hwt10
  have hn10 : σ10 21 13 0 = 10 := hF10.n (by decide) ((su_i (by decide)).trans hm9)
  replace hF10 : F21 [13, 14] σ σ10 := (hf9.tr (F21.su (ks := [14]) (by decide)) (by decide)).tr hF10 (by decide)
  clear hwt10 hr10
  show V X (20, 2720) w10 _ _ σ10 [.ref a10, .ref o]
  refine v_eq2 ha10 ((hw10.2 _ _ hl).trans ho) (rp_X8_40 hX hnm (hw10.old hl) (hw10.new (by decide)) hn10 (atL dAX8_init_0 51 rfl) ?_)
  have hm10 : su σ10 21 13 0 (((10 : Nat) : Int) + 1) 21 13 0 = 11 := su_s
  have hf10 : F21 [13, 14] σ (su σ10 21 13 0 (((10 : Nat) : Int) + 1)) := hF10.tr (F21.su (ks := [13]) (by decide)) (by decide)
  obtain ⟨τ10, hs10⟩ : ∃ q, su σ10 21 13 0 (((10 : Nat) : Int) + 1) = q := ⟨_, rfl⟩
  rw [hs10] at hm10 hf10
  rw [hs10]
  clear hs10 hn10 hF10 ha10 hw9 hm9 hf9
  refine v_aload_n hX 0 rfl (atL dAX8_init_0 52 rfl) ?_
  have hr11 := hw10.fr (k := 44) (i := 10) (hfr (44, 10) (by decide)) (by decide)
  refine nw_X8_7 hX (i := 10) hr11 (by rw [hR]; exact ⟨Nat.le_of_ble_eq_true rfl, Nat.le_of_ble_eq_true rfl⟩) (atL dAX8_init_0 53 rfl) (fun a11 => ?_)
  refine v_dup hX rfl (atL dAX8_init_0 54 rfl) ?_
  refine v_callIN hX (As := []) (rest := [.ref a11, .ref o]) (c_X7_init _ _ _ (i := 10) (o := a11) wup_new wup_at (wup_fr (hw10.fr (hfr (14, 10) (by decide)) (by decide)) (by decide)) (wup_fr (hw10.fr (hfr (15, 10) (by decide)) (by decide)) (by decide)) su_s (F21.z (F21.su (ks := [14]) (by decide)) (by decide) (hf10.z (by decide) (hz 11 _ _ (by decide)))) (fun _ => (F21.z (F21.su (ks := [14]) (by decide)) (by decide) (hf10.z (by decide) (hz 12 _ _ (by decide)))))) li_X8_9 rfl (by rw [hR]; exact ⟨Nat.le_of_ble_eq_true rfl, Nat.le_of_ble_eq_true rfl⟩) (by rw [hR]; exact ⟨Nat.le_of_ble_eq_true rfl, Nat.le_of_ble_eq_true rfl⟩) rfl (Nat.le_of_ble_eq_true rfl) (atL dAX8_init_0 55 rfl) (fun _ w11 σ11 hp11 => ?_)
  obtain ⟨hwt11, hF11⟩ := hp11
  obtain ⟨hw11, ha11⟩ := Wad.mk hw10 hr11 hwt11
  have hn11 : σ11 21 13 0 = 11 := hF11.n (by decide) ((su_i (by decide)).trans hm10)
  replace hF11 : F21 [13, 14] σ σ11 := (hf10.tr (F21.su (ks := [14]) (by decide)) (by decide)).tr hF11 (by decide)
  clear hwt11 hr11
  show V X (22, 2992) w11 _ _ σ11 [.ref a11, .ref o]
  refine v_eq2 ha11 ((hw11.2 _ _ hl).trans ho) (rp_X8_43 hX hnm (hw11.old hl) (hw11.new (by decide)) hn11 (atL dAX8_init_0 56 rfl) ?_)
  have hm11 : su σ11 21 13 0 (((11 : Nat) : Int) + 1) 21 13 0 = 12 := su_s
  have hf11 : F21 [13, 14] σ (su σ11 21 13 0 (((11 : Nat) : Int) + 1)) := hF11.tr (F21.su (ks := [13]) (by decide)) (by decide)
  obtain ⟨τ11, hs11⟩ : ∃ q, su σ11 21 13 0 (((11 : Nat) : Int) + 1) = q := ⟨_, rfl⟩
  rw [hs11] at hm11 hf11
  rw [hs11]
  clear hs11 hn11 hF11 ha11 hw10 hm10 hf10
  refine v_aload_n hX 0 rfl (atL dAX8_init_0 57 rfl) ?_
  have hr12 := hw11.fr (k := 44) (i := 11) (hfr (44, 11) (by decide)) (by decide)
  refine nw_X8_7 hX (i := 11) hr12 (by rw [hR]; exact ⟨Nat.le_of_ble_eq_true rfl, Nat.le_of_ble_eq_true rfl⟩) (atL dAX8_init_0 58 rfl) (fun a12 => ?_)
  refine v_dup hX rfl (atL dAX8_init_0 59 rfl) ?_
  refine v_callIN hX (As := []) (rest := [.ref a12, .ref o]) (c_X7_init _ _ _ (i := 11) (o := a12) wup_new wup_at (wup_fr (hw11.fr (hfr (14, 11) (by decide)) (by decide)) (by decide)) (wup_fr (hw11.fr (hfr (15, 11) (by decide)) (by decide)) (by decide)) su_s (F21.z (F21.su (ks := [14]) (by decide)) (by decide) (hf11.z (by decide) (hz 11 _ _ (by decide)))) (fun _ => (F21.z (F21.su (ks := [14]) (by decide)) (by decide) (hf11.z (by decide) (hz 12 _ _ (by decide)))))) li_X8_9 rfl (by rw [hR]; exact ⟨Nat.le_of_ble_eq_true rfl, Nat.le_of_ble_eq_true rfl⟩) (by rw [hR]; exact ⟨Nat.le_of_ble_eq_true rfl, Nat.le_of_ble_eq_true rfl⟩) rfl (Nat.le_of_ble_eq_true rfl) (atL dAX8_init_1 0 rfl) (fun _ w12 σ12 hp12 => ?_)
  obtain ⟨hwt12, hF12⟩ := hp12
  obtain ⟨hw12, ha12⟩ := Wad.mk hw11 hr12 hwt12
  have hn12 : σ12 21 13 0 = 12 := hF12.n (by decide) ((su_i (by decide)).trans hm11)
  replace hF12 : F21 [13, 14] σ σ12 := (hf11.tr (F21.su (ks := [14]) (by decide)) (by decide)).tr hF12 (by decide)
  clear hwt12 hr12
  show V X (24, 3264) w12 _ _ σ12 [.ref a12, .ref o]
  refine v_eq2 ha12 ((hw12.2 _ _ hl).trans ho) (rp_X8_46 hX hnm (hw12.old hl) (hw12.new (by decide)) hn12 (atL dAX8_init_1 1 rfl) ?_)
  have hm12 : su σ12 21 13 0 (((12 : Nat) : Int) + 1) 21 13 0 = 13 := su_s
  have hf12 : F21 [13, 14] σ (su σ12 21 13 0 (((12 : Nat) : Int) + 1)) := hF12.tr (F21.su (ks := [13]) (by decide)) (by decide)
  obtain ⟨τ12, hs12⟩ : ∃ q, su σ12 21 13 0 (((12 : Nat) : Int) + 1) = q := ⟨_, rfl⟩
  rw [hs12] at hm12 hf12
  rw [hs12]
  clear hs12 hn12 hF12 ha12 hw11 hm11 hf11
  refine v_aload_n hX 0 rfl (atL dAX8_init_1 2 rfl) ?_
  have hr13 := hw12.fr (k := 44) (i := 12) (hfr (44, 12) (by decide)) (by decide)
  refine nw_X8_7 hX (i := 12) hr13 (by rw [hR]; exact ⟨Nat.le_of_ble_eq_true rfl, Nat.le_of_ble_eq_true rfl⟩) (atL dAX8_init_1 3 rfl) (fun a13 => ?_)
  refine v_dup hX rfl (atL dAX8_init_1 4 rfl) ?_
  refine v_callIN hX (As := []) (rest := [.ref a13, .ref o]) (c_X7_init _ _ _ (i := 12) (o := a13) wup_new wup_at (wup_fr (hw12.fr (hfr (14, 12) (by decide)) (by decide)) (by decide)) (wup_fr (hw12.fr (hfr (15, 12) (by decide)) (by decide)) (by decide)) su_s (F21.z (F21.su (ks := [14]) (by decide)) (by decide) (hf12.z (by decide) (hz 11 _ _ (by decide)))) (fun _ => (F21.z (F21.su (ks := [14]) (by decide)) (by decide) (hf12.z (by decide) (hz 12 _ _ (by decide)))))) li_X8_9 rfl (by rw [hR]; exact ⟨Nat.le_of_ble_eq_true rfl, Nat.le_of_ble_eq_true rfl⟩) (by rw [hR]; exact ⟨Nat.le_of_ble_eq_true rfl, Nat.le_of_ble_eq_true rfl⟩) rfl (Nat.le_of_ble_eq_true rfl) (atL dAX8_init_1 5 rfl) (fun _ w13 σ13 hp13 => ?_)
  obtain ⟨hwt13, hF13⟩ := hp13
  obtain ⟨hw13, ha13⟩ := Wad.mk hw12 hr13 hwt13
  have hn13 : σ13 21 13 0 = 13 := hF13.n (by decide) ((su_i (by decide)).trans hm12)
  replace hF13 : F21 [13, 14] σ σ13 := (hf12.tr (F21.su (ks := [14]) (by decide)) (by decide)).tr hF13 (by decide)
  clear hwt13 hr13
  show V X (26, 3536) w13 _ _ σ13 [.ref a13, .ref o]
  refine v_eq2 ha13 ((hw13.2 _ _ hl).trans ho) (rp_X8_49 hX hnm (hw13.old hl) (hw13.new (by decide)) hn13 (atL dAX8_init_1 6 rfl) ?_)
  have hm13 : su σ13 21 13 0 (((13 : Nat) : Int) + 1) 21 13 0 = 14 := su_s
  have hf13 : F21 [13, 14] σ (su σ13 21 13 0 (((13 : Nat) : Int) + 1)) := hF13.tr (F21.su (ks := [13]) (by decide)) (by decide)
  obtain ⟨τ13, hs13⟩ : ∃ q, su σ13 21 13 0 (((13 : Nat) : Int) + 1) = q := ⟨_, rfl⟩
  rw [hs13] at hm13 hf13
  rw [hs13]
  clear hs13 hn13 hF13 ha13 hw12 hm12 hf12
  refine v_aload_n hX 0 rfl (atL dAX8_init_1 7 rfl) ?_
  have hr14 := hw13.fr (k := 44) (i := 13) (hfr (44, 13) (by decide)) (by decide)
  refine nw_X8_7 hX (i := 13) hr14 (by rw [hR]; exact ⟨Nat.le_of_ble_eq_true rfl, Nat.le_of_ble_eq_true rfl⟩) (atL dAX8_init_1 8 rfl) (fun a14 => ?_)
  refine v_dup hX rfl (atL dAX8_init_1 9 rfl) ?_
  refine v_callIN hX (As := []) (rest := [.ref a14, .ref o]) (c_X7_init _ _ _ (i := 13) (o := a14) wup_new wup_at (wup_fr (hw13.fr (hfr (14, 13) (by decide)) (by decide)) (by decide)) (wup_fr (hw13.fr (hfr (15, 13) (by decide)) (by decide)) (by decide)) su_s (F21.z (F21.su (ks := [14]) (by decide)) (by decide) (hf13.z (by decide) (hz 11 _ _ (by decide)))) (fun _ => (F21.z (F21.su (ks := [14]) (by decide)) (by decide) (hf13.z (by decide) (hz 12 _ _ (by decide)))))) li_X8_9 rfl (by rw [hR]; exact ⟨Nat.le_of_ble_eq_true rfl, Nat.le_of_ble_eq_true rfl⟩) (by rw [hR]; exact ⟨Nat.le_of_ble_eq_true rfl, Nat.le_of_ble_eq_true rfl⟩) rfl (Nat.le_of_ble_eq_true rfl) (atL dAX8_init_1 10 rfl) (fun _ w14 σ14 hp14 => ?_)
  obtain ⟨hwt14, hF14⟩ := hp14
  obtain ⟨hw14, ha14⟩ := Wad.mk hw13 hr14 hwt14
  have hn14 : σ14 21 13 0 = 14 := hF14.n (by decide) ((su_i (by decide)).trans hm13)
  replace hF14 : F21 [13, 14] σ σ14 := (hf13.tr (F21.su (ks := [14]) (by decide)) (by decide)).tr hF14 (by decide)
  clear hwt14 hr14
  show V X (28, 3808) w14 _ _ σ14 [.ref a14, .ref o]
  refine v_eq2 ha14 ((hw14.2 _ _ hl).trans ho) (rp_X8_52 hX hnm (hw14.old hl) (hw14.new (by decide)) hn14 (atL dAX8_init_1 11 rfl) ?_)
  have hm14 : su σ14 21 13 0 (((14 : Nat) : Int) + 1) 21 13 0 = 15 := su_s
  have hf14 : F21 [13, 14] σ (su σ14 21 13 0 (((14 : Nat) : Int) + 1)) := hF14.tr (F21.su (ks := [13]) (by decide)) (by decide)
  obtain ⟨τ14, hs14⟩ : ∃ q, su σ14 21 13 0 (((14 : Nat) : Int) + 1) = q := ⟨_, rfl⟩
  rw [hs14] at hm14 hf14
  rw [hs14]
  clear hs14 hn14 hF14 ha14 hw13 hm13 hf13
  refine v_aload_n hX 0 rfl (atL dAX8_init_1 12 rfl) ?_
  have hr15 := hw14.fr (k := 44) (i := 14) (hfr (44, 14) (by decide)) (by decide)
  refine nw_X8_7 hX (i := 14) hr15 (by rw [hR]; exact ⟨Nat.le_of_ble_eq_true rfl, Nat.le_of_ble_eq_true rfl⟩) (atL dAX8_init_1 13 rfl) (fun a15 => ?_)
  refine v_dup hX rfl (atL dAX8_init_1 14 rfl) ?_
  refine v_callIN hX (As := []) (rest := [.ref a15, .ref o]) (c_X7_init _ _ _ (i := 14) (o := a15) wup_new wup_at (wup_fr (hw14.fr (hfr (14, 14) (by decide)) (by decide)) (by decide)) (wup_fr (hw14.fr (hfr (15, 14) (by decide)) (by decide)) (by decide)) su_s (F21.z (F21.su (ks := [14]) (by decide)) (by decide) (hf14.z (by decide) (hz 11 _ _ (by decide)))) (fun _ => (F21.z (F21.su (ks := [14]) (by decide)) (by decide) (hf14.z (by decide) (hz 12 _ _ (by decide)))))) li_X8_9 rfl (by rw [hR]; exact ⟨Nat.le_of_ble_eq_true rfl, Nat.le_of_ble_eq_true rfl⟩) (by rw [hR]; exact ⟨Nat.le_of_ble_eq_true rfl, Nat.le_of_ble_eq_true rfl⟩) rfl (Nat.le_of_ble_eq_true rfl) (atL dAX8_init_1 15 rfl) (fun _ w15 σ15 hp15 => ?_)
  obtain ⟨hwt15, hF15⟩ := hp15
  obtain ⟨hw15, ha15⟩ := Wad.mk hw14 hr15 hwt15
  have hn15 : σ15 21 13 0 = 15 := hF15.n (by decide) ((su_i (by decide)).trans hm14)
  replace hF15 : F21 [13, 14] σ σ15 := (hf14.tr (F21.su (ks := [14]) (by decide)) (by decide)).tr hF15 (by decide)
  clear hwt15 hr15
  show V X (30, 4080) w15 _ _ σ15 [.ref a15, .ref o]
  refine v_eq2 ha15 ((hw15.2 _ _ hl).trans ho) (rp_X8_55 hX hnm (hw15.old hl) (hw15.new (by decide)) hn15 (atL dAX8_init_1 16 rfl) ?_)
  have hm15 : su σ15 21 13 0 (((15 : Nat) : Int) + 1) 21 13 0 = 16 := su_s
  have hf15 : F21 [13, 14] σ (su σ15 21 13 0 (((15 : Nat) : Int) + 1)) := hF15.tr (F21.su (ks := [13]) (by decide)) (by decide)
  obtain ⟨τ15, hs15⟩ : ∃ q, su σ15 21 13 0 (((15 : Nat) : Int) + 1) = q := ⟨_, rfl⟩
  rw [hs15] at hm15 hf15
  rw [hs15]
  clear hs15 hn15 hF15 ha15 hw14 hm14 hf14
  refine v_aload_n hX 0 rfl (atL dAX8_init_1 17 rfl) ?_
  have hr16 := hw15.fr (k := 44) (i := 15) (hfr (44, 15) (by decide)) (by decide)
  refine nw_X8_7 hX (i := 15) hr16 (by rw [hR]; exact ⟨Nat.le_of_ble_eq_true rfl, Nat.le_of_ble_eq_true rfl⟩) (atL dAX8_init_1 18 rfl) (fun a16 => ?_)
  refine v_dup hX rfl (atL dAX8_init_1 19 rfl) ?_
  refine v_callIN hX (As := []) (rest := [.ref a16, .ref o]) (c_X7_init _ _ _ (i := 15) (o := a16) wup_new wup_at (wup_fr (hw15.fr (hfr (14, 15) (by decide)) (by decide)) (by decide)) (wup_fr (hw15.fr (hfr (15, 15) (by decide)) (by decide)) (by decide)) su_s (F21.z (F21.su (ks := [14]) (by decide)) (by decide) (hf15.z (by decide) (hz 11 _ _ (by decide)))) (fun _ => (F21.z (F21.su (ks := [14]) (by decide)) (by decide) (hf15.z (by decide) (hz 12 _ _ (by decide)))))) li_X8_9 rfl (by rw [hR]; exact ⟨Nat.le_of_ble_eq_true rfl, Nat.le_of_ble_eq_true rfl⟩) (by rw [hR]; exact ⟨Nat.le_of_ble_eq_true rfl, Nat.le_of_ble_eq_true rfl⟩) rfl (Nat.le_of_ble_eq_true rfl) (atL dAX8_init_1 20 rfl) (fun _ w16 σ16 hp16 => ?_)
  obtain ⟨hwt16, hF16⟩ := hp16
  obtain ⟨hw16, ha16⟩ := Wad.mk hw15 hr16 hwt16
  have hn16 : σ16 21 13 0 = 16 := hF16.n (by decide) ((su_i (by decide)).trans hm15)
  replace hF16 : F21 [13, 14] σ σ16 := (hf15.tr (F21.su (ks := [14]) (by decide)) (by decide)).tr hF16 (by decide)
  clear hwt16 hr16
  show V X (32, 4352) w16 _ _ σ16 [.ref a16, .ref o]
  refine v_eq2 ha16 ((hw16.2 _ _ hl).trans ho) (rp_X8_58 hX hnm (hw16.old hl) (hw16.new (by decide)) hn16 (atL dAX8_init_1 21 rfl) ?_)
  have hm16 : su σ16 21 13 0 (((16 : Nat) : Int) + 1) 21 13 0 = 17 := su_s
  have hf16 : F21 [13, 14] σ (su σ16 21 13 0 (((16 : Nat) : Int) + 1)) := hF16.tr (F21.su (ks := [13]) (by decide)) (by decide)
  obtain ⟨τ16, hs16⟩ : ∃ q, su σ16 21 13 0 (((16 : Nat) : Int) + 1) = q := ⟨_, rfl⟩
  rw [hs16] at hm16 hf16
  rw [hs16]
  clear hs16 hn16 hF16 ha16 hw15 hm15 hf15
  refine v_aload_n hX 0 rfl (atL dAX8_init_1 22 rfl) ?_
  have hr17 := hw16.fr (k := 44) (i := 16) (hfr (44, 16) (by decide)) (by decide)
  refine nw_X8_7 hX (i := 16) hr17 (by rw [hR]; exact ⟨Nat.le_of_ble_eq_true rfl, Nat.le_of_ble_eq_true rfl⟩) (atL dAX8_init_1 23 rfl) (fun a17 => ?_)
  refine v_dup hX rfl (atL dAX8_init_1 24 rfl) ?_
  refine v_callIN hX (As := []) (rest := [.ref a17, .ref o]) (c_X7_init _ _ _ (i := 16) (o := a17) wup_new wup_at (wup_fr (hw16.fr (hfr (14, 16) (by decide)) (by decide)) (by decide)) (wup_fr (hw16.fr (hfr (15, 16) (by decide)) (by decide)) (by decide)) su_s (F21.z (F21.su (ks := [14]) (by decide)) (by decide) (hf16.z (by decide) (hz 11 _ _ (by decide)))) (fun _ => (F21.z (F21.su (ks := [14]) (by decide)) (by decide) (hf16.z (by decide) (hz 12 _ _ (by decide)))))) li_X8_9 rfl (by rw [hR]; exact ⟨Nat.le_of_ble_eq_true rfl, Nat.le_of_ble_eq_true rfl⟩) (by rw [hR]; exact ⟨Nat.le_of_ble_eq_true rfl, Nat.le_of_ble_eq_true rfl⟩) rfl (Nat.le_of_ble_eq_true rfl) (atL dAX8_init_1 25 rfl) (fun _ w17 σ17 hp17 => ?_)
  obtain ⟨hwt17, hF17⟩ := hp17
  obtain ⟨hw17, ha17⟩ := Wad.mk hw16 hr17 hwt17
  have hn17 : σ17 21 13 0 = 17 := hF17.n (by decide) ((su_i (by decide)).trans hm16)
  replace hF17 : F21 [13, 14] σ σ17 := (hf16.tr (F21.su (ks := [14]) (by decide)) (by decide)).tr hF17 (by decide)
  clear hwt17 hr17
  show V X (34, 4624) w17 _ _ σ17 [.ref a17, .ref o]
  refine v_eq2 ha17 ((hw17.2 _ _ hl).trans ho) (rp_X8_61 hX hnm (hw17.old hl) (hw17.new (by decide)) hn17 (atL dAX8_init_1 26 rfl) ?_)
  have hm17 : su σ17 21 13 0 (((17 : Nat) : Int) + 1) 21 13 0 = 18 := su_s
  have hf17 : F21 [13, 14] σ (su σ17 21 13 0 (((17 : Nat) : Int) + 1)) := hF17.tr (F21.su (ks := [13]) (by decide)) (by decide)
  obtain ⟨τ17, hs17⟩ : ∃ q, su σ17 21 13 0 (((17 : Nat) : Int) + 1) = q := ⟨_, rfl⟩
  rw [hs17] at hm17 hf17
  rw [hs17]
  clear hs17 hn17 hF17 ha17 hw16 hm16 hf16
  refine v_aload_n hX 0 rfl (atL dAX8_init_1 27 rfl) ?_
  have hr18 := hw17.fr (k := 44) (i := 17) (hfr (44, 17) (by decide)) (by decide)
  refine nw_X8_7 hX (i := 17) hr18 (by rw [hR]; exact ⟨Nat.le_of_ble_eq_true rfl, Nat.le_of_ble_eq_true rfl⟩) (atL dAX8_init_1 28 rfl) (fun a18 => ?_)
  refine v_dup hX rfl (atL dAX8_init_1 29 rfl) ?_
  refine v_callIN hX (As := []) (rest := [.ref a18, .ref o]) (c_X7_init _ _ _ (i := 17) (o := a18) wup_new wup_at (wup_fr (hw17.fr (hfr (14, 17) (by decide)) (by decide)) (by decide)) (wup_fr (hw17.fr (hfr (15, 17) (by decide)) (by decide)) (by decide)) su_s (F21.z (F21.su (ks := [14]) (by decide)) (by decide) (hf17.z (by decide) (hz 11 _ _ (by decide)))) (fun _ => (F21.z (F21.su (ks := [14]) (by decide)) (by decide) (hf17.z (by decide) (hz 12 _ _ (by decide)))))) li_X8_9 rfl (by rw [hR]; exact ⟨Nat.le_of_ble_eq_true rfl, Nat.le_of_ble_eq_true rfl⟩) (by rw [hR]; exact ⟨Nat.le_of_ble_eq_true rfl, Nat.le_of_ble_eq_true rfl⟩) rfl (Nat.le_of_ble_eq_true rfl) (atL dAX8_init_1 30 rfl) (fun _ w18 σ18 hp18 => ?_)
  obtain ⟨hwt18, hF18⟩ := hp18
  obtain ⟨hw18, ha18⟩ := Wad.mk hw17 hr18 hwt18
  have hn18 : σ18 21 13 0 = 18 := hF18.n (by decide) ((su_i (by decide)).trans hm17)
  replace hF18 : F21 [13, 14] σ σ18 := (hf17.tr (F21.su (ks := [14]) (by decide)) (by decide)).tr hF18 (by decide)
  clear hwt18 hr18
  show V X (36, 4896) w18 _ _ σ18 [.ref a18, .ref o]
  refine v_eq2 ha18 ((hw18.2 _ _ hl).trans ho) (rp_X8_64 hX hnm (hw18.old hl) (hw18.new (by decide)) hn18 (atL dAX8_init_1 31 rfl) ?_)
  have hm18 : su σ18 21 13 0 (((18 : Nat) : Int) + 1) 21 13 0 = 19 := su_s
  have hf18 : F21 [13, 14] σ (su σ18 21 13 0 (((18 : Nat) : Int) + 1)) := hF18.tr (F21.su (ks := [13]) (by decide)) (by decide)
  obtain ⟨τ18, hs18⟩ : ∃ q, su σ18 21 13 0 (((18 : Nat) : Int) + 1) = q := ⟨_, rfl⟩
  rw [hs18] at hm18 hf18
  rw [hs18]
  clear hs18 hn18 hF18 ha18 hw17 hm17 hf17
  refine v_aload_n hX 0 rfl (atL dAX8_init_1 32 rfl) ?_
  refine v_sipush hX (by decide +kernel) (atL dAX8_init_1 33 rfl) ?_
  have hr19 := hw18.fr (k := 16) (i := 0) (hfr (16, 0) (by decide)) (by decide)
  refine v_newA16 hX (i := 0) (n := 6144) rfl rfl hr19 (by rw [hR]; exact ⟨Nat.le_of_ble_eq_true rfl, Nat.le_of_ble_eq_true rfl⟩) (atL dAX8_init_1 34 rfl) (fun a19 => ?_)
  have hw19 := hw18.up (a := a19) hr19
  rw [zr_id (fun _ => hf18.z (by decide) (hz 13 _ _ (by decide)))]
  have ha19 : (wup w18 16 0 a19).1 16 0 = a19 := wup_at
  obtain ⟨w19, he19⟩ : ∃ q, wup w18 16 0 a19 = q := ⟨_, rfl⟩
  rw [he19] at hw19 ha19
  rw [he19]
  clear he19 hr19
  obtain ⟨σ19, hq19⟩ : ∃ q, q = τ18 := ⟨_, rfl⟩
  have hn19 : σ19 21 13 0 = 19 := by rw [hq19]; exact hm18
  have hF19 : F21 [13, 14] σ σ19 := by rw [hq19]; exact hf18
  rw [← hq19]
  clear hq19
  show V X (37, 11040) w19 _ _ σ19 [.ref a19, .ref o]
  refine v_eq2 ha19 ((hw19.2 _ _ hl).trans ho) (rp_X8_67 hX hnm (hw19.old hl) (hw19.new (by decide)) hn19 (atL dAX8_init_1 35 rfl) ?_)
  have hm19 : su σ19 21 13 0 (((19 : Nat) : Int) + 1) 21 13 0 = 20 := su_s
  have hf19 : F21 [13, 14] σ (su σ19 21 13 0 (((19 : Nat) : Int) + 1)) := hF19.tr (F21.su (ks := [13]) (by decide)) (by decide)
  obtain ⟨τ19, hs19⟩ : ∃ q, su σ19 21 13 0 (((19 : Nat) : Int) + 1) = q := ⟨_, rfl⟩
  rw [hs19] at hm19 hf19
  rw [hs19]
  clear hs19 hn19 hF19 ha19 hw18 hm18 hf18
  refine v_aload_n hX 0 rfl (atL dAX8_init_1 36 rfl) ?_
  refine v_bipush hX (by decide +kernel) (atL dAX8_init_1 37 rfl) ?_
  have hr20 := hw19.fr (k := 16) (i := 1) (hfr (16, 1) (by decide)) (by decide)
  refine v_newA16 hX (i := 1) (n := 24) rfl rfl hr20 (by rw [hR]; exact ⟨Nat.le_of_ble_eq_true rfl, Nat.le_of_ble_eq_true rfl⟩) (atL dAX8_init_1 38 rfl) (fun a20 => ?_)
  have hw20 := hw19.up (a := a20) hr20
  rw [zr_id (fun _ => hf19.z (by decide) (hz 13 _ _ (by decide)))]
  have ha20 : (wup w19 16 1 a20).1 16 1 = a20 := wup_at
  obtain ⟨w20, he20⟩ : ∃ q, wup w19 16 1 a20 = q := ⟨_, rfl⟩
  rw [he20] at hw20 ha20
  rw [he20]
  clear he20 hr20
  obtain ⟨σ20, hq20⟩ : ∃ q, q = τ19 := ⟨_, rfl⟩
  have hn20 : σ20 21 13 0 = 20 := by rw [hq20]; exact hm19
  have hF20 : F21 [13, 14] σ σ20 := by rw [hq20]; exact hf19
  rw [← hq20]
  clear hq20
  show V X (38, 11064) w20 _ _ σ20 [.ref a20, .ref o]
  refine v_eq2 ha20 ((hw20.2 _ _ hl).trans ho) (rp_X8_71 hX hnm (hw20.old hl) (hw20.new (by decide)) hn20 (atL dAX8_init_1 39 rfl) ?_)
  have hm20 : su σ20 21 13 0 (((20 : Nat) : Int) + 1) 21 13 0 = 21 := su_s
  have hf20 : F21 [13, 14] σ (su σ20 21 13 0 (((20 : Nat) : Int) + 1)) := hF20.tr (F21.su (ks := [13]) (by decide)) (by decide)
  obtain ⟨τ20, hs20⟩ : ∃ q, su σ20 21 13 0 (((20 : Nat) : Int) + 1) = q := ⟨_, rfl⟩
  rw [hs20] at hm20 hf20
  rw [hs20]
  clear hs20 hn20 hF20 ha20 hw19 hm19 hf19
  refine v_aload_n hX 0 rfl (atL dAX8_init_1 40 rfl) ?_
  refine v_sipush hX (by decide +kernel) (atL dAX8_init_1 41 rfl) ?_
  have hr21 := hw20.fr (k := 16) (i := 2) (hfr (16, 2) (by decide)) (by decide)
  refine v_newA16 hX (i := 2) (n := 260) rfl rfl hr21 (by rw [hR]; exact ⟨Nat.le_of_ble_eq_true rfl, Nat.le_of_ble_eq_true rfl⟩) (atL dAX8_init_1 42 rfl) (fun a21 => ?_)
  have hw21 := hw20.up (a := a21) hr21
  rw [zr_id (fun _ => hf20.z (by decide) (hz 13 _ _ (by decide)))]
  have ha21 : (wup w20 16 2 a21).1 16 2 = a21 := wup_at
  obtain ⟨w21, he21⟩ : ∃ q, wup w20 16 2 a21 = q := ⟨_, rfl⟩
  rw [he21] at hw21 ha21
  rw [he21]
  clear he21 hr21
  obtain ⟨σ21, hq21⟩ : ∃ q, q = τ20 := ⟨_, rfl⟩
  have hn21 : σ21 21 13 0 = 21 := by rw [hq21]; exact hm20
  have hF21 : F21 [13, 14] σ σ21 := by rw [hq21]; exact hf20
  rw [← hq21]
  clear hq21
  show V X (39, 11324) w21 _ _ σ21 [.ref a21, .ref o]
  refine v_eq2 ha21 ((hw21.2 _ _ hl).trans ho) (rp_X8_74 hX hnm (hw21.old hl) (hw21.new (by decide)) hn21 (atL dAX8_init_1 43 rfl) ?_)
  have hm21 : su σ21 21 13 0 (((21 : Nat) : Int) + 1) 21 13 0 = 22 := su_s
  have hf21 : F21 [13, 14] σ (su σ21 21 13 0 (((21 : Nat) : Int) + 1)) := hF21.tr (F21.su (ks := [13]) (by decide)) (by decide)
  obtain ⟨τ21, hs21⟩ : ∃ q, su σ21 21 13 0 (((21 : Nat) : Int) + 1) = q := ⟨_, rfl⟩
  rw [hs21] at hm21 hf21
  rw [hs21]
  clear hs21 hn21 hF21 ha21 hw20 hm20 hf20
  refine v_aload_n hX 0 rfl (atL dAX8_init_1 44 rfl) ?_
  refine v_sipush hX (by decide +kernel) (atL dAX8_init_1 45 rfl) ?_
  have hr22 := hw21.fr (k := 16) (i := 3) (hfr (16, 3) (by decide)) (by decide)
  refine v_newA16 hX (i := 3) (n := 1000) rfl rfl hr22 (by rw [hR]; exact ⟨Nat.le_of_ble_eq_true rfl, Nat.le_of_ble_eq_true rfl⟩) (atL dAX8_init_1 46 rfl) (fun a22 => ?_)
  have hw22 := hw21.up (a := a22) hr22
  rw [zr_id (fun _ => hf21.z (by decide) (hz 13 _ _ (by decide)))]
  have ha22 : (wup w21 16 3 a22).1 16 3 = a22 := wup_at
  obtain ⟨w22, he22⟩ : ∃ q, wup w21 16 3 a22 = q := ⟨_, rfl⟩
  rw [he22] at hw22 ha22
  rw [he22]
  clear he22 hr22
  obtain ⟨σ22, hq22⟩ : ∃ q, q = τ21 := ⟨_, rfl⟩
  have hn22 : σ22 21 13 0 = 22 := by rw [hq22]; exact hm21
  have hF22 : F21 [13, 14] σ σ22 := by rw [hq22]; exact hf21
  rw [← hq22]
  clear hq22
  show V X (40, 12324) w22 _ _ σ22 [.ref a22, .ref o]
  refine v_eq2 ha22 ((hw22.2 _ _ hl).trans ho) (rp_X8_77 hX hnm (hw22.old hl) (hw22.new (by decide)) hn22 (atL dAX8_init_1 47 rfl) ?_)
  have hm22 : su σ22 21 13 0 (((23 : Nat) : Int) + 1) 21 13 0 = 24 := su_s
  have hf22 : F21 [13, 14] σ (su σ22 21 13 0 (((23 : Nat) : Int) + 1)) := hF22.tr (F21.su (ks := [13]) (by decide)) (by decide)
  obtain ⟨τ22, hs22⟩ : ∃ q, su σ22 21 13 0 (((23 : Nat) : Int) + 1) = q := ⟨_, rfl⟩
  rw [hs22] at hm22 hf22
  rw [hs22]
  clear hs22 hn22 hF22 ha22 hw21 hm21 hf21
  refine v_aload_n hX 0 rfl (atL dAX8_init_1 48 rfl) ?_
  have hr23 := hw22.fr (k := 44) (i := 18) (hfr (44, 18) (by decide)) (by decide)
  refine nw_X8_7 hX (i := 18) hr23 (by rw [hR]; exact ⟨Nat.le_of_ble_eq_true rfl, Nat.le_of_ble_eq_true rfl⟩) (atL dAX8_init_1 49 rfl) (fun a23 => ?_)
  refine v_dup hX rfl (atL dAX8_init_1 50 rfl) ?_
  refine v_callIN hX (As := []) (rest := [.ref a23, .ref o]) (c_X7_init _ _ _ (i := 18) (o := a23) wup_new wup_at (wup_fr (hw22.fr (hfr (14, 18) (by decide)) (by decide)) (by decide)) (wup_fr (hw22.fr (hfr (15, 18) (by decide)) (by decide)) (by decide)) su_s (F21.z (F21.su (ks := [14]) (by decide)) (by decide) (hf22.z (by decide) (hz 11 _ _ (by decide)))) (fun _ => (F21.z (F21.su (ks := [14]) (by decide)) (by decide) (hf22.z (by decide) (hz 12 _ _ (by decide)))))) li_X8_9 rfl (by rw [hR]; exact ⟨Nat.le_of_ble_eq_true rfl, Nat.le_of_ble_eq_true rfl⟩) (by rw [hR]; exact ⟨Nat.le_of_ble_eq_true rfl, Nat.le_of_ble_eq_true rfl⟩) rfl (Nat.le_of_ble_eq_true rfl) (atL dAX8_init_1 51 rfl) (fun _ w23 σ23 hp23 => ?_)
  obtain ⟨hwt23, hF23⟩ := hp23
  obtain ⟨hw23, ha23⟩ := Wad.mk hw22 hr23 hwt23
  have hn23 : σ23 21 13 0 = 24 := hF23.n (by decide) ((su_i (by decide)).trans hm22)
  replace hF23 : F21 [13, 14] σ σ23 := (hf22.tr (F21.su (ks := [14]) (by decide)) (by decide)).tr hF23 (by decide)
  clear hwt23 hr23
  show V X (42, 12596) w23 _ _ σ23 [.ref a23, .ref o]
  refine v_eq2 ha23 ((hw23.2 _ _ hl).trans ho) (rp_X8_80 hX hnm (hw23.old hl) (hw23.new (by decide)) hn23 (atL dAX8_init_1 52 rfl) ?_)
  have hm23 : su σ23 21 13 0 (((25 : Nat) : Int) + 1) 21 13 0 = 26 := su_s
  have hf23 : F21 [13, 14] σ (su σ23 21 13 0 (((25 : Nat) : Int) + 1)) := hF23.tr (F21.su (ks := [13]) (by decide)) (by decide)
  obtain ⟨τ23, hs23⟩ : ∃ q, su σ23 21 13 0 (((25 : Nat) : Int) + 1) = q := ⟨_, rfl⟩
  rw [hs23] at hm23 hf23
  rw [hs23]
  clear hs23 hn23 hF23 ha23 hw22 hm22 hf22
  refine v_aload_n hX 0 rfl (atL dAX8_init_1 53 rfl) ?_
  have hr24 := hw23.fr (k := 44) (i := 19) (hfr (44, 19) (by decide)) (by decide)
  refine nw_X8_7 hX (i := 19) hr24 (by rw [hR]; exact ⟨Nat.le_of_ble_eq_true rfl, Nat.le_of_ble_eq_true rfl⟩) (atL dAX8_init_1 54 rfl) (fun a24 => ?_)
  refine v_dup hX rfl (atL dAX8_init_1 55 rfl) ?_
  refine v_callIN hX (As := []) (rest := [.ref a24, .ref o]) (c_X7_init _ _ _ (i := 19) (o := a24) wup_new wup_at (wup_fr (hw23.fr (hfr (14, 19) (by decide)) (by decide)) (by decide)) (wup_fr (hw23.fr (hfr (15, 19) (by decide)) (by decide)) (by decide)) su_s (F21.z (F21.su (ks := [14]) (by decide)) (by decide) (hf23.z (by decide) (hz 11 _ _ (by decide)))) (fun _ => (F21.z (F21.su (ks := [14]) (by decide)) (by decide) (hf23.z (by decide) (hz 12 _ _ (by decide)))))) li_X8_9 rfl (by rw [hR]; exact ⟨Nat.le_of_ble_eq_true rfl, Nat.le_of_ble_eq_true rfl⟩) (by rw [hR]; exact ⟨Nat.le_of_ble_eq_true rfl, Nat.le_of_ble_eq_true rfl⟩) rfl (Nat.le_of_ble_eq_true rfl) (atL dAX8_init_1 56 rfl) (fun _ w24 σ24 hp24 => ?_)
  obtain ⟨hwt24, hF24⟩ := hp24
  obtain ⟨hw24, ha24⟩ := Wad.mk hw23 hr24 hwt24
  have hn24 : σ24 21 13 0 = 26 := hF24.n (by decide) ((su_i (by decide)).trans hm23)
  replace hF24 : F21 [13, 14] σ σ24 := (hf23.tr (F21.su (ks := [14]) (by decide)) (by decide)).tr hF24 (by decide)
  clear hwt24 hr24
  show V X (44, 12868) w24 _ _ σ24 [.ref a24, .ref o]
  refine v_eq2 ha24 ((hw24.2 _ _ hl).trans ho) (rp_X8_83 hX hnm (hw24.old hl) (hw24.new (by decide)) hn24 (atL dAX8_init_1 57 rfl) ?_)
  have hm24 : su σ24 21 13 0 (((26 : Nat) : Int) + 1) 21 13 0 = 27 := su_s
  have hf24 : F21 [13, 14] σ (su σ24 21 13 0 (((26 : Nat) : Int) + 1)) := hF24.tr (F21.su (ks := [13]) (by decide)) (by decide)
  obtain ⟨τ24, hs24⟩ : ∃ q, su σ24 21 13 0 (((26 : Nat) : Int) + 1) = q := ⟨_, rfl⟩
  rw [hs24] at hm24 hf24
  rw [hs24]
  clear hs24 hn24 hF24 ha24 hw23 hm23 hf23
  refine v_aload_n hX 0 rfl (atL dAX8_init_1 58 rfl) ?_
  have hr25 := hw24.fr (k := 44) (i := 20) (hfr (44, 20) (by decide)) (by decide)
  refine nw_X8_7 hX (i := 20) hr25 (by rw [hR]; exact ⟨Nat.le_of_ble_eq_true rfl, Nat.le_of_ble_eq_true rfl⟩) (atL dAX8_init_1 59 rfl) (fun a25 => ?_)
  refine v_dup hX rfl (atL dAX8_init_2 0 rfl) ?_
  refine v_callIN hX (As := []) (rest := [.ref a25, .ref o]) (c_X7_init _ _ _ (i := 20) (o := a25) wup_new wup_at (wup_fr (hw24.fr (hfr (14, 20) (by decide)) (by decide)) (by decide)) (wup_fr (hw24.fr (hfr (15, 20) (by decide)) (by decide)) (by decide)) su_s (F21.z (F21.su (ks := [14]) (by decide)) (by decide) (hf24.z (by decide) (hz 11 _ _ (by decide)))) (fun _ => (F21.z (F21.su (ks := [14]) (by decide)) (by decide) (hf24.z (by decide) (hz 12 _ _ (by decide)))))) li_X8_9 rfl (by rw [hR]; exact ⟨Nat.le_of_ble_eq_true rfl, Nat.le_of_ble_eq_true rfl⟩) (by rw [hR]; exact ⟨Nat.le_of_ble_eq_true rfl, Nat.le_of_ble_eq_true rfl⟩) rfl (Nat.le_of_ble_eq_true rfl) (atL dAX8_init_2 1 rfl) (fun _ w25 σ25 hp25 => ?_)
  obtain ⟨hwt25, hF25⟩ := hp25
  obtain ⟨hw25, ha25⟩ := Wad.mk hw24 hr25 hwt25
  have hn25 : σ25 21 13 0 = 27 := hF25.n (by decide) ((su_i (by decide)).trans hm24)
  replace hF25 : F21 [13, 14] σ σ25 := (hf24.tr (F21.su (ks := [14]) (by decide)) (by decide)).tr hF25 (by decide)
  clear hwt25 hr25
  show V X (46, 13140) w25 _ _ σ25 [.ref a25, .ref o]
  refine v_eq2 ha25 ((hw25.2 _ _ hl).trans ho) (rp_X8_86 hX hnm (hw25.old hl) (hw25.new (by decide)) hn25 (atL dAX8_init_2 2 rfl) ?_)
  have hm25 : su σ25 21 13 0 (((27 : Nat) : Int) + 1) 21 13 0 = 28 := su_s
  have hf25 : F21 [13, 14] σ (su σ25 21 13 0 (((27 : Nat) : Int) + 1)) := hF25.tr (F21.su (ks := [13]) (by decide)) (by decide)
  obtain ⟨τ25, hs25⟩ : ∃ q, su σ25 21 13 0 (((27 : Nat) : Int) + 1) = q := ⟨_, rfl⟩
  rw [hs25] at hm25 hf25
  rw [hs25]
  clear hs25 hn25 hF25 ha25 hw24 hm24 hf24
  refine v_aload_n hX 0 rfl (atL dAX8_init_2 3 rfl) ?_
  have hr26 := hw25.fr (k := 44) (i := 21) (hfr (44, 21) (by decide)) (by decide)
  refine nw_X8_7 hX (i := 21) hr26 (by rw [hR]; exact ⟨Nat.le_of_ble_eq_true rfl, Nat.le_of_ble_eq_true rfl⟩) (atL dAX8_init_2 4 rfl) (fun a26 => ?_)
  refine v_dup hX rfl (atL dAX8_init_2 5 rfl) ?_
  refine v_callIN hX (As := []) (rest := [.ref a26, .ref o]) (c_X7_init _ _ _ (i := 21) (o := a26) wup_new wup_at (wup_fr (hw25.fr (hfr (14, 21) (by decide)) (by decide)) (by decide)) (wup_fr (hw25.fr (hfr (15, 21) (by decide)) (by decide)) (by decide)) su_s (F21.z (F21.su (ks := [14]) (by decide)) (by decide) (hf25.z (by decide) (hz 11 _ _ (by decide)))) (fun _ => (F21.z (F21.su (ks := [14]) (by decide)) (by decide) (hf25.z (by decide) (hz 12 _ _ (by decide)))))) li_X8_9 rfl (by rw [hR]; exact ⟨Nat.le_of_ble_eq_true rfl, Nat.le_of_ble_eq_true rfl⟩) (by rw [hR]; exact ⟨Nat.le_of_ble_eq_true rfl, Nat.le_of_ble_eq_true rfl⟩) rfl (Nat.le_of_ble_eq_true rfl) (atL dAX8_init_2 6 rfl) (fun _ w26 σ26 hp26 => ?_)
  obtain ⟨hwt26, hF26⟩ := hp26
  obtain ⟨hw26, ha26⟩ := Wad.mk hw25 hr26 hwt26
  have hn26 : σ26 21 13 0 = 28 := hF26.n (by decide) ((su_i (by decide)).trans hm25)
  replace hF26 : F21 [13, 14] σ σ26 := (hf25.tr (F21.su (ks := [14]) (by decide)) (by decide)).tr hF26 (by decide)
  clear hwt26 hr26
  show V X (48, 13412) w26 _ _ σ26 [.ref a26, .ref o]
  refine v_eq2 ha26 ((hw26.2 _ _ hl).trans ho) (rp_X8_89 hX hnm (hw26.old hl) (hw26.new (by decide)) hn26 (atL dAX8_init_2 7 rfl) ?_)
  have hm26 : su σ26 21 13 0 (((28 : Nat) : Int) + 1) 21 13 0 = 29 := su_s
  have hf26 : F21 [13, 14] σ (su σ26 21 13 0 (((28 : Nat) : Int) + 1)) := hF26.tr (F21.su (ks := [13]) (by decide)) (by decide)
  obtain ⟨τ26, hs26⟩ : ∃ q, su σ26 21 13 0 (((28 : Nat) : Int) + 1) = q := ⟨_, rfl⟩
  rw [hs26] at hm26 hf26
  rw [hs26]
  clear hs26 hn26 hF26 ha26 hw25 hm25 hf25
  refine v_aload_n hX 0 rfl (atL dAX8_init_2 8 rfl) ?_
  have hr27 := hw26.fr (k := 44) (i := 22) (hfr (44, 22) (by decide)) (by decide)
  refine nw_X8_7 hX (i := 22) hr27 (by rw [hR]; exact ⟨Nat.le_of_ble_eq_true rfl, Nat.le_of_ble_eq_true rfl⟩) (atL dAX8_init_2 9 rfl) (fun a27 => ?_)
  refine v_dup hX rfl (atL dAX8_init_2 10 rfl) ?_
  refine v_callIN hX (As := []) (rest := [.ref a27, .ref o]) (c_X7_init _ _ _ (i := 22) (o := a27) wup_new wup_at (wup_fr (hw26.fr (hfr (14, 22) (by decide)) (by decide)) (by decide)) (wup_fr (hw26.fr (hfr (15, 22) (by decide)) (by decide)) (by decide)) su_s (F21.z (F21.su (ks := [14]) (by decide)) (by decide) (hf26.z (by decide) (hz 11 _ _ (by decide)))) (fun _ => (F21.z (F21.su (ks := [14]) (by decide)) (by decide) (hf26.z (by decide) (hz 12 _ _ (by decide)))))) li_X8_9 rfl (by rw [hR]; exact ⟨Nat.le_of_ble_eq_true rfl, Nat.le_of_ble_eq_true rfl⟩) (by rw [hR]; exact ⟨Nat.le_of_ble_eq_true rfl, Nat.le_of_ble_eq_true rfl⟩) rfl (Nat.le_of_ble_eq_true rfl) (atL dAX8_init_2 11 rfl) (fun _ w27 σ27 hp27 => ?_)
  obtain ⟨hwt27, hF27⟩ := hp27
  obtain ⟨hw27, ha27⟩ := Wad.mk hw26 hr27 hwt27
  have hn27 : σ27 21 13 0 = 29 := hF27.n (by decide) ((su_i (by decide)).trans hm26)
  replace hF27 : F21 [13, 14] σ σ27 := (hf26.tr (F21.su (ks := [14]) (by decide)) (by decide)).tr hF27 (by decide)
  clear hwt27 hr27
  show V X (50, 13684) w27 _ _ σ27 [.ref a27, .ref o]
  refine v_eq2 ha27 ((hw27.2 _ _ hl).trans ho) (rp_X8_92 hX hnm (hw27.old hl) (hw27.new (by decide)) hn27 (atL dAX8_init_2 12 rfl) ?_)
  have hm27 : su σ27 21 13 0 (((29 : Nat) : Int) + 1) 21 13 0 = 30 := su_s
  have hf27 : F21 [13, 14] σ (su σ27 21 13 0 (((29 : Nat) : Int) + 1)) := hF27.tr (F21.su (ks := [13]) (by decide)) (by decide)
  obtain ⟨τ27, hs27⟩ : ∃ q, su σ27 21 13 0 (((29 : Nat) : Int) + 1) = q := ⟨_, rfl⟩
  rw [hs27] at hm27 hf27
  rw [hs27]
  clear hs27 hn27 hF27 ha27 hw26 hm26 hf26
  refine v_aload_n hX 0 rfl (atL dAX8_init_2 13 rfl) ?_
  refine v_sipush hX (by decide +kernel) (atL dAX8_init_2 14 rfl) ?_
  have hr28 := hw27.fr (k := 16) (i := 4) (hfr (16, 4) (by decide)) (by decide)
  refine v_newA16 hX (i := 4) (n := 700) rfl rfl hr28 (by rw [hR]; exact ⟨Nat.le_of_ble_eq_true rfl, Nat.le_of_ble_eq_true rfl⟩) (atL dAX8_init_2 15 rfl) (fun a28 => ?_)
  have hw28 := hw27.up (a := a28) hr28
  rw [zr_id (fun _ => hf27.z (by decide) (hz 13 _ _ (by decide)))]
  have ha28 : (wup w27 16 4 a28).1 16 4 = a28 := wup_at
  obtain ⟨w28, he28⟩ : ∃ q, wup w27 16 4 a28 = q := ⟨_, rfl⟩
  rw [he28] at hw28 ha28
  rw [he28]
  clear he28 hr28
  obtain ⟨σ28, hq28⟩ : ∃ q, q = τ27 := ⟨_, rfl⟩
  have hn28 : σ28 21 13 0 = 30 := by rw [hq28]; exact hm27
  have hF28 : F21 [13, 14] σ σ28 := by rw [hq28]; exact hf27
  rw [← hq28]
  clear hq28
  show V X (51, 14384) w28 _ _ σ28 [.ref a28, .ref o]
  refine v_eq2 ha28 ((hw28.2 _ _ hl).trans ho) (rp_X8_95 hX hnm (hw28.old hl) (hw28.new (by decide)) hn28 (atL dAX8_init_2 16 rfl) ?_)
  have hm28 : su σ28 21 13 0 (((30 : Nat) : Int) + 1) 21 13 0 = 31 := su_s
  have hf28 : F21 [13, 14] σ (su σ28 21 13 0 (((30 : Nat) : Int) + 1)) := hF28.tr (F21.su (ks := [13]) (by decide)) (by decide)
  obtain ⟨τ28, hs28⟩ : ∃ q, su σ28 21 13 0 (((30 : Nat) : Int) + 1) = q := ⟨_, rfl⟩
  rw [hs28] at hm28 hf28
  rw [hs28]
  clear hs28 hn28 hF28 ha28 hw27 hm27 hf27
  refine v_aload_n hX 0 rfl (atL dAX8_init_2 17 rfl) ?_
  refine v_bipush hX (by decide +kernel) (atL dAX8_init_2 18 rfl) ?_
  have hr29 := hw28.fr (k := 16) (i := 5) (hfr (16, 5) (by decide)) (by decide)
  refine v_newA16 hX (i := 5) (n := 32) rfl rfl hr29 (by rw [hR]; exact ⟨Nat.le_of_ble_eq_true rfl, Nat.le_of_ble_eq_true rfl⟩) (atL dAX8_init_2 19 rfl) (fun a29 => ?_)
  have hw29 := hw28.up (a := a29) hr29
  rw [zr_id (fun _ => hf28.z (by decide) (hz 13 _ _ (by decide)))]
  have ha29 : (wup w28 16 5 a29).1 16 5 = a29 := wup_at
  obtain ⟨w29, he29⟩ : ∃ q, wup w28 16 5 a29 = q := ⟨_, rfl⟩
  rw [he29] at hw29 ha29
  rw [he29]
  clear he29 hr29
  obtain ⟨σ29, hq29⟩ : ∃ q, q = τ28 := ⟨_, rfl⟩
  have hn29 : σ29 21 13 0 = 31 := by rw [hq29]; exact hm28
  have hF29 : F21 [13, 14] σ σ29 := by rw [hq29]; exact hf28
  rw [← hq29]
  clear hq29
  show V X (52, 14416) w29 _ _ σ29 [.ref a29, .ref o]
  refine v_eq2 ha29 ((hw29.2 _ _ hl).trans ho) (rp_X8_98 hX hnm (hw29.old hl) (hw29.new (by decide)) hn29 (atL dAX8_init_2 20 rfl) ?_)
  have hm29 : su σ29 21 13 0 (((31 : Nat) : Int) + 1) 21 13 0 = 32 := su_s
  have hf29 : F21 [13, 14] σ (su σ29 21 13 0 (((31 : Nat) : Int) + 1)) := hF29.tr (F21.su (ks := [13]) (by decide)) (by decide)
  obtain ⟨τ29, hs29⟩ : ∃ q, su σ29 21 13 0 (((31 : Nat) : Int) + 1) = q := ⟨_, rfl⟩
  rw [hs29] at hm29 hf29
  rw [hs29]
  clear hs29 hn29 hF29 ha29 hw28 hm28 hf28
  refine v_aload_n hX 0 rfl (atL dAX8_init_2 21 rfl) ?_
  refine v_bipush hX (by decide +kernel) (atL dAX8_init_2 22 rfl) ?_
  have hr30 := hw29.fr (k := 16) (i := 6) (hfr (16, 6) (by decide)) (by decide)
  refine v_newA16 hX (i := 6) (n := 64) rfl rfl hr30 (by rw [hR]; exact ⟨Nat.le_of_ble_eq_true rfl, Nat.le_of_ble_eq_true rfl⟩) (atL dAX8_init_2 23 rfl) (fun a30 => ?_)
  have hw30 := hw29.up (a := a30) hr30
  rw [zr_id (fun _ => hf29.z (by decide) (hz 13 _ _ (by decide)))]
  have ha30 : (wup w29 16 6 a30).1 16 6 = a30 := wup_at
  obtain ⟨w30, he30⟩ : ∃ q, wup w29 16 6 a30 = q := ⟨_, rfl⟩
  rw [he30] at hw30 ha30
  rw [he30]
  clear he30 hr30
  obtain ⟨σ30, hq30⟩ : ∃ q, q = τ29 := ⟨_, rfl⟩
  have hn30 : σ30 21 13 0 = 32 := by rw [hq30]; exact hm29
  have hF30 : F21 [13, 14] σ σ30 := by rw [hq30]; exact hf29
  rw [← hq30]
  clear hq30
  show V X (53, 14480) w30 _ _ σ30 [.ref a30, .ref o]
  refine v_eq2 ha30 ((hw30.2 _ _ hl).trans ho) (rp_X8_101 hX hnm (hw30.old hl) (hw30.new (by decide)) hn30 (atL dAX8_init_2 24 rfl) ?_)
  have hm30 : su σ30 21 13 0 (((32 : Nat) : Int) + 1) 21 13 0 = 33 := su_s
  have hf30 : F21 [13, 14] σ (su σ30 21 13 0 (((32 : Nat) : Int) + 1)) := hF30.tr (F21.su (ks := [13]) (by decide)) (by decide)
  obtain ⟨τ30, hs30⟩ : ∃ q, su σ30 21 13 0 (((32 : Nat) : Int) + 1) = q := ⟨_, rfl⟩
  rw [hs30] at hm30 hf30
  rw [hs30]
  clear hs30 hn30 hF30 ha30 hw29 hm29 hf29
  refine v_aload_n hX 0 rfl (atL dAX8_init_2 25 rfl) ?_
  refine v_bipush hX (by decide +kernel) (atL dAX8_init_2 26 rfl) ?_
  have hr31 := hw30.fr (k := 16) (i := 7) (hfr (16, 7) (by decide)) (by decide)
  refine v_newA16 hX (i := 7) (n := 64) rfl rfl hr31 (by rw [hR]; exact ⟨Nat.le_of_ble_eq_true rfl, Nat.le_of_ble_eq_true rfl⟩) (atL dAX8_init_2 27 rfl) (fun a31 => ?_)
  have hw31 := hw30.up (a := a31) hr31
  rw [zr_id (fun _ => hf30.z (by decide) (hz 13 _ _ (by decide)))]
  have ha31 : (wup w30 16 7 a31).1 16 7 = a31 := wup_at
  obtain ⟨w31, he31⟩ : ∃ q, wup w30 16 7 a31 = q := ⟨_, rfl⟩
  rw [he31] at hw31 ha31
  rw [he31]
  clear he31 hr31
  obtain ⟨σ31, hq31⟩ : ∃ q, q = τ30 := ⟨_, rfl⟩
  have hn31 : σ31 21 13 0 = 33 := by rw [hq31]; exact hm30
  have hF31 : F21 [13, 14] σ σ31 := by rw [hq31]; exact hf30
  rw [← hq31]
  clear hq31
  show V X (54, 14544) w31 _ _ σ31 [.ref a31, .ref o]
  refine v_eq2 ha31 ((hw31.2 _ _ hl).trans ho) (rp_X8_104 hX hnm (hw31.old hl) (hw31.new (by decide)) hn31 (atL dAX8_init_2 28 rfl) ?_)
  have hm31 : su σ31 21 13 0 (((33 : Nat) : Int) + 1) 21 13 0 = 34 := su_s
  have hf31 : F21 [13, 14] σ (su σ31 21 13 0 (((33 : Nat) : Int) + 1)) := hF31.tr (F21.su (ks := [13]) (by decide)) (by decide)
  obtain ⟨τ31, hs31⟩ : ∃ q, su σ31 21 13 0 (((33 : Nat) : Int) + 1) = q := ⟨_, rfl⟩
  rw [hs31] at hm31 hf31
  rw [hs31]
  clear hs31 hn31 hF31 ha31 hw30 hm30 hf30
  refine v_aload_n hX 0 rfl (atL dAX8_init_2 29 rfl) ?_
  refine v_bipush hX (by decide +kernel) (atL dAX8_init_2 30 rfl) ?_
  have hr32 := hw31.fr (k := 16) (i := 8) (hfr (16, 8) (by decide)) (by decide)
  refine v_newA16 hX (i := 8) (n := 8) rfl rfl hr32 (by rw [hR]; exact ⟨Nat.le_of_ble_eq_true rfl, Nat.le_of_ble_eq_true rfl⟩) (atL dAX8_init_2 31 rfl) (fun a32 => ?_)
  have hw32 := hw31.up (a := a32) hr32
  rw [zr_id (fun _ => hf31.z (by decide) (hz 13 _ _ (by decide)))]
  have ha32 : (wup w31 16 8 a32).1 16 8 = a32 := wup_at
  obtain ⟨w32, he32⟩ : ∃ q, wup w31 16 8 a32 = q := ⟨_, rfl⟩
  rw [he32] at hw32 ha32
  rw [he32]
  clear he32 hr32
  obtain ⟨σ32, hq32⟩ : ∃ q, q = τ31 := ⟨_, rfl⟩
  have hn32 : σ32 21 13 0 = 34 := by rw [hq32]; exact hm31
  have hF32 : F21 [13, 14] σ σ32 := by rw [hq32]; exact hf31
  rw [← hq32]
  clear hq32
  show V X (55, 14552) w32 _ _ σ32 [.ref a32, .ref o]
  refine v_eq2 ha32 ((hw32.2 _ _ hl).trans ho) (rp_X8_107 hX hnm (hw32.old hl) (hw32.new (by decide)) hn32 (atL dAX8_init_2 32 rfl) ?_)
  have hm32 : su σ32 21 13 0 (((34 : Nat) : Int) + 1) 21 13 0 = 35 := su_s
  have hf32 : F21 [13, 14] σ (su σ32 21 13 0 (((34 : Nat) : Int) + 1)) := hF32.tr (F21.su (ks := [13]) (by decide)) (by decide)
  obtain ⟨τ32, hs32⟩ : ∃ q, su σ32 21 13 0 (((34 : Nat) : Int) + 1) = q := ⟨_, rfl⟩
  rw [hs32] at hm32 hf32
  rw [hs32]
  clear hs32 hn32 hF32 ha32 hw31 hm31 hf31
  refine v_aload_n hX 0 rfl (atL dAX8_init_2 33 rfl) ?_
  refine v_bipush hX (by decide +kernel) (atL dAX8_init_2 34 rfl) ?_
  have hr33 := hw32.fr (k := 16) (i := 9) (hfr (16, 9) (by decide)) (by decide)
  refine v_newA16 hX (i := 9) (n := 8) rfl rfl hr33 (by rw [hR]; exact ⟨Nat.le_of_ble_eq_true rfl, Nat.le_of_ble_eq_true rfl⟩) (atL dAX8_init_2 35 rfl) (fun a33 => ?_)
  have hw33 := hw32.up (a := a33) hr33
  rw [zr_id (fun _ => hf32.z (by decide) (hz 13 _ _ (by decide)))]
  have ha33 : (wup w32 16 9 a33).1 16 9 = a33 := wup_at
  obtain ⟨w33, he33⟩ : ∃ q, wup w32 16 9 a33 = q := ⟨_, rfl⟩
  rw [he33] at hw33 ha33
  rw [he33]
  clear he33 hr33
  obtain ⟨σ33, hq33⟩ : ∃ q, q = τ32 := ⟨_, rfl⟩
  have hn33 : σ33 21 13 0 = 35 := by rw [hq33]; exact hm32
  have hF33 : F21 [13, 14] σ σ33 := by rw [hq33]; exact hf32
  rw [← hq33]
  clear hq33
  show V X (56, 14560) w33 _ _ σ33 [.ref a33, .ref o]
  refine v_eq2 ha33 ((hw33.2 _ _ hl).trans ho) (rp_X8_110 hX hnm (hw33.old hl) (hw33.new (by decide)) hn33 (atL dAX8_init_2 36 rfl) ?_)
  have hm33 : su σ33 21 13 0 (((35 : Nat) : Int) + 1) 21 13 0 = 36 := su_s
  have hf33 : F21 [13, 14] σ (su σ33 21 13 0 (((35 : Nat) : Int) + 1)) := hF33.tr (F21.su (ks := [13]) (by decide)) (by decide)
  obtain ⟨τ33, hs33⟩ : ∃ q, su σ33 21 13 0 (((35 : Nat) : Int) + 1) = q := ⟨_, rfl⟩
  rw [hs33] at hm33 hf33
  rw [hs33]
  clear hs33 hn33 hF33 ha33 hw32 hm32 hf32
  refine v_aload_n hX 0 rfl (atL dAX8_init_2 37 rfl) ?_
  refine v_sipush hX (by decide +kernel) (atL dAX8_init_2 38 rfl) ?_
  have hr34 := hw33.fr (k := 16) (i := 10) (hfr (16, 10) (by decide)) (by decide)
  refine v_newA16 hX (i := 10) (n := 512) rfl rfl hr34 (by rw [hR]; exact ⟨Nat.le_of_ble_eq_true rfl, Nat.le_of_ble_eq_true rfl⟩) (atL dAX8_init_2 39 rfl) (fun a34 => ?_)
  have hw34 := hw33.up (a := a34) hr34
  rw [zr_id (fun _ => hf33.z (by decide) (hz 13 _ _ (by decide)))]
  have ha34 : (wup w33 16 10 a34).1 16 10 = a34 := wup_at
  obtain ⟨w34, he34⟩ : ∃ q, wup w33 16 10 a34 = q := ⟨_, rfl⟩
  rw [he34] at hw34 ha34
  rw [he34]
  clear he34 hr34
  obtain ⟨σ34, hq34⟩ : ∃ q, q = τ33 := ⟨_, rfl⟩
  have hn34 : σ34 21 13 0 = 36 := by rw [hq34]; exact hm33
  have hF34 : F21 [13, 14] σ σ34 := by rw [hq34]; exact hf33
  rw [← hq34]
  clear hq34
  show V X (57, 15072) w34 _ _ σ34 [.ref a34, .ref o]
  refine v_eq2 ha34 ((hw34.2 _ _ hl).trans ho) (rp_X8_113 hX hnm (hw34.old hl) (hw34.new (by decide)) hn34 (atL dAX8_init_2 40 rfl) ?_)
  have hm34 : su σ34 21 13 0 (((38 : Nat) : Int) + 1) 21 13 0 = 39 := su_s
  have hf34 : F21 [13, 14] σ (su σ34 21 13 0 (((38 : Nat) : Int) + 1)) := hF34.tr (F21.su (ks := [13]) (by decide)) (by decide)
  obtain ⟨τ34, hs34⟩ : ∃ q, su σ34 21 13 0 (((38 : Nat) : Int) + 1) = q := ⟨_, rfl⟩
  rw [hs34] at hm34 hf34
  rw [hs34]
  clear hs34 hn34 hF34 ha34 hw33 hm33 hf33
  refine v_aload_n hX 0 rfl (atL dAX8_init_2 41 rfl) ?_
  refine v_sipush hX (by decide +kernel) (atL dAX8_init_2 42 rfl) ?_
  have hr35 := hw34.fr (k := 16) (i := 11) (hfr (16, 11) (by decide)) (by decide)
  refine v_newA16 hX (i := 11) (n := 16384) rfl rfl hr35 (by rw [hR]; exact ⟨Nat.le_of_ble_eq_true rfl, Nat.le_of_ble_eq_true rfl⟩) (atL dAX8_init_2 43 rfl) (fun a35 => ?_)
  have hw35 := hw34.up (a := a35) hr35
  rw [zr_id (fun _ => hf34.z (by decide) (hz 13 _ _ (by decide)))]
  have ha35 : (wup w34 16 11 a35).1 16 11 = a35 := wup_at
  obtain ⟨w35, he35⟩ : ∃ q, wup w34 16 11 a35 = q := ⟨_, rfl⟩
  rw [he35] at hw35 ha35
  rw [he35]
  clear he35 hr35
  obtain ⟨σ35, hq35⟩ : ∃ q, q = τ34 := ⟨_, rfl⟩
  have hn35 : σ35 21 13 0 = 39 := by rw [hq35]; exact hm34
  have hF35 : F21 [13, 14] σ σ35 := by rw [hq35]; exact hf34
  rw [← hq35]
  clear hq35
  show V X (58, 31456) w35 _ _ σ35 [.ref a35, .ref o]
  refine v_eq2 ha35 ((hw35.2 _ _ hl).trans ho) (rp_X8_116 hX hnm (hw35.old hl) (hw35.new (by decide)) hn35 (atL dAX8_init_2 44 rfl) ?_)
  have hm35 : su σ35 21 13 0 (((39 : Nat) : Int) + 1) 21 13 0 = 40 := su_s
  have hf35 : F21 [13, 14] σ (su σ35 21 13 0 (((39 : Nat) : Int) + 1)) := hF35.tr (F21.su (ks := [13]) (by decide)) (by decide)
  obtain ⟨τ35, hs35⟩ : ∃ q, su σ35 21 13 0 (((39 : Nat) : Int) + 1) = q := ⟨_, rfl⟩
  rw [hs35] at hm35 hf35
  rw [hs35]
  clear hs35 hn35 hF35 ha35 hw34 hm34 hf34
  refine v_aload_n hX 0 rfl (atL dAX8_init_2 45 rfl) ?_
  refine v_sipush hX (by decide +kernel) (atL dAX8_init_2 46 rfl) ?_
  have hr36 := hw35.fr (k := 16) (i := 12) (hfr (16, 12) (by decide)) (by decide)
  refine v_newA16 hX (i := 12) (n := 128) rfl rfl hr36 (by rw [hR]; exact ⟨Nat.le_of_ble_eq_true rfl, Nat.le_of_ble_eq_true rfl⟩) (atL dAX8_init_2 47 rfl) (fun a36 => ?_)
  have hw36 := hw35.up (a := a36) hr36
  rw [zr_id (fun _ => hf35.z (by decide) (hz 13 _ _ (by decide)))]
  have ha36 : (wup w35 16 12 a36).1 16 12 = a36 := wup_at
  obtain ⟨w36, he36⟩ : ∃ q, wup w35 16 12 a36 = q := ⟨_, rfl⟩
  rw [he36] at hw36 ha36
  rw [he36]
  clear he36 hr36
  obtain ⟨σ36, hq36⟩ : ∃ q, q = τ35 := ⟨_, rfl⟩
  have hn36 : σ36 21 13 0 = 40 := by rw [hq36]; exact hm35
  have hF36 : F21 [13, 14] σ σ36 := by rw [hq36]; exact hf35
  rw [← hq36]
  clear hq36
  show V X (59, 31584) w36 _ _ σ36 [.ref a36, .ref o]
  refine v_eq2 ha36 ((hw36.2 _ _ hl).trans ho) (rp_X8_119 hX hnm (hw36.old hl) (hw36.new (by decide)) hn36 (atL dAX8_init_2 48 rfl) ?_)
  have hm36 : su σ36 21 13 0 (((40 : Nat) : Int) + 1) 21 13 0 = 41 := su_s
  have hf36 : F21 [13, 14] σ (su σ36 21 13 0 (((40 : Nat) : Int) + 1)) := hF36.tr (F21.su (ks := [13]) (by decide)) (by decide)
  obtain ⟨τ36, hs36⟩ : ∃ q, su σ36 21 13 0 (((40 : Nat) : Int) + 1) = q := ⟨_, rfl⟩
  rw [hs36] at hm36 hf36
  rw [hs36]
  clear hs36 hn36 hF36 ha36 hw35 hm35 hf35
  refine v_aload_n hX 0 rfl (atL dAX8_init_2 49 rfl) ?_
  refine v_bipush hX (by decide +kernel) (atL dAX8_init_2 50 rfl) ?_
  have hr37 := hw36.fr (k := 17) (i := 0) (hfr (17, 0) (by decide)) (by decide)
  refine v_newA17 hX (i := 0) rfl hr37 (by rw [hR]; exact ⟨Nat.le_of_ble_eq_true rfl, Nat.le_of_ble_eq_true rfl⟩) (atL dAX8_init_2 51 rfl) (fun a37 => ?_)
  have hw37 := hw36.up (a := a37) hr37
  rw [zr_id (fun _ => hf36.z (by decide) (hz 14 _ _ (by decide)))]
  have ha37 : (wup w36 17 0 a37).1 17 0 = a37 := wup_at
  obtain ⟨w37, he37⟩ : ∃ q, wup w36 17 0 a37 = q := ⟨_, rfl⟩
  rw [he37] at hw37 ha37
  rw [he37]
  clear he37 hr37
  obtain ⟨σ37, hq37⟩ : ∃ q, q = τ36 := ⟨_, rfl⟩
  have hn37 : σ37 21 13 0 = 41 := by rw [hq37]; exact hm36
  have hF37 : F21 [13, 14] σ σ37 := by rw [hq37]; exact hf36
  rw [← hq37]
  clear hq37
  show V X (60, 31600) w37 _ _ σ37 [.ref a37, .ref o]
  refine v_eq2 ha37 ((hw37.2 _ _ hl).trans ho) (rp_X8_122 hX hnm (hw37.old hl) (hw37.new (by decide)) hn37 (atL dAX8_init_2 52 rfl) ?_)
  have hm37 : su σ37 21 13 0 (((41 : Nat) : Int) + 1) 21 13 0 = 42 := su_s
  have hf37 : F21 [13, 14] σ (su σ37 21 13 0 (((41 : Nat) : Int) + 1)) := hF37.tr (F21.su (ks := [13]) (by decide)) (by decide)
  obtain ⟨τ37, hs37⟩ : ∃ q, su σ37 21 13 0 (((41 : Nat) : Int) + 1) = q := ⟨_, rfl⟩
  rw [hs37] at hm37 hf37
  rw [hs37]
  clear hs37 hn37 hF37 ha37 hw36 hm36 hf36
  refine v_aload_n hX 0 rfl (atL dAX8_init_2 53 rfl) ?_
  have hr38 := hw37.fr (k := 44) (i := 23) (hfr (44, 23) (by decide)) (by decide)
  refine nw_X8_7 hX (i := 23) hr38 (by rw [hR]; exact ⟨Nat.le_of_ble_eq_true rfl, Nat.le_of_ble_eq_true rfl⟩) (atL dAX8_init_2 54 rfl) (fun a38 => ?_)
  refine v_dup hX rfl (atL dAX8_init_2 55 rfl) ?_
  refine v_callIN hX (As := []) (rest := [.ref a38, .ref o]) (c_X7_init _ _ _ (i := 23) (o := a38) wup_new wup_at (wup_fr (hw37.fr (hfr (14, 23) (by decide)) (by decide)) (by decide)) (wup_fr (hw37.fr (hfr (15, 23) (by decide)) (by decide)) (by decide)) su_s (F21.z (F21.su (ks := [14]) (by decide)) (by decide) (hf37.z (by decide) (hz 11 _ _ (by decide)))) (fun _ => (F21.z (F21.su (ks := [14]) (by decide)) (by decide) (hf37.z (by decide) (hz 12 _ _ (by decide)))))) li_X8_9 rfl (by rw [hR]; exact ⟨Nat.le_of_ble_eq_true rfl, Nat.le_of_ble_eq_true rfl⟩) (by rw [hR]; exact ⟨Nat.le_of_ble_eq_true rfl, Nat.le_of_ble_eq_true rfl⟩) rfl (Nat.le_of_ble_eq_true rfl) (atL dAX8_init_2 56 rfl) (fun _ w38 σ38 hp38 => ?_)
  obtain ⟨hwt38, hF38⟩ := hp38
  obtain ⟨hw38, ha38⟩ := Wad.mk hw37 hr38 hwt38
  have hn38 : σ38 21 13 0 = 42 := hF38.n (by decide) ((su_i (by decide)).trans hm37)
  replace hF38 : F21 [13, 14] σ σ38 := (hf37.tr (F21.su (ks := [14]) (by decide)) (by decide)).tr hF38 (by decide)
  clear hwt38 hr38
  show V X (62, 31872) w38 _ _ σ38 [.ref a38, .ref o]
  refine v_eq2 ha38 ((hw38.2 _ _ hl).trans ho) (rp_X8_126 hX hnm (hw38.old hl) (hw38.new (by decide)) hn38 (atL dAX8_init_2 57 rfl) ?_)
  have hm38 : su σ38 21 13 0 (((43 : Nat) : Int) + 1) 21 13 0 = 44 := su_s
  have hf38 : F21 [13, 14] σ (su σ38 21 13 0 (((43 : Nat) : Int) + 1)) := hF38.tr (F21.su (ks := [13]) (by decide)) (by decide)
  obtain ⟨τ38, hs38⟩ : ∃ q, su σ38 21 13 0 (((43 : Nat) : Int) + 1) = q := ⟨_, rfl⟩
  rw [hs38] at hm38 hf38
  rw [hs38]
  clear hs38 hn38 hF38 ha38 hw37 hm37 hf37
  refine v_aload_n hX 0 rfl (atL dAX8_init_2 58 rfl) ?_
  have hr39 := hw38.fr (k := 44) (i := 24) (hfr (44, 24) (by decide)) (by decide)
  refine nw_X8_7 hX (i := 24) hr39 (by rw [hR]; exact ⟨Nat.le_of_ble_eq_true rfl, Nat.le_of_ble_eq_true rfl⟩) (atL dAX8_init_2 59 rfl) (fun a39 => ?_)
  refine v_dup hX rfl (atL dAX8_init_3 0 rfl) ?_
  refine v_callIN hX (As := []) (rest := [.ref a39, .ref o]) (c_X7_init _ _ _ (i := 24) (o := a39) wup_new wup_at (wup_fr (hw38.fr (hfr (14, 24) (by decide)) (by decide)) (by decide)) (wup_fr (hw38.fr (hfr (15, 24) (by decide)) (by decide)) (by decide)) su_s (F21.z (F21.su (ks := [14]) (by decide)) (by decide) (hf38.z (by decide) (hz 11 _ _ (by decide)))) (fun _ => (F21.z (F21.su (ks := [14]) (by decide)) (by decide) (hf38.z (by decide) (hz 12 _ _ (by decide)))))) li_X8_9 rfl (by rw [hR]; exact ⟨Nat.le_of_ble_eq_true rfl, Nat.le_of_ble_eq_true rfl⟩) (by rw [hR]; exact ⟨Nat.le_of_ble_eq_true rfl, Nat.le_of_ble_eq_true rfl⟩) rfl (Nat.le_of_ble_eq_true rfl) (atL dAX8_init_3 1 rfl) (fun _ w39 σ39 hp39 => ?_)
  obtain ⟨hwt39, hF39⟩ := hp39
  obtain ⟨hw39, ha39⟩ := Wad.mk hw38 hr39 hwt39
  have hn39 : σ39 21 13 0 = 44 := hF39.n (by decide) ((su_i (by decide)).trans hm38)
  replace hF39 : F21 [13, 14] σ σ39 := (hf38.tr (F21.su (ks := [14]) (by decide)) (by decide)).tr hF39 (by decide)
  clear hwt39 hr39
  show V X (64, 32144) w39 _ _ σ39 [.ref a39, .ref o]
  refine v_eq2 ha39 ((hw39.2 _ _ hl).trans ho) (rp_X8_129 hX hnm (hw39.old hl) (hw39.new (by decide)) hn39 (atL dAX8_init_3 2 rfl) ?_)
  have hm39 : su σ39 21 13 0 (((44 : Nat) : Int) + 1) 21 13 0 = 45 := su_s
  have hf39 : F21 [13, 14] σ (su σ39 21 13 0 (((44 : Nat) : Int) + 1)) := hF39.tr (F21.su (ks := [13]) (by decide)) (by decide)
  obtain ⟨τ39, hs39⟩ : ∃ q, su σ39 21 13 0 (((44 : Nat) : Int) + 1) = q := ⟨_, rfl⟩
  rw [hs39] at hm39 hf39
  rw [hs39]
  clear hs39 hn39 hF39 ha39 hw38 hm38 hf38
  refine v_aload_n hX 0 rfl (atL dAX8_init_3 3 rfl) ?_
  have hr40 := hw39.fr (k := 44) (i := 25) (hfr (44, 25) (by decide)) (by decide)
  refine nw_X8_7 hX (i := 25) hr40 (by rw [hR]; exact ⟨Nat.le_of_ble_eq_true rfl, Nat.le_of_ble_eq_true rfl⟩) (atL dAX8_init_3 4 rfl) (fun a40 => ?_)
  refine v_dup hX rfl (atL dAX8_init_3 5 rfl) ?_
  refine v_callIN hX (As := []) (rest := [.ref a40, .ref o]) (c_X7_init _ _ _ (i := 25) (o := a40) wup_new wup_at (wup_fr (hw39.fr (hfr (14, 25) (by decide)) (by decide)) (by decide)) (wup_fr (hw39.fr (hfr (15, 25) (by decide)) (by decide)) (by decide)) su_s (F21.z (F21.su (ks := [14]) (by decide)) (by decide) (hf39.z (by decide) (hz 11 _ _ (by decide)))) (fun _ => (F21.z (F21.su (ks := [14]) (by decide)) (by decide) (hf39.z (by decide) (hz 12 _ _ (by decide)))))) li_X8_9 rfl (by rw [hR]; exact ⟨Nat.le_of_ble_eq_true rfl, Nat.le_of_ble_eq_true rfl⟩) (by rw [hR]; exact ⟨Nat.le_of_ble_eq_true rfl, Nat.le_of_ble_eq_true rfl⟩) rfl (Nat.le_of_ble_eq_true rfl) (atL dAX8_init_3 6 rfl) (fun _ w40 σ40 hp40 => ?_)
  obtain ⟨hwt40, hF40⟩ := hp40
  obtain ⟨hw40, ha40⟩ := Wad.mk hw39 hr40 hwt40
  have hn40 : σ40 21 13 0 = 45 := hF40.n (by decide) ((su_i (by decide)).trans hm39)
  replace hF40 : F21 [13, 14] σ σ40 := (hf39.tr (F21.su (ks := [14]) (by decide)) (by decide)).tr hF40 (by decide)
  clear hwt40 hr40
  show V X (66, 32416) w40 _ _ σ40 [.ref a40, .ref o]
  refine v_eq2 ha40 ((hw40.2 _ _ hl).trans ho) (rp_X8_132 hX hnm (hw40.old hl) (hw40.new (by decide)) hn40 (atL dAX8_init_3 7 rfl) ?_)
  have hm40 : su σ40 21 13 0 (((45 : Nat) : Int) + 1) 21 13 0 = 46 := su_s
  have hf40 : F21 [13, 14] σ (su σ40 21 13 0 (((45 : Nat) : Int) + 1)) := hF40.tr (F21.su (ks := [13]) (by decide)) (by decide)
  obtain ⟨τ40, hs40⟩ : ∃ q, su σ40 21 13 0 (((45 : Nat) : Int) + 1) = q := ⟨_, rfl⟩
  rw [hs40] at hm40 hf40
  rw [hs40]
  clear hs40 hn40 hF40 ha40 hw39 hm39 hf39
  refine v_aload_n hX 0 rfl (atL dAX8_init_3 8 rfl) ?_
  have hr41 := hw40.fr (k := 44) (i := 26) (hfr (44, 26) (by decide)) (by decide)
  refine nw_X8_7 hX (i := 26) hr41 (by rw [hR]; exact ⟨Nat.le_of_ble_eq_true rfl, Nat.le_of_ble_eq_true rfl⟩) (atL dAX8_init_3 9 rfl) (fun a41 => ?_)
  refine v_dup hX rfl (atL dAX8_init_3 10 rfl) ?_
  refine v_callIN hX (As := []) (rest := [.ref a41, .ref o]) (c_X7_init _ _ _ (i := 26) (o := a41) wup_new wup_at (wup_fr (hw40.fr (hfr (14, 26) (by decide)) (by decide)) (by decide)) (wup_fr (hw40.fr (hfr (15, 26) (by decide)) (by decide)) (by decide)) su_s (F21.z (F21.su (ks := [14]) (by decide)) (by decide) (hf40.z (by decide) (hz 11 _ _ (by decide)))) (fun _ => (F21.z (F21.su (ks := [14]) (by decide)) (by decide) (hf40.z (by decide) (hz 12 _ _ (by decide)))))) li_X8_9 rfl (by rw [hR]; exact ⟨Nat.le_of_ble_eq_true rfl, Nat.le_of_ble_eq_true rfl⟩) (by rw [hR]; exact ⟨Nat.le_of_ble_eq_true rfl, Nat.le_of_ble_eq_true rfl⟩) rfl (Nat.le_of_ble_eq_true rfl) (atL dAX8_init_3 11 rfl) (fun _ w41 σ41 hp41 => ?_)
  obtain ⟨hwt41, hF41⟩ := hp41
  obtain ⟨hw41, ha41⟩ := Wad.mk hw40 hr41 hwt41
  have hn41 : σ41 21 13 0 = 46 := hF41.n (by decide) ((su_i (by decide)).trans hm40)
  replace hF41 : F21 [13, 14] σ σ41 := (hf40.tr (F21.su (ks := [14]) (by decide)) (by decide)).tr hF41 (by decide)
  clear hwt41 hr41
  show V X (68, 32688) w41 _ _ σ41 [.ref a41, .ref o]
  refine v_eq2 ha41 ((hw41.2 _ _ hl).trans ho) (rp_X8_135 hX hnm (hw41.old hl) (hw41.new (by decide)) hn41 (atL dAX8_init_3 12 rfl) ?_)
  have hm41 : su σ41 21 13 0 (((46 : Nat) : Int) + 1) 21 13 0 = 47 := su_s
  have hf41 : F21 [13, 14] σ (su σ41 21 13 0 (((46 : Nat) : Int) + 1)) := hF41.tr (F21.su (ks := [13]) (by decide)) (by decide)
  obtain ⟨τ41, hs41⟩ : ∃ q, su σ41 21 13 0 (((46 : Nat) : Int) + 1) = q := ⟨_, rfl⟩
  rw [hs41] at hm41 hf41
  rw [hs41]
  clear hs41 hn41 hF41 ha41 hw40 hm40 hf40
  refine v_aload_n hX 0 rfl (atL dAX8_init_3 13 rfl) ?_
  have hr42 := hw41.fr (k := 44) (i := 27) (hfr (44, 27) (by decide)) (by decide)
  refine nw_X8_7 hX (i := 27) hr42 (by rw [hR]; exact ⟨Nat.le_of_ble_eq_true rfl, Nat.le_of_ble_eq_true rfl⟩) (atL dAX8_init_3 14 rfl) (fun a42 => ?_)
  refine v_dup hX rfl (atL dAX8_init_3 15 rfl) ?_
  refine v_callIN hX (As := []) (rest := [.ref a42, .ref o]) (c_X7_init _ _ _ (i := 27) (o := a42) wup_new wup_at (wup_fr (hw41.fr (hfr (14, 27) (by decide)) (by decide)) (by decide)) (wup_fr (hw41.fr (hfr (15, 27) (by decide)) (by decide)) (by decide)) su_s (F21.z (F21.su (ks := [14]) (by decide)) (by decide) (hf41.z (by decide) (hz 11 _ _ (by decide)))) (fun _ => (F21.z (F21.su (ks := [14]) (by decide)) (by decide) (hf41.z (by decide) (hz 12 _ _ (by decide)))))) li_X8_9 rfl (by rw [hR]; exact ⟨Nat.le_of_ble_eq_true rfl, Nat.le_of_ble_eq_true rfl⟩) (by rw [hR]; exact ⟨Nat.le_of_ble_eq_true rfl, Nat.le_of_ble_eq_true rfl⟩) rfl (Nat.le_of_ble_eq_true rfl) (atL dAX8_init_3 16 rfl) (fun _ w42 σ42 hp42 => ?_)
  obtain ⟨hwt42, hF42⟩ := hp42
  obtain ⟨hw42, ha42⟩ := Wad.mk hw41 hr42 hwt42
  have hn42 : σ42 21 13 0 = 47 := hF42.n (by decide) ((su_i (by decide)).trans hm41)
  replace hF42 : F21 [13, 14] σ σ42 := (hf41.tr (F21.su (ks := [14]) (by decide)) (by decide)).tr hF42 (by decide)
  clear hwt42 hr42
  show V X (70, 32960) w42 _ _ σ42 [.ref a42, .ref o]
  refine v_eq2 ha42 ((hw42.2 _ _ hl).trans ho) (rp_X8_138 hX hnm (hw42.old hl) (hw42.new (by decide)) hn42 (atL dAX8_init_3 17 rfl) ?_)
  have hm42 : su σ42 21 13 0 (((47 : Nat) : Int) + 1) 21 13 0 = 48 := su_s
  have hf42 : F21 [13, 14] σ (su σ42 21 13 0 (((47 : Nat) : Int) + 1)) := hF42.tr (F21.su (ks := [13]) (by decide)) (by decide)
  obtain ⟨τ42, hs42⟩ : ∃ q, su σ42 21 13 0 (((47 : Nat) : Int) + 1) = q := ⟨_, rfl⟩
  rw [hs42] at hm42 hf42
  rw [hs42]
  clear hs42 hn42 hF42 ha42 hw41 hm41 hf41
  refine v_aload_n hX 0 rfl (atL dAX8_init_3 18 rfl) ?_
  have hr43 := hw42.fr (k := 44) (i := 28) (hfr (44, 28) (by decide)) (by decide)
  refine nw_X8_7 hX (i := 28) hr43 (by rw [hR]; exact ⟨Nat.le_of_ble_eq_true rfl, Nat.le_of_ble_eq_true rfl⟩) (atL dAX8_init_3 19 rfl) (fun a43 => ?_)
  refine v_dup hX rfl (atL dAX8_init_3 20 rfl) ?_
  refine v_callIN hX (As := []) (rest := [.ref a43, .ref o]) (c_X7_init _ _ _ (i := 28) (o := a43) wup_new wup_at (wup_fr (hw42.fr (hfr (14, 28) (by decide)) (by decide)) (by decide)) (wup_fr (hw42.fr (hfr (15, 28) (by decide)) (by decide)) (by decide)) su_s (F21.z (F21.su (ks := [14]) (by decide)) (by decide) (hf42.z (by decide) (hz 11 _ _ (by decide)))) (fun _ => (F21.z (F21.su (ks := [14]) (by decide)) (by decide) (hf42.z (by decide) (hz 12 _ _ (by decide)))))) li_X8_9 rfl (by rw [hR]; exact ⟨Nat.le_of_ble_eq_true rfl, Nat.le_of_ble_eq_true rfl⟩) (by rw [hR]; exact ⟨Nat.le_of_ble_eq_true rfl, Nat.le_of_ble_eq_true rfl⟩) rfl (Nat.le_of_ble_eq_true rfl) (atL dAX8_init_3 21 rfl) (fun _ w43 σ43 hp43 => ?_)
  obtain ⟨hwt43, hF43⟩ := hp43
  obtain ⟨hw43, ha43⟩ := Wad.mk hw42 hr43 hwt43
  have hn43 : σ43 21 13 0 = 48 := hF43.n (by decide) ((su_i (by decide)).trans hm42)
  replace hF43 : F21 [13, 14] σ σ43 := (hf42.tr (F21.su (ks := [14]) (by decide)) (by decide)).tr hF43 (by decide)
  clear hwt43 hr43
  show V X (72, 33232) w43 _ _ σ43 [.ref a43, .ref o]
  refine v_eq2 ha43 ((hw43.2 _ _ hl).trans ho) (rp_X8_141 hX hnm (hw43.old hl) (hw43.new (by decide)) hn43 (atL dAX8_init_3 22 rfl) ?_)
  have hm43 : su σ43 21 13 0 (((48 : Nat) : Int) + 1) 21 13 0 = 49 := su_s
  have hf43 : F21 [13, 14] σ (su σ43 21 13 0 (((48 : Nat) : Int) + 1)) := hF43.tr (F21.su (ks := [13]) (by decide)) (by decide)
  obtain ⟨τ43, hs43⟩ : ∃ q, su σ43 21 13 0 (((48 : Nat) : Int) + 1) = q := ⟨_, rfl⟩
  rw [hs43] at hm43 hf43
  rw [hs43]
  clear hs43 hn43 hF43 ha43 hw42 hm42 hf42
  refine v_aload_n hX 0 rfl (atL dAX8_init_3 23 rfl) ?_
  have hr44 := hw43.fr (k := 44) (i := 29) (hfr (44, 29) (by decide)) (by decide)
  refine nw_X8_7 hX (i := 29) hr44 (by rw [hR]; exact ⟨Nat.le_of_ble_eq_true rfl, Nat.le_of_ble_eq_true rfl⟩) (atL dAX8_init_3 24 rfl) (fun a44 => ?_)
  refine v_dup hX rfl (atL dAX8_init_3 25 rfl) ?_
  refine v_callIN hX (As := []) (rest := [.ref a44, .ref o]) (c_X7_init _ _ _ (i := 29) (o := a44) wup_new wup_at (wup_fr (hw43.fr (hfr (14, 29) (by decide)) (by decide)) (by decide)) (wup_fr (hw43.fr (hfr (15, 29) (by decide)) (by decide)) (by decide)) su_s (F21.z (F21.su (ks := [14]) (by decide)) (by decide) (hf43.z (by decide) (hz 11 _ _ (by decide)))) (fun _ => (F21.z (F21.su (ks := [14]) (by decide)) (by decide) (hf43.z (by decide) (hz 12 _ _ (by decide)))))) li_X8_9 rfl (by rw [hR]; exact ⟨Nat.le_of_ble_eq_true rfl, Nat.le_of_ble_eq_true rfl⟩) (by rw [hR]; exact ⟨Nat.le_of_ble_eq_true rfl, Nat.le_of_ble_eq_true rfl⟩) rfl (Nat.le_of_ble_eq_true rfl) (atL dAX8_init_3 26 rfl) (fun _ w44 σ44 hp44 => ?_)
  obtain ⟨hwt44, hF44⟩ := hp44
  obtain ⟨hw44, ha44⟩ := Wad.mk hw43 hr44 hwt44
  have hn44 : σ44 21 13 0 = 49 := hF44.n (by decide) ((su_i (by decide)).trans hm43)
  replace hF44 : F21 [13, 14] σ σ44 := (hf43.tr (F21.su (ks := [14]) (by decide)) (by decide)).tr hF44 (by decide)
  clear hwt44 hr44
  show V X (74, 33504) w44 _ _ σ44 [.ref a44, .ref o]
  refine v_eq2 ha44 ((hw44.2 _ _ hl).trans ho) (rp_X8_144 hX hnm (hw44.old hl) (hw44.new (by decide)) hn44 (atL dAX8_init_3 27 rfl) ?_)
  have hm44 : su σ44 21 13 0 (((49 : Nat) : Int) + 1) 21 13 0 = 50 := su_s
  have hf44 : F21 [13, 14] σ (su σ44 21 13 0 (((49 : Nat) : Int) + 1)) := hF44.tr (F21.su (ks := [13]) (by decide)) (by decide)
  obtain ⟨τ44, hs44⟩ : ∃ q, su σ44 21 13 0 (((49 : Nat) : Int) + 1) = q := ⟨_, rfl⟩
  rw [hs44] at hm44 hf44
  rw [hs44]
  clear hs44 hn44 hF44 ha44 hw43 hm43 hf43
  refine v_aload_n hX 0 rfl (atL dAX8_init_3 28 rfl) ?_
  refine v_sipush hX (by decide +kernel) (atL dAX8_init_3 29 rfl) ?_
  have hr45 := hw44.fr (k := 16) (i := 13) (hfr (16, 13) (by decide)) (by decide)
  refine v_newA16 hX (i := 13) (n := 600) rfl rfl hr45 (by rw [hR]; exact ⟨Nat.le_of_ble_eq_true rfl, Nat.le_of_ble_eq_true rfl⟩) (atL dAX8_init_3 30 rfl) (fun a45 => ?_)
  have hw45 := hw44.up (a := a45) hr45
  rw [zr_id (fun _ => hf44.z (by decide) (hz 13 _ _ (by decide)))]
  have ha45 : (wup w44 16 13 a45).1 16 13 = a45 := wup_at
  obtain ⟨w45, he45⟩ : ∃ q, wup w44 16 13 a45 = q := ⟨_, rfl⟩
  rw [he45] at hw45 ha45
  rw [he45]
  clear he45 hr45
  obtain ⟨σ45, hq45⟩ : ∃ q, q = τ44 := ⟨_, rfl⟩
  have hn45 : σ45 21 13 0 = 50 := by rw [hq45]; exact hm44
  have hF45 : F21 [13, 14] σ σ45 := by rw [hq45]; exact hf44
  rw [← hq45]
  clear hq45
  show V X (75, 34104) w45 _ _ σ45 [.ref a45, .ref o]
  refine v_eq2 ha45 ((hw45.2 _ _ hl).trans ho) (rp_X8_147 hX hnm (hw45.old hl) (hw45.new (by decide)) hn45 (atL dAX8_init_3 31 rfl) ?_)
  have hm45 : su σ45 21 13 0 (((50 : Nat) : Int) + 1) 21 13 0 = 51 := su_s
  have hf45 : F21 [13, 14] σ (su σ45 21 13 0 (((50 : Nat) : Int) + 1)) := hF45.tr (F21.su (ks := [13]) (by decide)) (by decide)
  obtain ⟨τ45, hs45⟩ : ∃ q, su σ45 21 13 0 (((50 : Nat) : Int) + 1) = q := ⟨_, rfl⟩
  rw [hs45] at hm45 hf45
  rw [hs45]
  clear hs45 hn45 hF45 ha45 hw44 hm44 hf44
  refine v_aload_n hX 0 rfl (atL dAX8_init_3 32 rfl) ?_
  refine v_bipush hX (by decide +kernel) (atL dAX8_init_3 33 rfl) ?_
  have hr46 := hw45.fr (k := 16) (i := 14) (hfr (16, 14) (by decide)) (by decide)
  refine v_newA16 hX (i := 14) (n := 32) rfl rfl hr46 (by rw [hR]; exact ⟨Nat.le_of_ble_eq_true rfl, Nat.le_of_ble_eq_true rfl⟩) (atL dAX8_init_3 34 rfl) (fun a46 => ?_)
  have hw46 := hw45.up (a := a46) hr46
  rw [zr_id (fun _ => hf45.z (by decide) (hz 13 _ _ (by decide)))]
  have ha46 : (wup w45 16 14 a46).1 16 14 = a46 := wup_at
  obtain ⟨w46, he46⟩ : ∃ q, wup w45 16 14 a46 = q := ⟨_, rfl⟩
  rw [he46] at hw46 ha46
  rw [he46]
  clear he46 hr46
  obtain ⟨σ46, hq46⟩ : ∃ q, q = τ45 := ⟨_, rfl⟩
  have hn46 : σ46 21 13 0 = 51 := by rw [hq46]; exact hm45
  have hF46 : F21 [13, 14] σ σ46 := by rw [hq46]; exact hf45
  rw [← hq46]
  clear hq46
  show V X (76, 34136) w46 _ _ σ46 [.ref a46, .ref o]
  refine v_eq2 ha46 ((hw46.2 _ _ hl).trans ho) (rp_X8_150 hX hnm (hw46.old hl) (hw46.new (by decide)) hn46 (atL dAX8_init_3 35 rfl) ?_)
  have hm46 : su σ46 21 13 0 (((51 : Nat) : Int) + 1) 21 13 0 = 52 := su_s
  have hf46 : F21 [13, 14] σ (su σ46 21 13 0 (((51 : Nat) : Int) + 1)) := hF46.tr (F21.su (ks := [13]) (by decide)) (by decide)
  obtain ⟨τ46, hs46⟩ : ∃ q, su σ46 21 13 0 (((51 : Nat) : Int) + 1) = q := ⟨_, rfl⟩
  rw [hs46] at hm46 hf46
  rw [hs46]
  clear hs46 hn46 hF46 ha46 hw45 hm45 hf45
  refine v_aload_n hX 0 rfl (atL dAX8_init_3 36 rfl) ?_
  refine v_sipush hX (by decide +kernel) (atL dAX8_init_3 37 rfl) ?_
  have hr47 := hw46.fr (k := 16) (i := 15) (hfr (16, 15) (by decide)) (by decide)
  refine v_newA16 hX (i := 15) (n := 128) rfl rfl hr47 (by rw [hR]; exact ⟨Nat.le_of_ble_eq_true rfl, Nat.le_of_ble_eq_true rfl⟩) (atL dAX8_init_3 38 rfl) (fun a47 => ?_)
  have hw47 := hw46.up (a := a47) hr47
  rw [zr_id (fun _ => hf46.z (by decide) (hz 13 _ _ (by decide)))]
  have ha47 : (wup w46 16 15 a47).1 16 15 = a47 := wup_at
  obtain ⟨w47, he47⟩ : ∃ q, wup w46 16 15 a47 = q := ⟨_, rfl⟩
  rw [he47] at hw47 ha47
  rw [he47]
  clear he47 hr47
  obtain ⟨σ47, hq47⟩ : ∃ q, q = τ46 := ⟨_, rfl⟩
  have hn47 : σ47 21 13 0 = 52 := by rw [hq47]; exact hm46
  have hF47 : F21 [13, 14] σ σ47 := by rw [hq47]; exact hf46
  rw [← hq47]
  clear hq47
  show V X (77, 34264) w47 _ _ σ47 [.ref a47, .ref o]
  refine v_eq2 ha47 ((hw47.2 _ _ hl).trans ho) (rp_X8_153 hX hnm (hw47.old hl) (hw47.new (by decide)) hn47 (atL dAX8_init_3 39 rfl) ?_)
  have hm47 : su σ47 21 13 0 (((52 : Nat) : Int) + 1) 21 13 0 = 53 := su_s
  have hf47 : F21 [13, 14] σ (su σ47 21 13 0 (((52 : Nat) : Int) + 1)) := hF47.tr (F21.su (ks := [13]) (by decide)) (by decide)
  obtain ⟨τ47, hs47⟩ : ∃ q, su σ47 21 13 0 (((52 : Nat) : Int) + 1) = q := ⟨_, rfl⟩
  rw [hs47] at hm47 hf47
  rw [hs47]
  clear hs47 hn47 hF47 ha47 hw46 hm46 hf46
  refine v_done (k := 13) (i := 0) (by decide) (by decide) (hw47.old hl) (hw47.fr (hfr (13, 0) (by decide)) (by decide)) (fun q hq => done_mn hm47 rfl (by decide) hq) (fun D g ad b H hb => ?_) ?_
  · have e : cont g ad τ47 13 0 = cont g ad τ47 43 0 := done_at hm47 rfl (by decide) (fun d hd hd0 => hf47.z (fun e => absurd (show d.2.1 < 15 from (by decide : ∀ d ∈ tp 13 0, d.1 ≠ 0 → d.2.1 < 15) d hd hd0) (by omega)) (hz _ _ _ ((by decide : ∀ d ∈ tp 13 0, d.1 ≠ 0 → d.2.1 < 15) d hd hd0)))
    rw [e]
    exact hb
  · exact v_vret hX (atL dAX8_init_3 40 rfl) (hret () _ _ ⟨Wto.of hw47 hl (hw47.fr (hfr (13, 0) (by decide)) (by decide)) (by decide), hf47⟩ _ ⟨Nat.le_of_ble_eq_true rfl, Nat.le_of_ble_eq_true rfl⟩)
