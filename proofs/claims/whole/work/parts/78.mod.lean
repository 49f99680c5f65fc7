theorem dAX8_shift_0 : ([(0, .iconst 0, 1, 1), (1, .istore_n 3, 1, 2), (2, .iconst 0, 1, 3), (3, .istore 4, 2, 5), (5, .iload 4, 2, 7), (7, .aload_n 0, 1, 8), (8, .getfield 164, 3, 11), (11, .if_icmp .ge 37, 3, 14), (14, .iload_n 3, 1, 15), (15, .aload_n 0, 1, 16), (16, .getfield 175, 3, 19), (19, .iload 4, 2, 21), (21, .iaload, 1, 22), (22, .iload_n 1, 1, 23), (23, .ishl, 1, 24), (24, .ior, 1, 25), (25, .istore_n 3, 1, 26), (26, .aload_n 2, 1, 27), (27, .getfield 175, 3, 30), (30, .iload 4, 2, 32), (32, .iload_n 3, 1, 33), (33, .ldc 180, 2, 35), (35, .iand, 1, 36), (36, .iastore, 1, 37), (37, .iload_n 3, 1, 38), (38, .bipush 16, 2, 40), (40, .iushr, 1, 41), (41, .istore_n 3, 1, 42), (42, .iinc 4 1, 3, 45), (45, .goto (-40), 3, 48), (48, .aload_n 2, 1, 49), (49, .getfield 175, 3, 52), (52, .aload_n 0, 1, 53), (53, .getfield 164, 3, 56), (56, .iload_n 3, 1, 57), (57, .iastore, 1, 58), (58, .aload_n 2, 1, 59), (59, .aload_n 0, 1, 60), (60, .getfield 164, 3, 63), (63, .iconst 1, 1, 64), (64, .iadd, 1, 65), (65, .putfield 164, 3, 68), (68, .aload_n 2, 1, 69), (69, .invokevirtual 181, 3, 72), (72, .return_, 1, 73)] : List (Nat × Instr × Nat × Nat)).all (fun q => decide (decode cX8_shift q.1 = .ok (q.2.1, q.2.2.1)) && q.2.2.2 == q.1 + q.2.2.1) = true := by decide +kernel
theorem dAX8_divide_0 : ([(0, .aload_n 1, 1, 1), (1, .aload_n 2, 1, 2), (2, .invokevirtual 160, 3, 5), (5, .ifCond .ge 9, 3, 8), (8, .aload_n 3, 1, 9), (9, .iconst 0, 1, 10), (10, .putfield 164, 3, 13), (13, .return_, 1, 14), (14, .bipush 16, 2, 16), (16, .aload_n 2, 1, 17), (17, .getfield 164, 3, 20), (20, .imul, 1, 21), (21, .aload_n 2, 1, 22), (22, .invokevirtual 167, 3, 25), (25, .isub, 1, 26), (26, .istore 4, 2, 28), (28, .aload_n 1, 1, 29), (29, .iload 4, 2, 31), (31, .aload_n 0, 1, 32), (32, .getfield 10, 3, 35), (35, .invokestatic 171, 3, 38), (38, .aload_n 2, 1, 39), (39, .iload 4, 2, 41), (41, .aload_n 0, 1, 42), (42, .getfield 16, 3, 45), (45, .invokestatic 171, 3, 48), (48, .aload_n 0, 1, 49), (49, .getfield 16, 3, 52), (52, .getfield 164, 3, 55), (55, .istore 5, 2, 57), (57, .aload_n 0, 1, 58), (58, .getfield 10, 3, 61), (61, .getfield 175, 3, 64), (64, .aload_n 0, 1, 65), (65, .getfield 10, 3, 68), (68, .getfield 164, 3, 71), (71, .iconst 0, 1, 72), (72, .iastore, 1, 73), (73, .aload_n 0, 1, 74), (74, .getfield 10, 3, 77), (77, .getfield 164, 3, 80), (80, .iload 5, 2, 82), (82, .isub, 1, 83), (83, .istore 6, 2, 85), (85, .aload_n 3, 1, 86), (86, .iload 6, 2, 88), (88, .iconst 1, 1, 89), (89, .iadd, 1, 90), (90, .putfield 164, 3, 93), (93, .iload 6, 2, 95), (95, .istore 7, 2, 97), (97, .iload 7, 2, 99), (99, .ifCond .lt 328, 3, 102), (102, .aload_n 0, 1, 103), (103, .getfield 10, 3, 106), (106, .getfield 175, 3, 109), (109, .iload 7, 2, 111), (111, .iload 5, 2, 113), (113, .iadd, 1, 114), (114, .iaload, 1, 115)] : List (Nat × Instr × Nat × Nat)).all (fun q => decide (decode cX8_divide q.1 = .ok (q.2.1, q.2.2.1)) && q.2.2.2 == q.1 + q.2.2.1) = true := by decide +kernel
theorem dAX8_divide_1 : ([(115, .i2l, 1, 116), (116, .bipush 16, 2, 118), (118, .lshl, 1, 119), (119, .aload_n 0, 1, 120), (120, .getfield 10, 3, 123), (123, .getfield 175, 3, 126), (126, .iload 7, 2, 128), (128, .iload 5, 2, 130), (130, .iadd, 1, 131), (131, .iconst 1, 1, 132), (132, .isub, 1, 133), (133, .iaload, 1, 134), (134, .i2l, 1, 135), (135, .ladd, 1, 136), (136, .lstore 8, 2, 138), (138, .lload 8, 2, 140), (140, .aload_n 0, 1, 141), (141, .getfield 16, 3, 144), (144, .getfield 175, 3, 147), (147, .iload 5, 2, 149), (149, .iconst 1, 1, 150), (150, .isub, 1, 151), (151, .iaload, 1, 152), (152, .i2l, 1, 153), (153, .ldiv, 1, 154), (154, .lstore 10, 2, 156), (156, .lload 10, 2, 158), (158, .ldc2_w 178, 3, 161), (161, .lcmp, 1, 162), (162, .ifCond .le 9, 3, 165), (165, .ldc2_w 178, 3, 168), (168, .goto 5, 3, 171), (171, .lload 10, 2, 173), (173, .lstore 10, 2, 175), (175, .lconst 0, 1, 176), (176, .lstore 12, 2, 178), (178, .iconst 0, 1, 179), (179, .istore 14, 2, 181), (181, .iload 14, 2, 183), (183, .iload 5, 2, 185), (185, .if_icmp .ge 70, 3, 188), (188, .lload 12, 2, 190), (190, .aload_n 0, 1, 191), (191, .getfield 10, 3, 194), (194, .getfield 175, 3, 197), (197, .iload 7, 2, 199), (199, .iload 14, 2, 201), (201, .iadd, 1, 202), (202, .iaload, 1, 203), (203, .i2l, 1, 204), (204, .lload 10, 2, 206), (206, .aload_n 0, 1, 207), (207, .getfield 16, 3, 210), (210, .getfield 175, 3, 213), (213, .iload 14, 2, 215), (215, .iaload, 1, 216), (216, .i2l, 1, 217), (217, .lmul, 1, 218), (218, .lsub, 1, 219), (219, .ladd, 1, 220)] : List (Nat × Instr × Nat × Nat)).all (fun q => decide (decode cX8_divide q.1 = .ok (q.2.1, q.2.2.1)) && q.2.2.2 == q.1 + q.2.2.1) = true := by decide +kernel
theorem dAX8_divide_2 : ([(220, .lstore 12, 2, 222), (222, .aload_n 0, 1, 223), (223, .getfield 10, 3, 226), (226, .getfield 175, 3, 229), (229, .iload 7, 2, 231), (231, .iload 14, 2, 233), (233, .iadd, 1, 234), (234, .lload 12, 2, 236), (236, .ldc2_w 178, 3, 239), (239, .land, 1, 240), (240, .l2i, 1, 241), (241, .iastore, 1, 242), (242, .lload 12, 2, 244), (244, .bipush 16, 2, 246), (246, .lshr, 1, 247), (247, .lstore 12, 2, 249), (249, .iinc 14 1, 3, 252), (252, .goto (-71), 3, 255), (255, .lload 12, 2, 257), (257, .aload_n 0, 1, 258), (258, .getfield 10, 3, 261), (261, .getfield 175, 3, 264), (264, .iload 7, 2, 266), (266, .iload 5, 2, 268), (268, .iadd, 1, 269), (269, .iaload, 1, 270), (270, .i2l, 1, 271), (271, .ladd, 1, 272), (272, .lstore 12, 2, 274), (274, .aload_n 0, 1, 275), (275, .getfield 10, 3, 278), (278, .getfield 175, 3, 281), (281, .iload 7, 2, 283), (283, .iload 5, 2, 285), (285, .iadd, 1, 286), (286, .lload 12, 2, 288), (288, .ldc2_w 178, 3, 291), (291, .land, 1, 292), (292, .l2i, 1, 293), (293, .iastore, 1, 294), (294, .lload 12, 2, 296), (296, .lconst 0, 1, 297), (297, .lcmp, 1, 298), (298, .ifCond .ge 113, 3, 301), (301, .iconst 0, 1, 302), (302, .istore 14, 2, 304), (304, .iconst 0, 1, 305), (305, .istore 15, 2, 307), (307, .iload 15, 2, 309), (309, .iload 5, 2, 311), (311, .if_icmp .ge 63, 3, 314), (314, .iload 14, 2, 316), (316, .aload_n 0, 1, 317), (317, .getfield 10, 3, 320), (320, .getfield 175, 3, 323), (323, .iload 7, 2, 325), (325, .iload 15, 2, 327), (327, .iadd, 1, 328), (328, .iaload, 1, 329), (329, .aload_n 0, 1, 330)] : List (Nat × Instr × Nat × Nat)).all (fun q => decide (decode cX8_divide q.1 = .ok (q.2.1, q.2.2.1)) && q.2.2.2 == q.1 + q.2.2.1) = true := by decide +kernel
theorem dAX8_divide_3 : ([(330, .getfield 16, 3, 333), (333, .getfield 175, 3, 336), (336, .iload 15, 2, 338), (338, .iaload, 1, 339), (339, .iadd, 1, 340), (340, .iadd, 1, 341), (341, .istore 14, 2, 343), (343, .aload_n 0, 1, 344), (344, .getfield 10, 3, 347), (347, .getfield 175, 3, 350), (350, .iload 7, 2, 352), (352, .iload 15, 2, 354), (354, .iadd, 1, 355), (355, .iload 14, 2, 357), (357, .ldc 180, 2, 359), (359, .iand, 1, 360), (360, .iastore, 1, 361), (361, .iload 14, 2, 363), (363, .bipush 16, 2, 365), (365, .ishr, 1, 366), (366, .istore 14, 2, 368), (368, .iinc 15 1, 3, 371), (371, .goto (-64), 3, 374), (374, .lload 12, 2, 376), (376, .iload 14, 2, 378), (378, .i2l, 1, 379), (379, .ladd, 1, 380), (380, .lstore 12, 2, 382), (382, .aload_n 0, 1, 383), (383, .getfield 10, 3, 386), (386, .getfield 175, 3, 389), (389, .iload 7, 2, 391), (391, .iload 5, 2, 393), (393, .iadd, 1, 394), (394, .lload 12, 2, 396), (396, .ldc2_w 178, 3, 399), (399, .land, 1, 400), (400, .l2i, 1, 401), (401, .iastore, 1, 402), (402, .lload 10, 2, 404), (404, .lconst 1, 1, 405), (405, .lsub, 1, 406), (406, .lstore 10, 2, 408), (408, .goto (-114), 3, 411), (411, .aload_n 3, 1, 412), (412, .getfield 175, 3, 415), (415, .iload 7, 2, 417), (417, .lload 10, 2, 419), (419, .l2i, 1, 420), (420, .iastore, 1, 421), (421, .iinc 7 (-1), 3, 424), (424, .goto (-327), 3, 427), (427, .aload_n 3, 1, 428), (428, .invokevirtual 181, 3, 431), (431, .aload_n 0, 1, 432), (432, .getfield 10, 3, 435), (435, .iload 5, 2, 437), (437, .putfield 164, 3, 440), (440, .aload_n 0, 1, 441), (441, .getfield 10, 3, 444)] : List (Nat × Instr × Nat × Nat)).all (fun q => decide (decode cX8_divide q.1 = .ok (q.2.1, q.2.2.1)) && q.2.2.2 == q.1 + q.2.2.1) = true := by decide +kernel
theorem dAX8_divide_4 : ([(444, .invokevirtual 181, 3, 447), (447, .iconst 0, 1, 448), (448, .istore 7, 2, 450), (450, .iload 7, 2, 452), (452, .aload_n 0, 1, 453), (453, .getfield 10, 3, 456), (456, .getfield 164, 3, 459), (459, .if_icmp .ge 69, 3, 462), (462, .aload_n 1, 1, 463), (463, .getfield 175, 3, 466), (466, .iload 7, 2, 468), (468, .aload_n 0, 1, 469), (469, .getfield 10, 3, 472), (472, .getfield 175, 3, 475), (475, .iload 7, 2, 477), (477, .iaload, 1, 478), (478, .iload 4, 2, 480), (480, .ishr, 1, 481), (481, .iload 7, 2, 483), (483, .iconst 1, 1, 484), (484, .iadd, 1, 485), (485, .aload_n 0, 1, 486), (486, .getfield 10, 3, 489), (489, .getfield 164, 3, 492), (492, .if_icmp .ge 27, 3, 495), (495, .aload_n 0, 1, 496), (496, .getfield 10, 3, 499), (499, .getfield 175, 3, 502), (502, .iload 7, 2, 504), (504, .iconst 1, 1, 505), (505, .iadd, 1, 506), (506, .iaload, 1, 507), (507, .bipush 16, 2, 509), (509, .iload 4, 2, 511), (511, .isub, 1, 512), (512, .ishl, 1, 513), (513, .ldc 180, 2, 515), (515, .iand, 1, 516), (516, .goto 4, 3, 519), (519, .iconst 0, 1, 520), (520, .ior, 1, 521), (521, .iastore, 1, 522), (522, .iinc 7 1, 3, 525), (525, .goto (-75), 3, 528), (528, .aload_n 1, 1, 529), (529, .aload_n 0, 1, 530), (530, .getfield 10, 3, 533), (533, .getfield 164, 3, 536), (536, .putfield 164, 3, 539), (539, .aload_n 1, 1, 540), (540, .invokevirtual 181, 3, 543), (543, .return_, 1, 544)] : List (Nat × Instr × Nat × Nat)).all (fun q => decide (decode cX8_divide q.1 = .ok (q.2.1, q.2.2.1)) && q.2.2.2 == q.1 + q.2.2.1) = true := by decide +kernel
theorem n_dgt_step (v n : Nat) : v / 65536 ^ n = v / 65536 ^ (n + 1) * 65536 + n_dgt v n := by
  unfold n_dgt
  rw [Nat.pow_succ, ← Nat.div_div_eq_div_mul]
  omega

set_option maxHeartbeats 1000000 in
set_option maxRecDepth 100000 in
theorem c_X8_shift (l : Launch) (w : Wl) (σ : St) (i v : Nat) (hi : w.2 14 i) (hN : NN σ i v) (hv9 : v < 65536 ^ 269) (up : Nat) (hup : up < 16) (o : Nat) (hj : w.2 14 o) (he : NDg σ o) (hne : o ≠ i) : Cn l yX8_shift cX8_shift 5 none 1 20 wN [.ref (w.1 14 i), .int (iI ((up : Int))), .ref (w.1 14 o)] w σ (fun _ σ' => NN σ' o (v * 2 ^ up) ∧ Fr [(11, o), (12, o)] σ σ') := by
  refine Cn.of (own := RX8) (lv := [(0, .ref (w.1 14 i)), (1, .int (iI ((up : Int)))), (2, .ref (w.1 14 o))]) (by decide +kernel) rfl (Nat.le_of_ble_eq_true rfl) rfl (fun X hX hxl hR hcl hret => ?_)
  subst hxl
  have hi2 : w.2 15 i := hcl 14 i hi (15, i) (by simp [mn, tp])
  obtain ⟨u, hu, hu8, hd, ht, hv⟩ := hN
  have hj2 : w.2 15 o := hcl 14 o hj (15, o) (by simp [mn, tp])
  have hu9 := n_used_le hd ht hv hv9
  have hP := p16 hup
  have hPp := Nat.two_pow_pos up
  have loop : ∀ (d k c : Nat) (s : St), k + d = u → c < 2 ^ up → NDg s o → Fr [(12, o)] σ s → vB 65536 (fN s o) k + c * 65536 ^ k = vB 65536 (n_dgt v) k * 2 ^ up → V X (0, 0) w 5 [(4, .int (iI ((k : Int)))), (3, .int (iI ((c : Int)))), (0, .ref (w.1 14 i)), (1, .int (iI ((up : Int)))), (2, .ref (w.1 14 o))] s [] := by
    intro d
    induction d with
    | zero =>
      intro k c s hk hc hds hf hval
      obtain rfl : k = u := by omega
      have hsi : s 11 i 0 = (k : Int) := by rw [hf 11 i (by simp)]; exact hu
      rw [n_dgt_all (n_used_lt_pow hd hv (Nat.le_refl k))] at hval
      have hfin : vB 65536 (fN (su (su s 12 o k (c : Int)) 11 o 0 ((k : Int) + 1)) o) (k + 1) = v * 2 ^ up := by
        rw [vB_congr (g := fN (su s 12 o k (c : Int)) o) (fun j _ => by show (su (su s 12 o k (c : Int)) 11 o 0 ((k : Int) + 1) 12 o j).toNat = _; rw [su_c (by decide)]), n_vB_s1 rfl]
        exact hval
      refine v_iload hX 0 rfl (atL dAX8_shift_0 4 rfl) ?_
      refine v_aload_n hX 2 rfl (atL dAX8_shift_0 5 rfl) ?_
      refine gf_X8_164 hX (v := (k : Int)) (hsi) hi (atL dAX8_shift_0 6 rfl) ?_
      refine v_icmp_ge hX ⟨by omega, by omega⟩ ⟨by omega, by omega⟩ (tgt := 48) (atL dAX8_shift_0 7 rfl) (by decide) (fun h11 => ?_) (fun h11 => absurd h11 (by omega))
      refine v_aload_n hX 4 rfl (atL dAX8_shift_0 30 rfl) ?_
      refine gf_X8_175 hX hj (atL dAX8_shift_0 31 rfl) ?_
      refine v_aload_n hX 2 rfl (atL dAX8_shift_0 32 rfl) ?_
      refine gf_X8_164 hX (v := (k : Int)) (hsi) hi (atL dAX8_shift_0 33 rfl) ?_
      refine v_iload_n hX 1 rfl (atL dAX8_shift_0 34 rfl) ?_
      refine v_iast hX (c := 12) k hj2 (by decide) (fun _ _ => rfl) rfl (by omega) (by decide) (atL dAX8_shift_0 35 rfl) ?_
      refine v_aload_n hX 4 rfl (atL dAX8_shift_0 36 rfl) ?_
      refine v_aload_n hX 2 rfl (atL dAX8_shift_0 37 rfl) ?_
      refine gf_X8_164 hX (v := (k : Int)) ((su_c (by decide)).trans (hsi)) hi (atL dAX8_shift_0 38 rfl) ?_
      refine v_iconst hX (atL dAX8_shift_0 39 rfl) ?_
      refine v_iadd hX (iI_add _ _) (atL dAX8_shift_0 40 rfl) ?_
      refine pf_X8_164 hX hj (atL dAX8_shift_0 41 rfl) ?_
      refine v_aload_n hX 4 rfl (atL dAX8_shift_0 42 rfl) ?_
      refine v_callN hX (As := []) (rest := []) (c_X7_cut (xl X) w (su (su s 12 o k ((c : Int))) 11 o 0 (((k : Int)) + 1)) o hj (fun j => by rw [su_c (by decide)]; exact (hds.su ⟨by omega, by omega⟩) j) (k + 1) (v * 2 ^ up) (by rw [su_s]; omega) (by omega) hfin) lk_X8_181 hj (fun _ => rfl) rfl rfl rfl (by rw [hR]; exact ⟨Nat.le_of_ble_eq_true rfl, Nat.le_of_ble_eq_true rfl⟩) ⟨Nat.zero_le _, Nat.zero_le _⟩ rfl (Nat.le_of_ble_eq_true rfl) (atL dAX8_shift_0 43 rfl) (fun _ s1 h1 => ?_)
      obtain ⟨h1a, h1f⟩ := h1
      show V X _ w _ _ s1 []
      exact v_vret hX (atL dAX8_shift_0 44 rfl) (hret () _ ⟨h1a, (((hf.mono (by simp)).tr' (Fr.su (by simp))).tr' (Fr.su (by simp))).tr' (h1f.mono (by simp))⟩)
    | succ d ih =>
      intro k c s hk hc hds hf hval
      have hsi : s 11 i 0 = (u : Int) := by rw [hf 11 i (by simp)]; exact hu
      have hri : s 12 i k = (n_dgt v k : Int) := by rw [hf 12 i (by simp [Ne.symm hne]), ← n_dgt_WN hd hv k, if_pos (by omega)]
      have hlv := n_dgt_lt v k
      obtain ⟨sh, hsh⟩ : ∃ q, n_dgt v k * 2 ^ up = q := ⟨_, rfl⟩
      have hsb : (n_dgt v k + 1) * 2 ^ up ≤ 65536 * 2 ^ up := Nat.mul_le_mul_right _ hlv
      rw [Nat.add_mul, Nat.one_mul, hsh] at hsb
      refine v_iload hX 0 rfl (atL dAX8_shift_0 4 rfl) ?_
      refine v_aload_n hX 2 rfl (atL dAX8_shift_0 5 rfl) ?_
      refine gf_X8_164 hX (v := (u : Int)) (hsi) hi (atL dAX8_shift_0 6 rfl) ?_
      refine v_icmp_ge hX ⟨by omega, by omega⟩ ⟨by omega, by omega⟩ (tgt := 48) (atL dAX8_shift_0 7 rfl) (by decide) (fun h11 => absurd h11 (by omega)) (fun h11 => ?_)
      refine v_iload_n hX 1 rfl (atL dAX8_shift_0 8 rfl) ?_
      refine v_aload_n hX 2 rfl (atL dAX8_shift_0 9 rfl) ?_
      refine gf_X8_175 hX hi (atL dAX8_shift_0 10 rfl) ?_
      refine v_iload hX 0 rfl (atL dAX8_shift_0 11 rfl) ?_
      refine v_iald hX (r := iI ((n_dgt v k : Int))) k hi2 (fun _ => rfl) rfl (by omega) (by decide) (congrArg iI (hri)) (atL dAX8_shift_0 12 rfl) ?_
      refine v_iload_n hX 3 rfl (atL dAX8_shift_0 13 rfl) ?_
      refine v_ishl hX (r := iI ((sh : Int))) (by rw [iI_shl _ up (by omega), ← Int.natCast_mul, hsh]) (atL dAX8_shift_0 14 rfl) ?_
      refine v_ior hX (r := iI (((c + sh : Nat) : Int))) (iI_or3 (k := up) hc ⟨n_dgt v k, by rw [← hsh, Nat.mul_comm]⟩ (by omega)) (atL dAX8_shift_0 15 rfl) ?_
      refine v_istore_n hX (i := 3) rfl (lv' := [(3, .int (iI (((c + sh : Nat) : Int)))), (4, .int (iI ((k : Int)))), (0, .ref (w.1 14 i)), (1, .int (iI ((up : Int)))), (2, .ref (w.1 14 o))]) (Nat.le_of_ble_eq_true rfl) rfl (atL dAX8_shift_0 16 rfl) ?_
      refine v_aload_n hX 4 rfl (atL dAX8_shift_0 17 rfl) ?_
      refine gf_X8_175 hX hj (atL dAX8_shift_0 18 rfl) ?_
      refine v_iload hX 1 rfl (atL dAX8_shift_0 19 rfl) ?_
      refine v_iload_n hX 0 rfl (atL dAX8_shift_0 20 rfl) ?_
      refine v_ldc hX (r := 65535) wd_1230 (by decide +kernel) (atL dAX8_shift_0 21 rfl) ?_
      refine v_iand hX (r := iI ((((c + sh : Nat) : Int)) % 65536)) (iI_mask _ 16 (by decide)) (atL dAX8_shift_0 22 rfl) ?_
      refine v_iast hX (c := 12) k hj2 (by decide) (fun _ _ => rfl) rfl (by omega) (by decide) (atL dAX8_shift_0 23 rfl) ?_
      refine v_iload_n hX 0 rfl (atL dAX8_shift_0 24 rfl) ?_
      refine v_bipush hX (by decide +kernel) (atL dAX8_shift_0 25 rfl) ?_
      refine v_iushr hX (r := iI ((((c + sh) / 65536 : Nat) : Int))) ((iI_ushr (by omega) (by omega) 16 (by decide)).trans (congrArg iI (show ((c + sh : Nat) : Int) / ((2 ^ 16 : Nat) : Int) = (((c + sh) / 65536 : Nat) : Int) by omega))) (atL dAX8_shift_0 26 rfl) ?_
      refine v_istore_n hX (i := 3) rfl (lv' := [(3, .int (iI ((((c + sh) / 65536 : Nat) : Int)))), (4, .int (iI ((k : Int)))), (0, .ref (w.1 14 i)), (1, .int (iI ((up : Int)))), (2, .ref (w.1 14 o))]) (Nat.le_of_ble_eq_true rfl) rfl (atL dAX8_shift_0 27 rfl) ?_
      refine v_iinc hX (lv' := [(4, .int (iI (((k : Int)) + 1))), (3, .int (iI ((((c + sh) / 65536 : Nat) : Int)))), (0, .ref (w.1 14 i)), (1, .int (iI ((up : Int)))), (2, .ref (w.1 14 o))]) 1 rfl (iI_add _ _) (Nat.le_of_ble_eq_true rfl) rfl (atL dAX8_shift_0 28 rfl) ?_
      refine v_goto hX (tgt := 5) (atL dAX8_shift_0 29 rfl) (by decide) ?_
      refine v_sub (lv' := [(4, .int (iI (((k : Int)) + 1))), (3, .int (iI ((((c + sh) / 65536 : Nat) : Int)))), (0, .ref (w.1 14 i)), (1, .int (iI ((up : Int)))), (2, .ref (w.1 14 o))]) [0, 1, 2, 3, 4] rfl ?_
      rw [show (k : Int) + 1 = ((k + 1 : Nat) : Int) by omega]
      refine ih (k + 1) _ _ (by omega) (Nat.div_lt_of_lt_mul (by omega)) (hds.su ⟨by omega, by omega⟩) (hf.tr' (Fr.su (by simp))) ?_
      have hst := pr_step (d := sh) hval rfl rfl rfl
      rw [n_vB_s1 (c := (c + sh) % 65536) (by omega), Nat.pow_succ, hst]
      show _ = (vB 65536 (n_dgt v) k + n_dgt v k * 65536 ^ k) * 2 ^ up
      rw [Nat.add_mul, Nat.mul_right_comm, hsh]
  refine v_iconst hX (atL dAX8_shift_0 0 rfl) ?_
  refine v_istore_n hX (i := 3) rfl (lv' := [(3, .int (iI (0))), (0, .ref (w.1 14 i)), (1, .int (iI ((up : Int)))), (2, .ref (w.1 14 o))]) (Nat.le_of_ble_eq_true rfl) rfl (atL dAX8_shift_0 1 rfl) ?_
  refine v_iconst hX (atL dAX8_shift_0 2 rfl) ?_
  refine v_istore hX (lv' := [(4, .int (iI (0))), (3, .int (iI (0))), (0, .ref (w.1 14 i)), (1, .int (iI ((up : Int)))), (2, .ref (w.1 14 o))]) (Nat.le_of_ble_eq_true rfl) rfl (atL dAX8_shift_0 3 rfl) ?_
  refine v_sub (lv' := [(4, .int (iI (0))), (3, .int (iI (0))), (0, .ref (w.1 14 i)), (1, .int (iI ((up : Int)))), (2, .ref (w.1 14 o))]) [0, 1, 2, 3, 4] rfl ?_
  refine loop u 0 0 σ (by omega) hPp he Fr.rf ?_
  show 0 + 0 * _ = 0 * _
  rw [Nat.zero_mul, Nat.zero_mul]
