theorem dAX3_init_0 : ([(0, .aload_n 0, 1, 1), (1, .invokespecial 3, 3, 4), (4, .aload_n 0, 1, 5), (5, .new 9, 3, 8), (8, .dup, 1, 9), (9, .sipush 256, 3, 12), (12, .invokespecial 11, 3, 15), (15, .putfield 14, 3, 18), (18, .aload_n 0, 1, 19), (19, .new 9, 3, 22), (22, .dup, 1, 23), (23, .sipush 256, 3, 26), (26, .invokespecial 11, 3, 29), (29, .putfield 20, 3, 32), (32, .aload_n 0, 1, 33), (33, .new 9, 3, 36), (36, .dup, 1, 37), (37, .sipush 256, 3, 40), (40, .invokespecial 11, 3, 43), (43, .putfield 23, 3, 46), (46, .aload_n 0, 1, 47), (47, .new 9, 3, 50), (50, .dup, 1, 51), (51, .bipush 32, 2, 53), (53, .invokespecial 11, 3, 56), (56, .putfield 26, 3, 59), (59, .aload_n 0, 1, 60), (60, .new 9, 3, 63), (63, .dup, 1, 64), (64, .sipush 296, 3, 67), (67, .invokespecial 11, 3, 70), (70, .putfield 29, 3, 73), (73, .aload_n 0, 1, 74), (74, .aload_n 1, 1, 75), (75, .putfield 32, 3, 78), (78, .return_, 1, 79)] : List (Nat × Instr × Nat × Nat)).all (fun q => decide (decode cX3_init q.1 = .ok (q.2.1, q.2.2.1)) && q.2.2.2 == q.1 + q.2.2.1) = true := by decide +kernel
theorem dAX3_leastSigned_0 : ([(0, .bipush 19, 2, 2), (2, .iload_n 0, 1, 3), (3, .invokestatic 36, 3, 6), (6, .iadd, 1, 7), (7, .bipush 11, 2, 9), (9, .iadd, 1, 10), (10, .ireturn, 1, 11)] : List (Nat × Instr × Nat × Nat)).all (fun q => decide (decode cX3_leastSigned q.1 = .ok (q.2.1, q.2.2.1)) && q.2.2.2 == q.1 + q.2.2.1) = true := by decide +kernel
theorem dAX3_bytesOf_0 : ([(0, .iload_n 0, 1, 1), (1, .bipush 7, 2, 3), (3, .iadd, 1, 4), (4, .bipush 8, 2, 6), (6, .idiv, 1, 7), (7, .ireturn, 1, 8)] : List (Nat × Instr × Nat × Nat)).all (fun q => decide (decode cX3_bytesOf q.1 = .ok (q.2.1, q.2.2.1)) && q.2.2.2 == q.1 + q.2.2.1) = true := by decide +kernel
theorem dAX3_hideIn_0 : ([(0, .iload_n 3, 1, 1), (1, .invokestatic 36, 3, 4), (4, .istore 7, 2, 6), (6, .aload_n 0, 1, 7), (7, .getfield 14, 3, 10), (10, .iconst 0, 1, 11), (11, .putfield 42, 3, 14), (14, .aload_n 0, 1, 15), (15, .getfield 32, 3, 18), (18, .iload_n 3, 1, 19), (19, .aload 5, 2, 21), (21, .aload_n 0, 1, 22), (22, .getfield 14, 3, 25), (25, .invokevirtual 46, 3, 28), (28, .aload_n 0, 1, 29), (29, .getfield 14, 3, 32), (32, .iconst 0, 1, 33), (33, .iload_n 2, 1, 34), (34, .iconst 2, 1, 35), (35, .iload 7, 2, 37), (37, .imul, 1, 38), (38, .isub, 1, 39), (39, .iconst 2, 1, 40), (40, .isub, 1, 41), (41, .aload 4, 2, 43), (43, .getfield 42, 3, 46), (46, .isub, 1, 47), (47, .invokevirtual 50, 3, 50), (50, .aload_n 0, 1, 51), (51, .getfield 14, 3, 54), (54, .iconst 1, 1, 55), (55, .invokevirtual 54, 3, 58), (58, .aload_n 0, 1, 59), (59, .getfield 14, 3, 62), (62, .aload 4, 2, 64), (64, .invokevirtual 57, 3, 67), (67, .aload_n 0, 1, 68), (68, .getfield 32, 3, 71), (71, .iload_n 3, 1, 72), (72, .aload 6, 2, 74), (74, .aload_n 0, 1, 75), (75, .getfield 14, 3, 78), (78, .getfield 42, 3, 81), (81, .aload_n 0, 1, 82), (82, .getfield 20, 3, 85), (85, .invokevirtual 61, 3, 88), (88, .aload_n 0, 1, 89), (89, .getfield 14, 3, 92), (92, .aload_n 0, 1, 93), (93, .getfield 20, 3, 96), (96, .invokevirtual 65, 3, 99), (99, .aload_n 0, 1, 100), (100, .getfield 32, 3, 103), (103, .iload_n 3, 1, 104), (104, .aload_n 0, 1, 105), (105, .getfield 14, 3, 108), (108, .iload 7, 2, 110), (110, .aload_n 0, 1, 111), (111, .getfield 20, 3, 114), (114, .invokevirtual 61, 3, 117)] : List (Nat × Instr × Nat × Nat)).all (fun q => decide (decode cX3_hideIn q.1 = .ok (q.2.1, q.2.2.1)) && q.2.2.2 == q.1 + q.2.2.1) = true := by decide +kernel
theorem dAX3_hideIn_1 : ([(117, .aload_n 0, 1, 118), (118, .getfield 20, 3, 121), (121, .aload 6, 2, 123), (123, .invokevirtual 65, 3, 126), (126, .aload_n 1, 1, 127), (127, .iconst 0, 1, 128), (128, .putfield 42, 3, 131), (131, .aload_n 1, 1, 132), (132, .iconst 0, 1, 133), (133, .invokevirtual 54, 3, 136), (136, .aload_n 1, 1, 137), (137, .aload_n 0, 1, 138), (138, .getfield 20, 3, 141), (141, .invokevirtual 57, 3, 144), (144, .aload_n 1, 1, 145), (145, .aload_n 0, 1, 146), (146, .getfield 14, 3, 149), (149, .invokevirtual 57, 3, 152), (152, .return_, 1, 153)] : List (Nat × Instr × Nat × Nat)).all (fun q => decide (decode cX3_hideIn q.1 = .ok (q.2.1, q.2.2.1)) && q.2.2.2 == q.1 + q.2.2.1) = true := by decide +kernel
theorem dAX3_showFrom_0 : ([(0, .iload_n 2, 1, 1), (1, .invokestatic 36, 3, 4), (4, .istore 5, 2, 6), (6, .aload_n 0, 1, 7), (7, .getfield 23, 3, 10), (10, .aload_n 1, 1, 11), (11, .iconst 1, 1, 12), (12, .iload 5, 2, 14), (14, .invokevirtual 68, 3, 17), (17, .aload_n 0, 1, 18), (18, .getfield 14, 3, 21), (21, .aload_n 1, 1, 22), (22, .iconst 1, 1, 23), (23, .iload 5, 2, 25), (25, .iadd, 1, 26), (26, .aload_n 1, 1, 27), (27, .getfield 42, 3, 30), (30, .iload 5, 2, 32), (32, .isub, 1, 33), (33, .iconst 1, 1, 34), (34, .isub, 1, 35), (35, .invokevirtual 68, 3, 38), (38, .aload_n 0, 1, 39), (39, .getfield 32, 3, 42), (42, .iload_n 2, 1, 43), (43, .aload_n 0, 1, 44), (44, .getfield 14, 3, 47), (47, .iload 5, 2, 49), (49, .aload_n 0, 1, 50), (50, .getfield 20, 3, 53), (53, .invokevirtual 61, 3, 56), (56, .aload_n 0, 1, 57), (57, .getfield 23, 3, 60), (60, .aload_n 0, 1, 61), (61, .getfield 20, 3, 64), (64, .invokevirtual 65, 3, 67), (67, .aload_n 0, 1, 68), (68, .getfield 32, 3, 71), (71, .iload_n 2, 1, 72), (72, .aload_n 0, 1, 73), (73, .getfield 23, 3, 76), (76, .aload_n 0, 1, 77), (77, .getfield 14, 3, 80), (80, .getfield 42, 3, 83), (83, .aload_n 0, 1, 84), (84, .getfield 20, 3, 87), (87, .invokevirtual 61, 3, 90), (90, .aload_n 0, 1, 91), (91, .getfield 14, 3, 94), (94, .aload_n 0, 1, 95), (95, .getfield 20, 3, 98), (98, .invokevirtual 65, 3, 101), (101, .aload_n 0, 1, 102), (102, .getfield 26, 3, 105), (105, .iconst 0, 1, 106), (106, .putfield 42, 3, 109), (109, .aload_n 0, 1, 110), (110, .getfield 32, 3, 113), (113, .iload_n 2, 1, 114), (114, .aload_n 3, 1, 115)] : List (Nat × Instr × Nat × Nat)).all (fun q => decide (decode cX3_showFrom q.1 = .ok (q.2.1, q.2.2.1)) && q.2.2.2 == q.1 + q.2.2.1) = true := by decide +kernel
theorem dAX3_showFrom_1 : ([(115, .aload_n 0, 1, 116), (116, .getfield 26, 3, 119), (119, .invokevirtual 46, 3, 122), (122, .iload 5, 2, 124), (124, .aload_n 0, 1, 125), (125, .getfield 14, 3, 128), (128, .iload 5, 2, 130), (130, .invokevirtual 72, 3, 133), (133, .iadd, 1, 134), (134, .istore 6, 2, 136), (136, .aload_n 1, 1, 137), (137, .iconst 0, 1, 138), (138, .invokevirtual 75, 3, 141), (141, .ifCond .ne 31, 3, 144), (144, .aload_n 0, 1, 145), (145, .getfield 14, 3, 148), (148, .aload_n 0, 1, 149), (149, .getfield 26, 3, 152), (152, .iconst 0, 1, 153), (153, .invokevirtual 78, 3, 156), (156, .ifCond .eq 16, 3, 159), (159, .aload_n 0, 1, 160), (160, .getfield 14, 3, 163), (163, .iload 6, 2, 165), (165, .invokevirtual 75, 3, 168), (168, .iconst 1, 1, 169), (169, .if_icmp .eq 5, 3, 172), (172, .iconst 0, 1, 173), (173, .ireturn, 1, 174), (174, .aload 4, 2, 176), (176, .aload_n 0, 1, 177), (177, .getfield 14, 3, 180), (180, .iload 6, 2, 182), (182, .iconst 1, 1, 183), (183, .iadd, 1, 184), (184, .aload_n 0, 1, 185), (185, .getfield 14, 3, 188), (188, .getfield 42, 3, 191), (191, .iload 6, 2, 193), (193, .isub, 1, 194), (194, .iconst 1, 1, 195), (195, .isub, 1, 196), (196, .invokevirtual 68, 3, 199), (199, .iconst 1, 1, 200), (200, .ireturn, 1, 201)] : List (Nat × Instr × Nat × Nat)).all (fun q => decide (decode cX3_showFrom q.1 = .ok (q.2.1, q.2.2.1)) && q.2.2.2 == q.1 + q.2.2.1) = true := by decide +kernel
theorem dAX3_fillIn_0 : ([(0, .aload_n 1, 1, 1), (1, .iconst 0, 1, 2), (2, .putfield 42, 3, 5), (5, .aload_n 1, 1, 6), (6, .iconst 0, 1, 7), (7, .invokevirtual 54, 3, 10), (10, .aload_n 1, 1, 11), (11, .iconst 2, 1, 12), (12, .invokevirtual 54, 3, 15), (15, .aload_n 1, 1, 16), (16, .aload_n 3, 1, 17), (17, .invokevirtual 57, 3, 20), (20, .aload_n 1, 1, 21), (21, .iconst 0, 1, 22), (22, .invokevirtual 54, 3, 25), (25, .aload_n 1, 1, 26), (26, .aload_n 2, 1, 27), (27, .invokevirtual 57, 3, 30), (30, .return_, 1, 31)] : List (Nat × Instr × Nat × Nat)).all (fun q => decide (decode cX3_fillIn q.1 = .ok (q.2.1, q.2.2.1)) && q.2.2.2 == q.1 + q.2.2.1) = true := by decide +kernel
theorem dAX3_emptyFrom_0 : ([(0, .aload_n 1, 1, 1), (1, .iconst 2, 1, 2), (2, .invokevirtual 82, 3, 5), (5, .istore_n 3, 1, 6), (6, .iconst 2, 1, 7), (7, .iload_n 3, 1, 8), (8, .iadd, 1, 9), (9, .istore 4, 2, 11), (11, .aload_n 1, 1, 12), (12, .iconst 0, 1, 13), (13, .invokevirtual 75, 3, 16), (16, .ifCond .ne 27, 3, 19), (19, .aload_n 1, 1, 20), (20, .iconst 1, 1, 21), (21, .invokevirtual 75, 3, 24), (24, .iconst 2, 1, 25), (25, .if_icmp .ne 18, 3, 28), (28, .iload_n 3, 1, 29), (29, .bipush 8, 2, 31), (31, .if_icmp .lt 12, 3, 34), (34, .aload_n 1, 1, 35), (35, .iload 4, 2, 37), (37, .invokevirtual 85, 3, 40), (40, .ifCond .ne 5, 3, 43), (43, .iconst 0, 1, 44), (44, .ireturn, 1, 45), (45, .aload_n 2, 1, 46), (46, .aload_n 1, 1, 47), (47, .iload 4, 2, 49), (49, .iconst 1, 1, 50), (50, .iadd, 1, 51), (51, .aload_n 1, 1, 52), (52, .getfield 42, 3, 55), (55, .iload 4, 2, 57), (57, .isub, 1, 58), (58, .iconst 1, 1, 59), (59, .isub, 1, 60), (60, .invokevirtual 68, 3, 63), (63, .iconst 1, 1, 64), (64, .ireturn, 1, 65)] : List (Nat × Instr × Nat × Nat)).all (fun q => decide (decode cX3_emptyFrom q.1 = .ok (q.2.1, q.2.2.1)) && q.2.2.2 == q.1 + q.2.2.1) = true := by decide +kernel
theorem dAX3_signIn_0 : ([(0, .aload_n 1, 1, 1), (1, .iconst 0, 1, 2), (2, .putfield 42, 3, 5), (5, .aload_n 1, 1, 6), (6, .iconst 0, 1, 7), (7, .invokevirtual 54, 3, 10), (10, .aload_n 1, 1, 11), (11, .iconst 1, 1, 12), (12, .invokevirtual 54, 3, 15), (15, .aload_n 1, 1, 16), (16, .sipush 255, 3, 19), (19, .iload_n 2, 1, 20), (20, .iconst 3, 1, 21), (21, .isub, 1, 22), (22, .bipush 19, 2, 24), (24, .isub, 1, 25), (25, .iload_n 3, 1, 26), (26, .invokestatic 36, 3, 29), (29, .isub, 1, 30), (30, .invokevirtual 50, 3, 33), (33, .aload_n 1, 1, 34), (34, .iconst 0, 1, 35), (35, .invokevirtual 54, 3, 38), (38, .iconst 0, 1, 39), (39, .istore 5, 2, 41), (41, .iload 5, 2, 43), (43, .bipush 19, 2, 45), (45, .if_icmp .ge 32, 3, 48), (48, .aload_n 1, 1, 49), (49, .iload_n 3, 1, 50), (50, .ifCond .ne 12, 3, 53), (53, .getstatic 89, 3, 56), (56, .iload 5, 2, 58), (58, .iaload, 1, 59), (59, .goto 9, 3, 62), (62, .getstatic 93, 3, 65), (65, .iload 5, 2, 67), (67, .iaload, 1, 68), (68, .invokevirtual 54, 3, 71), (71, .iinc 5 1, 3, 74), (74, .goto (-33), 3, 77), (77, .aload_n 0, 1, 78), (78, .getfield 32, 3, 81), (81, .iload_n 3, 1, 82), (82, .aload 4, 2, 84), (84, .aload_n 1, 1, 85), (85, .invokevirtual 46, 3, 88), (88, .return_, 1, 89)] : List (Nat × Instr × Nat × Nat)).all (fun q => decide (decode cX3_signIn q.1 = .ok (q.2.1, q.2.2.1)) && q.2.2.2 == q.1 + q.2.2.1) = true := by decide +kernel
theorem dAX3_saltIn_0 : ([(0, .iload_n 2, 1, 1), (1, .invokestatic 96, 3, 4), (4, .iload_n 3, 1, 5), (5, .invokestatic 36, 3, 8), (8, .isub, 1, 9), (9, .iconst 1, 1, 10), (10, .isub, 1, 11), (11, .istore 6, 2, 13), (13, .aload_n 0, 1, 14), (14, .iload_n 3, 1, 15), (15, .aload 4, 2, 17), (17, .aload 5, 2, 19), (19, .invokevirtual 99, 3, 22), (22, .aload_n 0, 1, 23), (23, .getfield 14, 3, 26), (26, .iconst 0, 1, 27), (27, .putfield 42, 3, 30), (30, .aload_n 0, 1, 31), (31, .getfield 14, 3, 34), (34, .iconst 0, 1, 35), (35, .iload 6, 2, 37), (37, .iconst 1, 1, 38), (38, .isub, 1, 39), (39, .aload 5, 2, 41), (41, .getfield 42, 3, 44), (44, .isub, 1, 45), (45, .invokevirtual 50, 3, 48), (48, .aload_n 0, 1, 49), (49, .getfield 14, 3, 52), (52, .iconst 1, 1, 53), (53, .invokevirtual 54, 3, 56), (56, .aload_n 0, 1, 57), (57, .getfield 14, 3, 60), (60, .aload 5, 2, 62), (62, .invokevirtual 57, 3, 65), (65, .aload_n 0, 1, 66), (66, .getfield 32, 3, 69), (69, .iload_n 3, 1, 70), (70, .aload_n 0, 1, 71), (71, .getfield 26, 3, 74), (74, .iload 6, 2, 76), (76, .aload_n 0, 1, 77), (77, .getfield 20, 3, 80), (80, .invokevirtual 61, 3, 83), (83, .aload_n 0, 1, 84), (84, .getfield 14, 3, 87), (87, .aload_n 0, 1, 88), (88, .getfield 20, 3, 91), (91, .invokevirtual 65, 3, 94), (94, .aload_n 0, 1, 95), (95, .getfield 14, 3, 98), (98, .iconst 0, 1, 99), (99, .aload_n 0, 1, 100), (100, .getfield 14, 3, 103), (103, .iconst 0, 1, 104), (104, .invokevirtual 75, 3, 107), (107, .iload_n 2, 1, 108), (108, .invokestatic 102, 3, 111), (111, .iand, 1, 112), (112, .invokevirtual 105, 3, 115)] : List (Nat × Instr × Nat × Nat)).all (fun q => decide (decode cX3_saltIn q.1 = .ok (q.2.1, q.2.2.1)) && q.2.2.2 == q.1 + q.2.2.1) = true := by decide +kernel
theorem dAX3_saltIn_1 : ([(115, .aload_n 1, 1, 116), (116, .iconst 0, 1, 117), (117, .putfield 42, 3, 120), (120, .aload_n 1, 1, 121), (121, .aload_n 0, 1, 122), (122, .getfield 14, 3, 125), (125, .invokevirtual 57, 3, 128), (128, .aload_n 1, 1, 129), (129, .aload_n 0, 1, 130), (130, .getfield 26, 3, 133), (133, .invokevirtual 57, 3, 136), (136, .aload_n 1, 1, 137), (137, .sipush 188, 3, 140), (140, .invokevirtual 54, 3, 143), (143, .return_, 1, 144)] : List (Nat × Instr × Nat × Nat)).all (fun q => decide (decode cX3_saltIn q.1 = .ok (q.2.1, q.2.2.1)) && q.2.2.2 == q.1 + q.2.2.1) = true := by decide +kernel
theorem dAX3_tasteFrom_0 : ([(0, .iload_n 3, 1, 1), (1, .invokestatic 36, 3, 4), (4, .istore 6, 2, 6), (6, .aload_n 1, 1, 7), (7, .getfield 42, 3, 10), (10, .iload_n 2, 1, 11), (11, .invokestatic 96, 3, 14), (14, .isub, 1, 15), (15, .istore 7, 2, 17), (17, .iload_n 2, 1, 18), (18, .invokestatic 96, 3, 21), (21, .iload 6, 2, 23), (23, .isub, 1, 24), (24, .iconst 1, 1, 25), (25, .isub, 1, 26), (26, .istore 8, 2, 28), (28, .iload 7, 2, 30), (30, .ifCond .le 11, 3, 33), (33, .aload_n 1, 1, 34), (34, .iconst 0, 1, 35), (35, .invokevirtual 75, 3, 38), (38, .ifCond .ne 19, 3, 41), (41, .aload_n 1, 1, 42), (42, .aload_n 1, 1, 43), (43, .getfield 42, 3, 46), (46, .iconst 1, 1, 47), (47, .isub, 1, 48), (48, .invokevirtual 75, 3, 51), (51, .sipush 188, 3, 54), (54, .if_icmp .eq 5, 3, 57), (57, .iconst 0, 1, 58), (58, .ireturn, 1, 59), (59, .aload_n 0, 1, 60), (60, .getfield 14, 3, 63), (63, .aload_n 1, 1, 64), (64, .iload 7, 2, 66), (66, .iload 8, 2, 68), (68, .invokevirtual 68, 3, 71), (71, .aload_n 0, 1, 72), (72, .getfield 23, 3, 75), (75, .aload_n 1, 1, 76), (76, .iload 7, 2, 78), (78, .iload 8, 2, 80), (80, .iadd, 1, 81), (81, .iload 6, 2, 83), (83, .invokevirtual 68, 3, 86), (86, .aload_n 0, 1, 87), (87, .getfield 14, 3, 90), (90, .iconst 0, 1, 91), (91, .invokevirtual 75, 3, 94), (94, .iload_n 2, 1, 95), (95, .invokestatic 102, 3, 98), (98, .iconst (-1), 1, 99), (99, .ixor, 1, 100), (100, .iand, 1, 101), (101, .ifCond .eq 5, 3, 104), (104, .iconst 0, 1, 105), (105, .ireturn, 1, 106), (106, .aload_n 0, 1, 107), (107, .getfield 32, 3, 110)] : List (Nat × Instr × Nat × Nat)).all (fun q => decide (decode cX3_tasteFrom q.1 = .ok (q.2.1, q.2.2.1)) && q.2.2.2 == q.1 + q.2.2.1) = true := by decide +kernel
theorem dAX3_tasteFrom_1 : ([(110, .iload_n 3, 1, 111), (111, .aload_n 0, 1, 112), (112, .getfield 23, 3, 115), (115, .iload 8, 2, 117), (117, .aload_n 0, 1, 118), (118, .getfield 20, 3, 121), (121, .invokevirtual 61, 3, 124), (124, .aload_n 0, 1, 125), (125, .getfield 14, 3, 128), (128, .aload_n 0, 1, 129), (129, .getfield 20, 3, 132), (132, .invokevirtual 65, 3, 135), (135, .aload_n 0, 1, 136), (136, .getfield 14, 3, 139), (139, .iconst 0, 1, 140), (140, .aload_n 0, 1, 141), (141, .getfield 14, 3, 144), (144, .iconst 0, 1, 145), (145, .invokevirtual 75, 3, 148), (148, .iload_n 2, 1, 149), (149, .invokestatic 102, 3, 152), (152, .iand, 1, 153), (153, .invokevirtual 105, 3, 156), (156, .iload 8, 2, 158), (158, .iload 5, 2, 160), (160, .isub, 1, 161), (161, .iconst 1, 1, 162), (162, .isub, 1, 163), (163, .istore 9, 2, 165), (165, .aload_n 0, 1, 166), (166, .getfield 14, 3, 169), (169, .iconst 0, 1, 170), (170, .invokevirtual 72, 3, 173), (173, .iload 9, 2, 175), (175, .if_icmp .ne 16, 3, 178), (178, .aload_n 0, 1, 179), (179, .getfield 14, 3, 182), (182, .iload 9, 2, 184), (184, .invokevirtual 75, 3, 187), (187, .iconst 1, 1, 188), (188, .if_icmp .eq 5, 3, 191), (191, .iconst 0, 1, 192), (192, .ireturn, 1, 193), (193, .aload_n 0, 1, 194), (194, .getfield 20, 3, 197), (197, .aload_n 0, 1, 198), (198, .getfield 14, 3, 201), (201, .iload 9, 2, 203), (203, .iconst 1, 1, 204), (204, .iadd, 1, 205), (205, .iload 5, 2, 207), (207, .invokevirtual 68, 3, 210), (210, .aload_n 0, 1, 211), (211, .iload_n 3, 1, 212), (212, .aload 4, 2, 214), (214, .aload_n 0, 1, 215), (215, .getfield 20, 3, 218), (218, .invokevirtual 99, 3, 221), (221, .aload_n 0, 1, 222), (222, .getfield 23, 3, 225)] : List (Nat × Instr × Nat × Nat)).all (fun q => decide (decode cX3_tasteFrom q.1 = .ok (q.2.1, q.2.2.1)) && q.2.2.2 == q.1 + q.2.2.1) = true := by decide +kernel
theorem dAX3_tasteFrom_2 : ([(225, .aload_n 0, 1, 226), (226, .getfield 26, 3, 229), (229, .iconst 0, 1, 230), (230, .invokevirtual 78, 3, 233), (233, .ireturn, 1, 234)] : List (Nat × Instr × Nat × Nat)).all (fun q => decide (decode cX3_tasteFrom q.1 = .ok (q.2.1, q.2.2.1)) && q.2.2.2 == q.1 + q.2.2.1) = true := by decide +kernel
theorem dAX3_highestKept_0 : ([(0, .sipush 255, 3, 3), (3, .bipush 8, 2, 5), (5, .iload_n 0, 1, 6), (6, .invokestatic 96, 3, 9), (9, .imul, 1, 10), (10, .iload_n 0, 1, 11), (11, .isub, 1, 12), (12, .ishr, 1, 13), (13, .ireturn, 1, 14)] : List (Nat × Instr × Nat × Nat)).all (fun q => decide (decode cX3_highestKept q.1 = .ok (q.2.1, q.2.2.1)) && q.2.2.2 == q.1 + q.2.2.1) = true := by decide +kernel
theorem dAX3_setProof_0 : ([(0, .aload_n 0, 1, 1), (1, .getfield 29, 3, 4), (4, .iconst 0, 1, 5), (5, .putfield 42, 3, 8), (8, .aload_n 0, 1, 9), (9, .getfield 29, 3, 12), (12, .iconst 0, 1, 13), (13, .bipush 8, 2, 15), (15, .invokevirtual 50, 3, 18), (18, .aload_n 0, 1, 19), (19, .getfield 32, 3, 22), (22, .iload_n 1, 1, 23), (23, .aload_n 2, 1, 24), (24, .aload_n 0, 1, 25), (25, .getfield 29, 3, 28), (28, .invokevirtual 46, 3, 31), (31, .aload_n 0, 1, 32), (32, .getfield 29, 3, 35), (35, .aload_n 3, 1, 36), (36, .invokevirtual 57, 3, 39), (39, .aload_n 0, 1, 40), (40, .getfield 26, 3, 43), (43, .iconst 0, 1, 44), (44, .putfield 42, 3, 47), (47, .aload_n 0, 1, 48), (48, .getfield 32, 3, 51), (51, .iload_n 1, 1, 52), (52, .aload_n 0, 1, 53), (53, .getfield 29, 3, 56), (56, .aload_n 0, 1, 57), (57, .getfield 26, 3, 60), (60, .invokevirtual 46, 3, 63), (63, .return_, 1, 64)] : List (Nat × Instr × Nat × Nat)).all (fun q => decide (decode cX3_setProof q.1 = .ok (q.2.1, q.2.2.1)) && q.2.2.2 == q.1 + q.2.2.1) = true := by decide +kernel
set_option maxHeartbeats 1000000 in
set_option maxRecDepth 100000 in
theorem c_X3_leastSigned (l : Launch) (w : Wl) (σ : St) (h : Int) (hh : rI h) : Cn l yX3_leastSigned cX3_leastSigned 1 (Option.some Jvm.ClassFile.FieldType.int) 1 20 wI [.int (iI (h))] w σ (fun a σ' => a = ((19 + hl h + 11 : Nat) : Int) ∧ σ' = σ) := by
  refine Cn.of (own := RX3) (lv := [(0, .int (iI (h)))]) (by decide +kernel) rfl (Nat.le_of_ble_eq_true rfl) rfl (fun X hX hxl hR hcl hret => ?_)
  subst hxl
  refine v_bipush hX (by decide +kernel) (atL dAX3_leastSigned_0 0 rfl) ?_
  refine v_iload_n hX 0 rfl (atL dAX3_leastSigned_0 1 rfl) ?_
  refine v_callS hX (As := [.int (iI (h))]) (rest := [.int (iI (19))]) (c_X1_lengthOf (xl X) w σ h hh) lk_X3_36 rfl (by rw [hR]; exact ⟨Nat.le_of_ble_eq_true rfl, Nat.le_of_ble_eq_true rfl⟩) ⟨Nat.zero_le _, Nat.zero_le _⟩ rfl (Nat.le_of_ble_eq_true rfl) (atL dAX3_leastSigned_0 2 rfl) (fun r z g => ?_)
  obtain ⟨ga, gb⟩ := g
  rw [gb]
  subst ga
  show V X _ w _ _ σ [.int (iI ((hl h : Int))), .int (iI (19))]
  refine v_iadd hX (iI_add _ _) (atL dAX3_leastSigned_0 3 rfl) ?_
  refine v_bipush hX (by decide +kernel) (atL dAX3_leastSigned_0 4 rfl) ?_
  refine v_iadd hX (iI_add _ _) (atL dAX3_leastSigned_0 5 rfl) ?_
  exact v_iret hX (atL dAX3_leastSigned_0 6 rfl) (hret _ _ ⟨by omega, rfl⟩)

set_option maxHeartbeats 1000000 in
set_option maxRecDepth 100000 in
theorem c_X3_bytesOf (l : Launch) (w : Wl) (σ : St) (r : Nat) (hr : r < 100000) : Cn l yX3_bytesOf cX3_bytesOf 1 (Option.some Jvm.ClassFile.FieldType.int) 0 0 wI [.int (iI ((r : Int)))] w σ (fun a σ' => a = ((rB r : Nat) : Int) ∧ σ' = σ) := by
  refine Cn.of (own := RX3) (lv := [(0, .int (iI ((r : Int))))]) (by decide +kernel) rfl (Nat.le_of_ble_eq_true rfl) rfl (fun X hX hxl hR hcl hret => ?_)
  subst hxl
  refine v_iload_n hX 0 rfl (atL dAX3_bytesOf_0 0 rfl) ?_
  refine v_bipush hX (by decide +kernel) (atL dAX3_bytesOf_0 1 rfl) ?_
  refine v_iadd hX (iI_add _ _) (atL dAX3_bytesOf_0 2 rfl) ?_
  refine v_bipush hX (by decide +kernel) (atL dAX3_bytesOf_0 3 rfl) ?_
  refine v_idiv hX (fun e0 => absurd ((iI_eq (b := 0) ⟨by omega, by omega⟩ ⟨by omega, by omega⟩).mp e0) (by omega)) (iI_div (by omega) (by omega) (by omega) (by omega)) (atL dAX3_bytesOf_0 4 rfl) ?_
  exact v_iret hX (atL dAX3_bytesOf_0 5 rfl) (hret _ _ ⟨by unfold rB; omega, rfl⟩)

set_option maxHeartbeats 1000000 in
set_option maxRecDepth 100000 in
theorem c_X3_highestKept (l : Launch) (w : Wl) (σ : St) (r : Nat) (hr : r < 100000) : Cn l yX3_highestKept cX3_highestKept 1 (Option.some Jvm.ClassFile.FieldType.int) 1 20 wI [.int (iI ((r : Int)))] w σ (fun a σ' => a = ((255 / 2 ^ rS r : Nat) : Int) ∧ σ' = σ) := by
  refine Cn.of (own := RX3) (lv := [(0, .int (iI ((r : Int))))]) (by decide +kernel) rfl (Nat.le_of_ble_eq_true rfl) rfl (fun X hX hxl hR hcl hret => ?_)
  subst hxl
  refine v_sipush hX (by decide +kernel) (atL dAX3_highestKept_0 0 rfl) ?_
  refine v_bipush hX (by decide +kernel) (atL dAX3_highestKept_0 1 rfl) ?_
  refine v_iload_n hX 0 rfl (atL dAX3_highestKept_0 2 rfl) ?_
  refine v_callS hX (As := [.int (iI ((r : Int)))]) (rest := [.int (iI (8)), .int (iI (255))]) (c_X3_bytesOf (xl X) w σ r (by omega)) lk_X3_96 rfl (by rw [hR]; exact ⟨Nat.le_of_ble_eq_true rfl, Nat.le_of_ble_eq_true rfl⟩) ⟨Nat.zero_le _, Nat.zero_le _⟩ rfl (Nat.le_of_ble_eq_true rfl) (atL dAX3_highestKept_0 3 rfl) (fun rb900 z900 gg900 => ?_)
  obtain ⟨ga900, gb900⟩ := gg900
  rw [gb900]
  subst ga900
  show V X _ w _ _ σ [.int (iI (((rB r : Nat) : Int))), .int (iI (8)), .int (iI (255))]
  refine v_imul hX (iI_mul _ _) (atL dAX3_highestKept_0 4 rfl) ?_
  refine v_iload_n hX 0 rfl (atL dAX3_highestKept_0 5 rfl) ?_
  refine v_isub hX (iI_sub _ _) (atL dAX3_highestKept_0 6 rfl) ?_
  rw [show ((8 * (((rB r : Nat) : Int))) - ((r : Int))) = ((rS r : Nat) : Int) from (by unfold rS rB; omega)]
  refine v_ishr hX (r := iI (((255 / 2 ^ rS r : Nat) : Int))) (kshr (rS r) (rS_lt r)) (atL dAX3_highestKept_0 7 rfl) ?_
  exact v_iret hX (atL dAX3_highestKept_0 8 rfl) (hret _ _ ⟨rfl, rfl⟩)

set_option maxHeartbeats 1000000 in
set_option maxRecDepth 100000 in
theorem c_X3_setProof (l : Launch) (w : Wl) (σ : St) (hk10 : w.2 10 0) (hA : AR σ) (h : Int) (hh : rI h) (a : Nat) (hav : w.2 1 a) (Ma : List Nat) (ha : RW σ a Ma) (b : Nat) (hbv : w.2 1 b) (Mb : List Nat) (hb : RW σ b Mb) (ha2 : a < 24) (hb1 : Mb.length ≤ 256) (hb2 : b ≠ 32) (hb3 : b ≠ 33) : Cn l yX3_setProof cX3_setProof 4 none 4 95 wN [.ref (w.1 10 0), .int (iI (h)), .ref (w.1 1 a), .ref (w.1 1 b)] w σ (fun _ σ' => RW σ' 32 (prf h Ma Mb) ∧ AR σ' ∧ Fr SPP σ σ') := by
  refine Cn.of (own := RX3) (lv := [(0, .ref (w.1 10 0)), (1, .int (iI (h))), (2, .ref (w.1 1 a)), (3, .ref (w.1 1 b))]) (by decide +kernel) rfl (Nat.le_of_ble_eq_true rfl) rfl (fun X hX hxl hR hcl hret => ?_)
  subst hxl
  have hP : ∀ c q, (c, q) ∈ mn σ 10 0 → w.2 c q := fun c q h => hcl 10 0 hk10 (c, q) h
  have hll := hl_le h
  have hlg := hl_ge h
  obtain ⟨lMa, hlMa⟩ : ∃ q, Ma.length = q := ⟨_, rfl⟩
  have hqMa := ha.le
  rw [hlMa] at hqMa
  obtain ⟨lMb, hlMb⟩ : ∃ q, Mb.length = q := ⟨_, rfl⟩
  have hqMb := hb.le
  rw [hlMb] at hqMb
  rw [hlMb] at hb1
  refine v_aload_n hX 0 rfl (atL dAX3_setProof_0 0 rfl) ?_
  refine gf_X3_29 hX hk10 (atL dAX3_setProof_0 1 rfl) ?_
  refine v_iconst hX (atL dAX3_setProof_0 2 rfl) ?_
  refine pf_X3_42 hX (hP 1 33 (by simp [mn, tp])) (atL dAX3_setProof_0 3 rfl) ?_
  rw [sr_nil]
  obtain ⟨hr1, hf1⟩ := RW_of (s := sr σ 33 []) (hA 33) rfl (by simp) BY.nil
  generalize sr σ 33 [] = s1 at hr1 hf1 ⊢
  have hl1 : ([] : List Nat).length = 0 := rfl
  have hA1 := hA.one hr1 hf1 (by simp)
  have hr1_a := ha.fr hf1 (by simp <;> omega) (by simp <;> omega)
  have hr1_b := hb.fr hf1 (by simp <;> omega) (by simp <;> omega)
  have hF1 := (Fr.rf : Fr SPP σ σ).tr' (hf1.mono (by simp [SPP]))
  refine v_aload_n hX 0 rfl (atL dAX3_setProof_0 4 rfl) ?_
  refine gf_X3_29 hX hk10 (atL dAX3_setProof_0 5 rfl) ?_
  refine v_iconst hX (atL dAX3_setProof_0 6 rfl) ?_
  refine v_bipush hX (by decide +kernel) (atL dAX3_setProof_0 7 rfl) ?_
  refine v_callV hX (As := [.int (iI (0)), .int (iI (8))]) (rest := []) (c_X4_addTimes (xl X) w s1 33 (hP 1 33 (by simp [mn, tp])) (hA1 33) 0 8 (by rw [hr1.2, hl1]; show _ ≤ 296; omega)) lk_X3_50 (hP 1 33 (by simp [mn, tp])) (fun _ => rfl) rfl rfl rfl (by rw [hR]; exact ⟨Nat.le_of_ble_eq_true rfl, Nat.le_of_ble_eq_true rfl⟩) ⟨Nat.zero_le _, Nat.zero_le _⟩ rfl (Nat.le_of_ble_eq_true rfl) (atL dAX3_setProof_0 8 rfl) (fun _ s2 e2 => ?_)
  rw [hr1.2, show ((0 : Int) % 256).toNat = 0 from rfl] at e2
  rw [List.nil_append] at e2
  have hl2 : (List.replicate 8 0).length = 8 := by rw [List.length_replicate]
  obtain ⟨hr2, hf2⟩ := RW_of (M := List.replicate 8 0) (hA1 33) e2 (by rw [hl2]; show _ ≤ 296; omega) ((BY.rep (by omega)))
  have hA2 := hA1.one hr2 hf2 (by simp)
  have hr2_a := hr1_a.fr hf2 (by simp <;> omega) (by simp <;> omega)
  have hr2_b := hr1_b.fr hf2 (by simp <;> omega) (by simp <;> omega)
  have hF2 := hF1.tr' (hf2.mono (by simp [SPP]))
  show V X _ w _ _ s2 []
  refine v_aload_n hX 0 rfl (atL dAX3_setProof_0 9 rfl) ?_
  refine gf_X3_32 hX hk10 (atL dAX3_setProof_0 10 rfl) ?_
  refine v_iload_n hX 1 rfl (atL dAX3_setProof_0 11 rfl) ?_
  refine v_aload_n hX 2 rfl (atL dAX3_setProof_0 12 rfl) ?_
  refine v_aload_n hX 0 rfl (atL dAX3_setProof_0 13 rfl) ?_
  refine gf_X3_29 hX hk10 (atL dAX3_setProof_0 14 rfl) ?_
  refine v_callV hX (As := [.int (iI (h)), .ref (w.1 1 a), .ref (w.1 1 33)]) (rest := []) (c_X1_addDigest (xl X) w s2 (hP 8 0 (by simp [mn, tp])) h hh a hav (hA2 a) 33 (hP 1 33 (by simp [mn, tp])) (hA2 33) (by rw [hr2.2, hl2]; show _ ≤ 296; omega)) lk_X3_46 (hP 8 0 (by simp [mn, tp])) (fun _ => rfl) rfl rfl rfl (by rw [hR]; exact ⟨Nat.le_of_ble_eq_true rfl, Nat.le_of_ble_eq_true rfl⟩) ⟨Nat.zero_le _, Nat.zero_le _⟩ rfl (Nat.le_of_ble_eq_true rfl) (atL dAX3_setProof_0 15 rfl) (fun _ s3 e3 => ?_)
  obtain ⟨hr3, hf3⟩ := e3
  rw [hr2.2, hr2_a.2] at hr3
  have hl3 : (List.replicate 8 0 ++ sha h Ma).length = 8 + hl h := by rw [List.length_append, sha_len, hl2]
  have hA3 := hA2.one hr3 hf3 (by simp)
  have hr3_a := hr2_a.fr hf3 (by simp <;> omega) (by simp <;> omega)
  have hr3_b := hr2_b.fr hf3 (by simp <;> omega) (by simp <;> omega)
  have hF3 := hF2.tr' (hf3.mono (by simp [SPP]))
  show V X _ w _ _ s3 []
  refine v_aload_n hX 0 rfl (atL dAX3_setProof_0 16 rfl) ?_
  refine gf_X3_29 hX hk10 (atL dAX3_setProof_0 17 rfl) ?_
  refine v_aload_n hX 3 rfl (atL dAX3_setProof_0 18 rfl) ?_
  refine v_callV hX (As := [.ref (w.1 1 b)]) (rest := []) (c_X4_addRow (xl X) w s3 33 (hP 1 33 (by simp [mn, tp])) (hA3 33) b hbv (hA3 b) (by omega) (by rw [hr3.2, hr3_b.2, hl3, hlMb]; show _ ≤ 296; omega)) lk_X3_57 (hP 1 33 (by simp [mn, tp])) (fun _ => rfl) rfl rfl rfl (by rw [hR]; exact ⟨Nat.le_of_ble_eq_true rfl, Nat.le_of_ble_eq_true rfl⟩) ⟨Nat.zero_le _, Nat.zero_le _⟩ rfl (Nat.le_of_ble_eq_true rfl) (atL dAX3_setProof_0 19 rfl) (fun _ s4 e4 => ?_)
  rw [hr3.2, hr3_b.2] at e4
  have hl4 : (List.replicate 8 0 ++ sha h Ma ++ Mb).length = 8 + hl h + lMb := by rw [List.length_append, hl3, hlMb]
  obtain ⟨hr4, hf4⟩ := RW_of (M := List.replicate 8 0 ++ sha h Ma ++ Mb) (hA3 33) e4 (by rw [hl4]; show _ ≤ 296; omega) (hr3.by.app hr3_b.by)
  have hA4 := hA3.one hr4 hf4 (by simp)
  have hr4_a := hr3_a.fr hf4 (by simp <;> omega) (by simp <;> omega)
  have hr4_b := hr3_b.fr hf4 (by simp <;> omega) (by simp <;> omega)
  have hF4 := hF3.tr' (hf4.mono (by simp [SPP]))
  show V X _ w _ _ s4 []
  refine v_aload_n hX 0 rfl (atL dAX3_setProof_0 20 rfl) ?_
  refine gf_X3_26 hX hk10 (atL dAX3_setProof_0 21 rfl) ?_
  refine v_iconst hX (atL dAX3_setProof_0 22 rfl) ?_
  refine pf_X3_42 hX (hP 1 32 (by simp [mn, tp])) (atL dAX3_setProof_0 23 rfl) ?_
  rw [sr_nil]
  obtain ⟨hr5, hf5⟩ := RW_of (s := sr s4 32 []) (hA4 32) rfl (by simp) BY.nil
  generalize sr s4 32 [] = s5 at hr5 hf5 ⊢
  have hl5 : ([] : List Nat).length = 0 := rfl
  have hA5 := hA4.one hr5 hf5 (by simp)
  have hr5_a := hr4_a.fr hf5 (by simp <;> omega) (by simp <;> omega)
  have hr5_b := hr4_b.fr hf5 (by simp <;> omega) (by simp <;> omega)
  have hr5_33 := hr4.fr hf5 (by simp <;> omega) (by simp <;> omega)
  have hF5 := hF4.tr' (hf5.mono (by simp [SPP]))
  refine v_aload_n hX 0 rfl (atL dAX3_setProof_0 24 rfl) ?_
  refine gf_X3_32 hX hk10 (atL dAX3_setProof_0 25 rfl) ?_
  refine v_iload_n hX 1 rfl (atL dAX3_setProof_0 26 rfl) ?_
  refine v_aload_n hX 0 rfl (atL dAX3_setProof_0 27 rfl) ?_
  refine gf_X3_29 hX hk10 (atL dAX3_setProof_0 28 rfl) ?_
  refine v_aload_n hX 0 rfl (atL dAX3_setProof_0 29 rfl) ?_
  refine gf_X3_26 hX hk10 (atL dAX3_setProof_0 30 rfl) ?_
  refine v_callV hX (As := [.int (iI (h)), .ref (w.1 1 33), .ref (w.1 1 32)]) (rest := []) (c_X1_addDigest (xl X) w s5 (hP 8 0 (by simp [mn, tp])) h hh 33 (hP 1 33 (by simp [mn, tp])) (hA5 33) 32 (hP 1 32 (by simp [mn, tp])) (hA5 32) (by rw [hr5.2, hl5]; show _ ≤ 32; omega)) lk_X3_46 (hP 8 0 (by simp [mn, tp])) (fun _ => rfl) rfl rfl rfl (by rw [hR]; exact ⟨Nat.le_of_ble_eq_true rfl, Nat.le_of_ble_eq_true rfl⟩) ⟨Nat.zero_le _, Nat.zero_le _⟩ rfl (Nat.le_of_ble_eq_true rfl) (atL dAX3_setProof_0 31 rfl) (fun _ s6 e6 => ?_)
  obtain ⟨hr6, hf6⟩ := e6
  rw [hr5.2, hr5_33.2] at hr6
  rw [List.nil_append] at hr6
  have hl6 : (sha h (List.replicate 8 0 ++ sha h Ma ++ Mb)).length = hl h := by exact sha_len
  have hA6 := hA5.one hr6 hf6 (by simp)
  have hr6_a := hr5_a.fr hf6 (by simp <;> omega) (by simp <;> omega)
  have hr6_b := hr5_b.fr hf6 (by simp <;> omega) (by simp <;> omega)
  have hr6_33 := hr5_33.fr hf6 (by simp <;> omega) (by simp <;> omega)
  have hF6 := hF5.tr' (hf6.mono (by simp [SPP]))
  show V X _ w _ _ s6 []
  exact v_vret hX (atL dAX3_setProof_0 32 rfl) (hret () _ ⟨hr6, hA6, hF6⟩)

set_option maxHeartbeats 1000000 in
set_option maxRecDepth 100000 in
theorem c_X3_fillIn (l : Launch) (w : Wl) (σ : St) (hk10 : w.2 10 0) (v25 : w.2 1 25) (hA : AR σ) (a : Nat) (hav : w.2 1 a) (ha2 : a < 24) (Ma : List Nat) (ha : RW σ a Ma) (b : Nat) (hbv : w.2 1 b) (hb2 : b < 24) (Mb : List Nat) (hb : RW σ b Mb) (hfit : Ma.length + Mb.length + 3 ≤ 256) : Cn l yX3_fillIn cX3_fillIn 4 none 3 66 wN [.ref (w.1 10 0), .ref (w.1 1 25), .ref (w.1 1 a), .ref (w.1 1 b)] w σ (fun _ σ' => RW σ' 25 (fillL Ma Mb) ∧ AR σ' ∧ Fr SP σ σ') := by
  refine Cn.of (own := RX3) (lv := [(0, .ref (w.1 10 0)), (1, .ref (w.1 1 25)), (2, .ref (w.1 1 a)), (3, .ref (w.1 1 b))]) (by decide +kernel) rfl (Nat.le_of_ble_eq_true rfl) rfl (fun X hX hxl hR hcl hret => ?_)
  subst hxl
  have hP : ∀ c q, (c, q) ∈ mn σ 10 0 → w.2 c q := fun c q h => hcl 10 0 hk10 (c, q) h
  obtain ⟨lMa, hlMa⟩ : ∃ q, Ma.length = q := ⟨_, rfl⟩
  have hqMa := ha.le
  rw [hlMa] at hqMa
  obtain ⟨lMb, hlMb⟩ : ∃ q, Mb.length = q := ⟨_, rfl⟩
  have hqMb := hb.le
  rw [hlMb] at hqMb
  rw [hlMa, hlMb] at hfit
  refine v_aload_n hX 1 rfl (atL dAX3_fillIn_0 0 rfl) ?_
  refine v_iconst hX (atL dAX3_fillIn_0 1 rfl) ?_
  refine pf_X3_42 hX v25 (atL dAX3_fillIn_0 2 rfl) ?_
  rw [sr_nil]
  obtain ⟨hr1, hf1⟩ := RW_of (s := sr σ 25 []) (hA 25) rfl (by simp) BY.nil
  generalize sr σ 25 [] = s1 at hr1 hf1 ⊢
  have hl1 : ([] : List Nat).length = 0 := rfl
  have hA1 := hA.one hr1 hf1 (by simp)
  have hr1_a := ha.fr hf1 (by simp <;> omega) (by simp <;> omega)
  have hr1_b := hb.fr hf1 (by simp <;> omega) (by simp <;> omega)
  have hF1 := (Fr.rf : Fr SP σ σ).tr' (hf1.mono (by simp [SP]))
  refine v_aload_n hX 1 rfl (atL dAX3_fillIn_0 3 rfl) ?_
  refine v_iconst hX (atL dAX3_fillIn_0 4 rfl) ?_
  refine v_callV hX (As := [.int (iI (0))]) (rest := []) (c_X4_add (xl X) w s1 25 v25 (hA1 25) 0 (by rw [hr1.2, hl1]; show _ < 256; omega)) lk_X3_54 v25 (fun _ => rfl) rfl rfl rfl (by rw [hR]; exact ⟨Nat.le_of_ble_eq_true rfl, Nat.le_of_ble_eq_true rfl⟩) ⟨Nat.zero_le _, Nat.zero_le _⟩ rfl (Nat.le_of_ble_eq_true rfl) (atL dAX3_fillIn_0 5 rfl) (fun _ s2 e2 => ?_)
  rw [hr1.2, show ((0 : Int) % 256).toNat = 0 from rfl] at e2
  rw [List.nil_append] at e2
  have hl2 : ([0]).length = 1 := by exact rfl
  obtain ⟨hr2, hf2⟩ := RW_of (M := [0]) (hA1 25) e2 (by rw [hl2]; show _ ≤ 256; omega) ((BY.one (by omega)))
  have hA2 := hA1.one hr2 hf2 (by simp)
  have hr2_a := hr1_a.fr hf2 (by simp <;> omega) (by simp <;> omega)
  have hr2_b := hr1_b.fr hf2 (by simp <;> omega) (by simp <;> omega)
  have hF2 := hF1.tr' (hf2.mono (by simp [SP]))
  show V X _ w _ _ s2 []
  refine v_aload_n hX 1 rfl (atL dAX3_fillIn_0 6 rfl) ?_
  refine v_iconst hX (atL dAX3_fillIn_0 7 rfl) ?_
  refine v_callV hX (As := [.int (iI (2))]) (rest := []) (c_X4_add (xl X) w s2 25 v25 (hA2 25) 2 (by rw [hr2.2, hl2]; show _ < 256; omega)) lk_X3_54 v25 (fun _ => rfl) rfl rfl rfl (by rw [hR]; exact ⟨Nat.le_of_ble_eq_true rfl, Nat.le_of_ble_eq_true rfl⟩) ⟨Nat.zero_le _, Nat.zero_le _⟩ rfl (Nat.le_of_ble_eq_true rfl) (atL dAX3_fillIn_0 8 rfl) (fun _ s3 e3 => ?_)
  rw [hr2.2, show ((2 : Int) % 256).toNat = 2 from rfl] at e3
  have hl3 : ([0] ++ [2]).length = 1 + 1 := by rw [List.length_append, hl2]; rfl
  obtain ⟨hr3, hf3⟩ := RW_of (M := [0] ++ [2]) (hA2 25) e3 (by rw [hl3]; show _ ≤ 256; omega) (hr2.by.app (BY.one (by omega)))
  have hA3 := hA2.one hr3 hf3 (by simp)
  have hr3_a := hr2_a.fr hf3 (by simp <;> omega) (by simp <;> omega)
  have hr3_b := hr2_b.fr hf3 (by simp <;> omega) (by simp <;> omega)
  have hF3 := hF2.tr' (hf3.mono (by simp [SP]))
  show V X _ w _ _ s3 []
  refine v_aload_n hX 1 rfl (atL dAX3_fillIn_0 9 rfl) ?_
  refine v_aload_n hX 3 rfl (atL dAX3_fillIn_0 10 rfl) ?_
  refine v_callV hX (As := [.ref (w.1 1 b)]) (rest := []) (c_X4_addRow (xl X) w s3 25 v25 (hA3 25) b hbv (hA3 b) (by omega) (by rw [hr3.2, hr3_b.2, hl3, hlMb]; show _ ≤ 256; omega)) lk_X3_57 v25 (fun _ => rfl) rfl rfl rfl (by rw [hR]; exact ⟨Nat.le_of_ble_eq_true rfl, Nat.le_of_ble_eq_true rfl⟩) ⟨Nat.zero_le _, Nat.zero_le _⟩ rfl (Nat.le_of_ble_eq_true rfl) (atL dAX3_fillIn_0 11 rfl) (fun _ s4 e4 => ?_)
  rw [hr3.2, hr3_b.2] at e4
  have hl4 : ([0] ++ [2] ++ Mb).length = 1 + 1 + lMb := by rw [List.length_append, hl3, hlMb]
  obtain ⟨hr4, hf4⟩ := RW_of (M := [0] ++ [2] ++ Mb) (hA3 25) e4 (by rw [hl4]; show _ ≤ 256; omega) (hr3.by.app hr3_b.by)
  have hA4 := hA3.one hr4 hf4 (by simp)
  have hr4_a := hr3_a.fr hf4 (by simp <;> omega) (by simp <;> omega)
  have hr4_b := hr3_b.fr hf4 (by simp <;> omega) (by simp <;> omega)
  have hF4 := hF3.tr' (hf4.mono (by simp [SP]))
  show V X _ w _ _ s4 []
  refine v_aload_n hX 1 rfl (atL dAX3_fillIn_0 12 rfl) ?_
  refine v_iconst hX (atL dAX3_fillIn_0 13 rfl) ?_
  refine v_callV hX (As := [.int (iI (0))]) (rest := []) (c_X4_add (xl X) w s4 25 v25 (hA4 25) 0 (by rw [hr4.2, hl4]; show _ < 256; omega)) lk_X3_54 v25 (fun _ => rfl) rfl rfl rfl (by rw [hR]; exact ⟨Nat.le_of_ble_eq_true rfl, Nat.le_of_ble_eq_true rfl⟩) ⟨Nat.zero_le _, Nat.zero_le _⟩ rfl (Nat.le_of_ble_eq_true rfl) (atL dAX3_fillIn_0 14 rfl) (fun _ s5 e5 => ?_)
  rw [hr4.2, show ((0 : Int) % 256).toNat = 0 from rfl] at e5
  have hl5 : ([0] ++ [2] ++ Mb ++ [0]).length = 1 + 1 + lMb + 1 := by rw [List.length_append, hl4]; rfl
  obtain ⟨hr5, hf5⟩ := RW_of (M := [0] ++ [2] ++ Mb ++ [0]) (hA4 25) e5 (by rw [hl5]; show _ ≤ 256; omega) (hr4.by.app (BY.one (by omega)))
  have hA5 := hA4.one hr5 hf5 (by simp)
  have hr5_a := hr4_a.fr hf5 (by simp <;> omega) (by simp <;> omega)
  have hr5_b := hr4_b.fr hf5 (by simp <;> omega) (by simp <;> omega)
  have hF5 := hF4.tr' (hf5.mono (by simp [SP]))
  show V X _ w _ _ s5 []
  refine v_aload_n hX 1 rfl (atL dAX3_fillIn_0 15 rfl) ?_
  refine v_aload_n hX 2 rfl (atL dAX3_fillIn_0 16 rfl) ?_
  refine v_callV hX (As := [.ref (w.1 1 a)]) (rest := []) (c_X4_addRow (xl X) w s5 25 v25 (hA5 25) a hav (hA5 a) (by omega) (by rw [hr5.2, hr5_a.2, hl5, hlMa]; show _ ≤ 256; omega)) lk_X3_57 v25 (fun _ => rfl) rfl rfl rfl (by rw [hR]; exact ⟨Nat.le_of_ble_eq_true rfl, Nat.le_of_ble_eq_true rfl⟩) ⟨Nat.zero_le _, Nat.zero_le _⟩ rfl (Nat.le_of_ble_eq_true rfl) (atL dAX3_fillIn_0 17 rfl) (fun _ s6 e6 => ?_)
  rw [hr5.2, hr5_a.2] at e6
  have hl6 : ([0] ++ [2] ++ Mb ++ [0] ++ Ma).length = 1 + 1 + lMb + 1 + lMa := by rw [List.length_append, hl5, hlMa]
  obtain ⟨hr6, hf6⟩ := RW_of (M := [0] ++ [2] ++ Mb ++ [0] ++ Ma) (hA5 25) e6 (by rw [hl6]; show _ ≤ 256; omega) (hr5.by.app hr5_a.by)
  have hA6 := hA5.one hr6 hf6 (by simp)
  have hr6_a := hr5_a.fr hf6 (by simp <;> omega) (by simp <;> omega)
  have hr6_b := hr5_b.fr hf6 (by simp <;> omega) (by simp <;> omega)
  have hF6 := hF5.tr' (hf6.mono (by simp [SP]))
  show V X _ w _ _ s6 []
  exact v_vret hX (atL dAX3_fillIn_0 18 rfl) (hret () _ ⟨hr6, hA6, hF6⟩)

set_option maxHeartbeats 1000000 in
set_option maxRecDepth 100000 in
theorem c_X3_hideIn (l : Launch) (w : Wl) (σ : St) (hk10 : w.2 10 0) (v25 : w.2 1 25) (hA : AR σ) (k : Nat) (hk : k ≤ 256) (h : Int) (hh : rI h) (a : Nat) (hav : w.2 1 a) (ha2 : a < 24) (Ma : List Nat) (ha : RW σ a Ma) (b : Nat) (hbv : w.2 1 b) (hb2 : b < 24) (Mb : List Nat) (hb : RW σ b Mb) (c : Nat) (hcv : w.2 1 c) (hc2 : c < 24) (Mc : List Nat) (hc : RW σ c Mc) (hfit : Ma.length + 2 * hl h + 2 ≤ k) (hsd : Mc.length = hl h) : Cn l yX3_hideIn cX3_hideIn 8 none 5 122 wN [.ref (w.1 10 0), .ref (w.1 1 25), .int (iI ((k : Int))), .int (iI (h)), .ref (w.1 1 a), .ref (w.1 1 b), .ref (w.1 1 c)] w σ (fun _ σ' => RW σ' 25 (hideL h k Ma Mb Mc) ∧ AR σ' ∧ Fr SP σ σ') := by
  refine Cn.of (own := RX3) (lv := [(0, .ref (w.1 10 0)), (1, .ref (w.1 1 25)), (2, .int (iI ((k : Int)))), (3, .int (iI (h))), (4, .ref (w.1 1 a)), (5, .ref (w.1 1 b)), (6, .ref (w.1 1 c))]) (by decide +kernel) rfl (Nat.le_of_ble_eq_true rfl) rfl (fun X hX hxl hR hcl hret => ?_)
  subst hxl
  have hP : ∀ c q, (c, q) ∈ mn σ 10 0 → w.2 c q := fun c q h => hcl 10 0 hk10 (c, q) h
  have hll := hl_le h
  have hlg := hl_ge h
  obtain ⟨lMa, hlMa⟩ : ∃ q, Ma.length = q := ⟨_, rfl⟩
  have hqMa := ha.le
  rw [hlMa] at hqMa
  obtain ⟨lMb, hlMb⟩ : ∃ q, Mb.length = q := ⟨_, rfl⟩
  have hqMb := hb.le
  rw [hlMb] at hqMb
  obtain ⟨lMc, hlMc⟩ : ∃ q, Mc.length = q := ⟨_, rfl⟩
  have hqMc := hc.le
  rw [hlMc] at hqMc
  rw [hlMa] at hfit
  rw [hlMc] at hsd
  refine v_iload_n hX 3 rfl (atL dAX3_hideIn_0 0 rfl) ?_
  refine v_callS hX (As := [.int (iI (h))]) (rest := []) (c_X1_lengthOf (xl X) w σ h hh) lk_X3_36 rfl (by rw [hR]; exact ⟨Nat.le_of_ble_eq_true rfl, Nat.le_of_ble_eq_true rfl⟩) ⟨Nat.zero_le _, Nat.zero_le _⟩ rfl (Nat.le_of_ble_eq_true rfl) (atL dAX3_hideIn_0 1 rfl) (fun r1 z1 g1 => ?_)
  obtain ⟨ga1, gb1⟩ := g1
  rw [gb1]
  subst ga1
  show V X _ w _ _ σ [.int (iI ((hl h : Int)))]
  refine v_istore hX (lv' := [(7, .int (iI ((hl h : Int)))), (0, .ref (w.1 10 0)), (1, .ref (w.1 1 25)), (2, .int (iI ((k : Int)))), (3, .int (iI (h))), (4, .ref (w.1 1 a)), (5, .ref (w.1 1 b)), (6, .ref (w.1 1 c))]) (Nat.le_of_ble_eq_true rfl) rfl (atL dAX3_hideIn_0 2 rfl) ?_
  refine v_aload_n hX 1 rfl (atL dAX3_hideIn_0 3 rfl) ?_
  refine gf_X3_14 hX hk10 (atL dAX3_hideIn_0 4 rfl) ?_
  refine v_iconst hX (atL dAX3_hideIn_0 5 rfl) ?_
  refine pf_X3_42 hX (hP 1 29 (by simp [mn, tp])) (atL dAX3_hideIn_0 6 rfl) ?_
  rw [sr_nil]
  obtain ⟨hr2, hf2⟩ := RW_of (s := sr σ 29 []) (hA 29) rfl (by simp) BY.nil
  generalize sr σ 29 [] = s2 at hr2 hf2 ⊢
  have hl2 : ([] : List Nat).length = 0 := rfl
  have hA2 := hA.one hr2 hf2 (by simp)
  have hr2_a := ha.fr hf2 (by simp <;> omega) (by simp <;> omega)
  have hr2_b := hb.fr hf2 (by simp <;> omega) (by simp <;> omega)
  have hr2_c := hc.fr hf2 (by simp <;> omega) (by simp <;> omega)
  have hF2 := (Fr.rf : Fr SP σ σ).tr' (hf2.mono (by simp [SP]))
  refine v_aload_n hX 1 rfl (atL dAX3_hideIn_0 7 rfl) ?_
  refine gf_X3_32 hX hk10 (atL dAX3_hideIn_0 8 rfl) ?_
  refine v_iload_n hX 4 rfl (atL dAX3_hideIn_0 9 rfl) ?_
  refine v_aload hX 6 rfl (atL dAX3_hideIn_0 10 rfl) ?_
  refine v_aload_n hX 1 rfl (atL dAX3_hideIn_0 11 rfl) ?_
  refine gf_X3_14 hX hk10 (atL dAX3_hideIn_0 12 rfl) ?_
  refine v_callV hX (As := [.int (iI (h)), .ref (w.1 1 b), .ref (w.1 1 29)]) (rest := []) (c_X1_addDigest (xl X) w s2 (hP 8 0 (by simp [mn, tp])) h hh b hbv (hA2 b) 29 (hP 1 29 (by simp [mn, tp])) (hA2 29) (by rw [hr2.2, hl2]; show _ ≤ 256; omega)) lk_X3_46 (hP 8 0 (by simp [mn, tp])) (fun _ => rfl) rfl rfl rfl (by rw [hR]; exact ⟨Nat.le_of_ble_eq_true rfl, Nat.le_of_ble_eq_true rfl⟩) ⟨Nat.zero_le _, Nat.zero_le _⟩ rfl (Nat.le_of_ble_eq_true rfl) (atL dAX3_hideIn_0 13 rfl) (fun _ s3 e3 => ?_)
  obtain ⟨hr3, hf3⟩ := e3
  rw [hr2.2, hr2_b.2] at hr3
  rw [List.nil_append] at hr3
  have hl3 : (sha h Mb).length = hl h := by exact sha_len
  have hA3 := hA2.one hr3 hf3 (by simp)
  have hr3_a := hr2_a.fr hf3 (by simp <;> omega) (by simp <;> omega)
  have hr3_b := hr2_b.fr hf3 (by simp <;> omega) (by simp <;> omega)
  have hr3_c := hr2_c.fr hf3 (by simp <;> omega) (by simp <;> omega)
  have hF3 := hF2.tr' (hf3.mono (by simp [SP]))
  show V X _ w _ _ s3 []
  refine v_aload_n hX 1 rfl (atL dAX3_hideIn_0 14 rfl) ?_
  refine gf_X3_14 hX hk10 (atL dAX3_hideIn_0 15 rfl) ?_
  refine v_iconst hX (atL dAX3_hideIn_0 16 rfl) ?_
  refine v_iload_n hX 3 rfl (atL dAX3_hideIn_0 17 rfl) ?_
  refine v_iconst hX (atL dAX3_hideIn_0 18 rfl) ?_
  refine v_iload hX 0 rfl (atL dAX3_hideIn_0 19 rfl) ?_
  refine v_imul hX (iI_mul _ _) (atL dAX3_hideIn_0 20 rfl) ?_
  refine v_isub hX (iI_sub _ _) (atL dAX3_hideIn_0 21 rfl) ?_
  refine v_iconst hX (atL dAX3_hideIn_0 22 rfl) ?_
  refine v_isub hX (iI_sub _ _) (atL dAX3_hideIn_0 23 rfl) ?_
  refine v_aload hX 5 rfl (atL dAX3_hideIn_0 24 rfl) ?_
  refine gf_X3_42 hX (v := ((lMa : Nat) : Int)) ((hr3_a.len.trans (by rw [hlMa]))) hav (atL dAX3_hideIn_0 25 rfl) ?_
  refine v_isub hX (iI_sub _ _) (atL dAX3_hideIn_0 26 rfl) ?_
  rw [show (((((k : Int)) - (2 * ((hl h : Int)))) - 2) - (((lMa : Nat) : Int))) = ((k - 2 * hl h - 2 - lMa : Nat) : Int) from (by omega)]
  refine v_callV hX (As := [.int (iI (0)), .int (iI (((k - 2 * hl h - 2 - lMa : Nat) : Int)))]) (rest := []) (c_X4_addTimes (xl X) w s3 29 (hP 1 29 (by simp [mn, tp])) (hA3 29) 0 (k - 2 * hl h - 2 - lMa) (by rw [hr3.2, hl3]; show _ ≤ 256; omega)) lk_X3_50 (hP 1 29 (by simp [mn, tp])) (fun _ => rfl) rfl rfl rfl (by rw [hR]; exact ⟨Nat.le_of_ble_eq_true rfl, Nat.le_of_ble_eq_true rfl⟩) ⟨Nat.zero_le _, Nat.zero_le _⟩ rfl (Nat.le_of_ble_eq_true rfl) (atL dAX3_hideIn_0 27 rfl) (fun _ s4 e4 => ?_)
  rw [hr3.2, show ((0 : Int) % 256).toNat = 0 from rfl] at e4
  have hl4 : (sha h Mb ++ List.replicate (k - 2 * hl h - 2 - lMa) 0).length = hl h + (k - 2 * hl h - 2 - lMa) := by rw [List.length_append, List.length_replicate, hl3]
  obtain ⟨hr4, hf4⟩ := RW_of (M := sha h Mb ++ List.replicate (k - 2 * hl h - 2 - lMa) 0) (hA3 29) e4 (by rw [hl4]; show _ ≤ 256; omega) (hr3.by.app (BY.rep (by omega)))
  have hA4 := hA3.one hr4 hf4 (by simp)
  have hr4_a := hr3_a.fr hf4 (by simp <;> omega) (by simp <;> omega)
  have hr4_b := hr3_b.fr hf4 (by simp <;> omega) (by simp <;> omega)
  have hr4_c := hr3_c.fr hf4 (by simp <;> omega) (by simp <;> omega)
  have hF4 := hF3.tr' (hf4.mono (by simp [SP]))
  show V X _ w _ _ s4 []
  refine v_aload_n hX 1 rfl (atL dAX3_hideIn_0 28 rfl) ?_
  refine gf_X3_14 hX hk10 (atL dAX3_hideIn_0 29 rfl) ?_
  refine v_iconst hX (atL dAX3_hideIn_0 30 rfl) ?_
  refine v_callV hX (As := [.int (iI (1))]) (rest := []) (c_X4_add (xl X) w s4 29 (hP 1 29 (by simp [mn, tp])) (hA4 29) 1 (by rw [hr4.2, hl4]; show _ < 256; omega)) lk_X3_54 (hP 1 29 (by simp [mn, tp])) (fun _ => rfl) rfl rfl rfl (by rw [hR]; exact ⟨Nat.le_of_ble_eq_true rfl, Nat.le_of_ble_eq_true rfl⟩) ⟨Nat.zero_le _, Nat.zero_le _⟩ rfl (Nat.le_of_ble_eq_true rfl) (atL dAX3_hideIn_0 31 rfl) (fun _ s5 e5 => ?_)
  rw [hr4.2, show ((1 : Int) % 256).toNat = 1 from rfl] at e5
  have hl5 : (sha h Mb ++ List.replicate (k - 2 * hl h - 2 - lMa) 0 ++ [1]).length = hl h + (k - 2 * hl h - 2 - lMa) + 1 := by rw [List.length_append, hl4]; rfl
  obtain ⟨hr5, hf5⟩ := RW_of (M := sha h Mb ++ List.replicate (k - 2 * hl h - 2 - lMa) 0 ++ [1]) (hA4 29) e5 (by rw [hl5]; show _ ≤ 256; omega) (hr4.by.app (BY.one (by omega)))
  have hA5 := hA4.one hr5 hf5 (by simp)
  have hr5_a := hr4_a.fr hf5 (by simp <;> omega) (by simp <;> omega)
  have hr5_b := hr4_b.fr hf5 (by simp <;> omega) (by simp <;> omega)
  have hr5_c := hr4_c.fr hf5 (by simp <;> omega) (by simp <;> omega)
  have hF5 := hF4.tr' (hf5.mono (by simp [SP]))
  show V X _ w _ _ s5 []
  refine v_aload_n hX 1 rfl (atL dAX3_hideIn_0 32 rfl) ?_
  refine gf_X3_14 hX hk10 (atL dAX3_hideIn_0 33 rfl) ?_
  refine v_aload hX 5 rfl (atL dAX3_hideIn_0 34 rfl) ?_
  refine v_callV hX (As := [.ref (w.1 1 a)]) (rest := []) (c_X4_addRow (xl X) w s5 29 (hP 1 29 (by simp [mn, tp])) (hA5 29) a hav (hA5 a) (by omega) (by rw [hr5.2, hr5_a.2, hl5, hlMa]; show _ ≤ 256; omega)) lk_X3_57 (hP 1 29 (by simp [mn, tp])) (fun _ => rfl) rfl rfl rfl (by rw [hR]; exact ⟨Nat.le_of_ble_eq_true rfl, Nat.le_of_ble_eq_true rfl⟩) ⟨Nat.zero_le _, Nat.zero_le _⟩ rfl (Nat.le_of_ble_eq_true rfl) (atL dAX3_hideIn_0 35 rfl) (fun _ s6 e6 => ?_)
  rw [hr5.2, hr5_a.2] at e6
  have hl6 : (sha h Mb ++ List.replicate (k - 2 * hl h - 2 - lMa) 0 ++ [1] ++ Ma).length = hl h + (k - 2 * hl h - 2 - lMa) + 1 + lMa := by rw [List.length_append, hl5, hlMa]
  obtain ⟨hr6, hf6⟩ := RW_of (M := sha h Mb ++ List.replicate (k - 2 * hl h - 2 - lMa) 0 ++ [1] ++ Ma) (hA5 29) e6 (by rw [hl6]; show _ ≤ 256; omega) (hr5.by.app hr5_a.by)
  have hA6 := hA5.one hr6 hf6 (by simp)
  have hr6_a := hr5_a.fr hf6 (by simp <;> omega) (by simp <;> omega)
  have hr6_b := hr5_b.fr hf6 (by simp <;> omega) (by simp <;> omega)
  have hr6_c := hr5_c.fr hf6 (by simp <;> omega) (by simp <;> omega)
  have hF6 := hF5.tr' (hf6.mono (by simp [SP]))
  show V X _ w _ _ s6 []
  refine v_aload_n hX 1 rfl (atL dAX3_hideIn_0 36 rfl) ?_
  refine gf_X3_32 hX hk10 (atL dAX3_hideIn_0 37 rfl) ?_
  refine v_iload_n hX 4 rfl (atL dAX3_hideIn_0 38 rfl) ?_
  refine v_aload hX 7 rfl (atL dAX3_hideIn_0 39 rfl) ?_
  refine v_aload_n hX 1 rfl (atL dAX3_hideIn_0 40 rfl) ?_
  refine gf_X3_14 hX hk10 (atL dAX3_hideIn_0 41 rfl) ?_
  refine gf_X3_42 hX (v := ((hl h + (k - 2 * hl h - 2 - lMa) + 1 + lMa : Nat) : Int)) ((hr6.len.trans (by rw [hl6]))) (hP 1 29 (by simp [mn, tp])) (atL dAX3_hideIn_0 42 rfl) ?_
  rw [show (((hl h + (k - 2 * hl h - 2 - lMa) + 1 + lMa : Nat) : Int)) = ((k - hl h - 1 : Nat) : Int) from (by omega)]
  refine v_aload_n hX 1 rfl (atL dAX3_hideIn_0 43 rfl) ?_
  refine gf_X3_20 hX hk10 (atL dAX3_hideIn_0 44 rfl) ?_
  refine v_callV hX (As := [.int (iI (h)), .ref (w.1 1 c), .int (iI (((k - hl h - 1 : Nat) : Int))), .ref (w.1 1 30)]) (rest := []) (c_X1_setMask (xl X) w s6 (hP 8 0 (by simp [mn, tp])) hA6 h hh c hcv (by rw [hr6_c.2, hlMc]; omega) (k - hl h - 1) 30 (hP 1 30 (by simp [mn, tp])) (by show _ ≤ 256; omega) (by omega) (by omega) (by omega) (by omega) (by omega)) lk_X3_61 (hP 8 0 (by simp [mn, tp])) (fun _ => rfl) rfl rfl rfl (by rw [hR]; exact ⟨Nat.le_of_ble_eq_true rfl, Nat.le_of_ble_eq_true rfl⟩) ⟨Nat.zero_le _, Nat.zero_le _⟩ rfl (Nat.le_of_ble_eq_true rfl) (atL dAX3_hideIn_0 45 rfl) (fun _ s7 e7 => ?_)
  obtain ⟨hr7, hB7, hf7⟩ := e7
  rw [hr6_c.2] at hr7
  have hl7 : (msk h Mc (k - hl h - 1)).length = k - hl h - 1 := by exact msk_len
  have hA7 := hB7
  have hr7_a := hr6_a.fr hf7 (by simp [SM] <;> omega) (by simp [SM] <;> omega)
  have hr7_b := hr6_b.fr hf7 (by simp [SM] <;> omega) (by simp [SM] <;> omega)
  have hr7_c := hr6_c.fr hf7 (by simp [SM] <;> omega) (by simp [SM] <;> omega)
  have hr7_29 := hr6.fr hf7 (by simp [SM] <;> omega) (by simp [SM] <;> omega)
  have hF7 := hF6.tr' (hf7.mono (by simp [SP, SM]))
  show V X _ w _ _ s7 []
  refine v_aload_n hX 1 rfl (atL dAX3_hideIn_0 46 rfl) ?_
  refine gf_X3_14 hX hk10 (atL dAX3_hideIn_0 47 rfl) ?_
  refine v_aload_n hX 1 rfl (atL dAX3_hideIn_0 48 rfl) ?_
  refine gf_X3_20 hX hk10 (atL dAX3_hideIn_0 49 rfl) ?_
  refine v_callV hX (As := [.ref (w.1 1 30)]) (rest := []) (c_X4_mixWith (xl X) w s7 29 (hP 1 29 (by simp [mn, tp])) (hA7 29) 30 (hP 1 30 (by simp [mn, tp])) (hA7 30) (by omega)) lk_X3_65 (hP 1 29 (by simp [mn, tp])) (fun _ => rfl) rfl rfl rfl (by rw [hR]; exact ⟨Nat.le_of_ble_eq_true rfl, Nat.le_of_ble_eq_true rfl⟩) ⟨Nat.zero_le _, Nat.zero_le _⟩ rfl (Nat.le_of_ble_eq_true rfl) (atL dAX3_hideIn_0 50 rfl) (fun _ s8 e8 => ?_)
  rw [hr7_29.2, hr7.2] at e8
  have hl8 : (mix (sha h Mb ++ List.replicate (k - 2 * hl h - 2 - lMa) 0 ++ [1] ++ Ma) (msk h Mc (k - hl h - 1))).length = hl h + (k - 2 * hl h - 2 - lMa) + 1 + lMa := by rw [mix_len, hl6]
  obtain ⟨hr8, hf8⟩ := RW_of (M := mix (sha h Mb ++ List.replicate (k - 2 * hl h - 2 - lMa) 0 ++ [1] ++ Ma) (msk h Mc (k - hl h - 1))) (hA7 29) e8 (by rw [hl8]; show _ ≤ 256; omega) (mix_by hr7_29.by hr7.by)
  have hA8 := hA7.one hr8 hf8 (by simp)
  have hr8_a := hr7_a.fr hf8 (by simp <;> omega) (by simp <;> omega)
  have hr8_b := hr7_b.fr hf8 (by simp <;> omega) (by simp <;> omega)
  have hr8_c := hr7_c.fr hf8 (by simp <;> omega) (by simp <;> omega)
  have hr8_30 := hr7.fr hf8 (by simp <;> omega) (by simp <;> omega)
  have hF8 := hF7.tr' (hf8.mono (by simp [SP]))
  show V X _ w _ _ s8 []
  refine v_aload_n hX 1 rfl (atL dAX3_hideIn_0 51 rfl) ?_
  refine gf_X3_32 hX hk10 (atL dAX3_hideIn_0 52 rfl) ?_
  refine v_iload_n hX 4 rfl (atL dAX3_hideIn_0 53 rfl) ?_
  refine v_aload_n hX 1 rfl (atL dAX3_hideIn_0 54 rfl) ?_
  refine gf_X3_14 hX hk10 (atL dAX3_hideIn_0 55 rfl) ?_
  refine v_iload hX 0 rfl (atL dAX3_hideIn_0 56 rfl) ?_
  refine v_aload_n hX 1 rfl (atL dAX3_hideIn_0 57 rfl) ?_
  refine gf_X3_20 hX hk10 (atL dAX3_hideIn_0 58 rfl) ?_
  refine v_callV hX (As := [.int (iI (h)), .ref (w.1 1 29), .int (iI ((hl h : Int))), .ref (w.1 1 30)]) (rest := []) (c_X1_setMask (xl X) w s8 (hP 8 0 (by simp [mn, tp])) hA8 h hh 29 (hP 1 29 (by simp [mn, tp])) (by rw [hr8.2, hl8]; omega) (hl h) 30 (hP 1 30 (by simp [mn, tp])) (by show _ ≤ 256; omega) (by omega) (by omega) (by omega) (by omega) (by omega)) lk_X3_61 (hP 8 0 (by simp [mn, tp])) (fun _ => rfl) rfl rfl rfl (by rw [hR]; exact ⟨Nat.le_of_ble_eq_true rfl, Nat.le_of_ble_eq_true rfl⟩) ⟨Nat.zero_le _, Nat.zero_le _⟩ rfl (Nat.le_of_ble_eq_true rfl) (atL dAX3_hideIn_0 59 rfl) (fun _ s9 e9 => ?_)
  obtain ⟨hr9, hB9, hf9⟩ := e9
  rw [hr8.2] at hr9
  have hl9 : (msk h (mix (sha h Mb ++ List.replicate (k - 2 * hl h - 2 - lMa) 0 ++ [1] ++ Ma) (msk h Mc (k - hl h - 1))) (hl h)).length = hl h := by exact msk_len
  have hA9 := hB9
  have hr9_a := hr8_a.fr hf9 (by simp [SM] <;> omega) (by simp [SM] <;> omega)
  have hr9_b := hr8_b.fr hf9 (by simp [SM] <;> omega) (by simp [SM] <;> omega)
  have hr9_c := hr8_c.fr hf9 (by simp [SM] <;> omega) (by simp [SM] <;> omega)
  have hr9_29 := hr8.fr hf9 (by simp [SM] <;> omega) (by simp [SM] <;> omega)
  have hF9 := hF8.tr' (hf9.mono (by simp [SP, SM]))
  show V X _ w _ _ s9 []
  refine v_aload_n hX 1 rfl (atL dAX3_hideIn_1 0 rfl) ?_
  refine gf_X3_20 hX hk10 (atL dAX3_hideIn_1 1 rfl) ?_
  refine v_aload hX 7 rfl (atL dAX3_hideIn_1 2 rfl) ?_
  refine v_callV hX (As := [.ref (w.1 1 c)]) (rest := []) (c_X4_mixWith (xl X) w s9 30 (hP 1 30 (by simp [mn, tp])) (hA9 30) c hcv (hA9 c) (by omega)) lk_X3_65 (hP 1 30 (by simp [mn, tp])) (fun _ => rfl) rfl rfl rfl (by rw [hR]; exact ⟨Nat.le_of_ble_eq_true rfl, Nat.le_of_ble_eq_true rfl⟩) ⟨Nat.zero_le _, Nat.zero_le _⟩ rfl (Nat.le_of_ble_eq_true rfl) (atL dAX3_hideIn_1 3 rfl) (fun _ s10 e10 => ?_)
  rw [hr9.2, hr9_c.2] at e10
  have hl10 : (mix (msk h (mix (sha h Mb ++ List.replicate (k - 2 * hl h - 2 - lMa) 0 ++ [1] ++ Ma) (msk h Mc (k - hl h - 1))) (hl h)) Mc).length = hl h := by rw [mix_len, hl9]
  obtain ⟨hr10, hf10⟩ := RW_of (M := mix (msk h (mix (sha h Mb ++ List.replicate (k - 2 * hl h - 2 - lMa) 0 ++ [1] ++ Ma) (msk h Mc (k - hl h - 1))) (hl h)) Mc) (hA9 30) e10 (by rw [hl10]; show _ ≤ 256; omega) (mix_by hr9.by hr9_c.by)
  have hA10 := hA9.one hr10 hf10 (by simp)
  have hr10_a := hr9_a.fr hf10 (by simp <;> omega) (by simp <;> omega)
  have hr10_b := hr9_b.fr hf10 (by simp <;> omega) (by simp <;> omega)
  have hr10_c := hr9_c.fr hf10 (by simp <;> omega) (by simp <;> omega)
  have hr10_29 := hr9_29.fr hf10 (by simp <;> omega) (by simp <;> omega)
  have hF10 := hF9.tr' (hf10.mono (by simp [SP]))
  show V X _ w _ _ s10 []
  refine v_aload_n hX 2 rfl (atL dAX3_hideIn_1 4 rfl) ?_
  refine v_iconst hX (atL dAX3_hideIn_1 5 rfl) ?_
  refine pf_X3_42 hX v25 (atL dAX3_hideIn_1 6 rfl) ?_
  rw [sr_nil]
  obtain ⟨hr11, hf11⟩ := RW_of (s := sr s10 25 []) (hA10 25) rfl (by simp) BY.nil
  generalize sr s10 25 [] = s11 at hr11 hf11 ⊢
  have hl11 : ([] : List Nat).length = 0 := rfl
  have hA11 := hA10.one hr11 hf11 (by simp)
  have hr11_a := hr10_a.fr hf11 (by simp <;> omega) (by simp <;> omega)
  have hr11_b := hr10_b.fr hf11 (by simp <;> omega) (by simp <;> omega)
  have hr11_c := hr10_c.fr hf11 (by simp <;> omega) (by simp <;> omega)
  have hr11_29 := hr10_29.fr hf11 (by simp <;> omega) (by simp <;> omega)
  have hr11_30 := hr10.fr hf11 (by simp <;> omega) (by simp <;> omega)
  have hF11 := hF10.tr' (hf11.mono (by simp [SP]))
  refine v_aload_n hX 2 rfl (atL dAX3_hideIn_1 7 rfl) ?_
  refine v_iconst hX (atL dAX3_hideIn_1 8 rfl) ?_
  refine v_callV hX (As := [.int (iI (0))]) (rest := []) (c_X4_add (xl X) w s11 25 v25 (hA11 25) 0 (by rw [hr11.2, hl11]; show _ < 256; omega)) lk_X3_54 v25 (fun _ => rfl) rfl rfl rfl (by rw [hR]; exact ⟨Nat.le_of_ble_eq_true rfl, Nat.le_of_ble_eq_true rfl⟩) ⟨Nat.zero_le _, Nat.zero_le _⟩ rfl (Nat.le_of_ble_eq_true rfl) (atL dAX3_hideIn_1 9 rfl) (fun _ s12 e12 => ?_)
  rw [hr11.2, show ((0 : Int) % 256).toNat = 0 from rfl] at e12
  rw [List.nil_append] at e12
  have hl12 : ([0]).length = 1 := by exact rfl
  obtain ⟨hr12, hf12⟩ := RW_of (M := [0]) (hA11 25) e12 (by rw [hl12]; show _ ≤ 256; omega) ((BY.one (by omega)))
  have hA12 := hA11.one hr12 hf12 (by simp)
  have hr12_a := hr11_a.fr hf12 (by simp <;> omega) (by simp <;> omega)
  have hr12_b := hr11_b.fr hf12 (by simp <;> omega) (by simp <;> omega)
  have hr12_c := hr11_c.fr hf12 (by simp <;> omega) (by simp <;> omega)
  have hr12_29 := hr11_29.fr hf12 (by simp <;> omega) (by simp <;> omega)
  have hr12_30 := hr11_30.fr hf12 (by simp <;> omega) (by simp <;> omega)
  have hF12 := hF11.tr' (hf12.mono (by simp [SP]))
  show V X _ w _ _ s12 []
  refine v_aload_n hX 2 rfl (atL dAX3_hideIn_1 10 rfl) ?_
  refine v_aload_n hX 1 rfl (atL dAX3_hideIn_1 11 rfl) ?_
  refine gf_X3_20 hX hk10 (atL dAX3_hideIn_1 12 rfl) ?_
  refine v_callV hX (As := [.ref (w.1 1 30)]) (rest := []) (c_X4_addRow (xl X) w s12 25 v25 (hA12 25) 30 (hP 1 30 (by simp [mn, tp])) (hA12 30) (by omega) (by rw [hr12.2, hr12_30.2, hl12, hl10]; show _ ≤ 256; omega)) lk_X3_57 v25 (fun _ => rfl) rfl rfl rfl (by rw [hR]; exact ⟨Nat.le_of_ble_eq_true rfl, Nat.le_of_ble_eq_true rfl⟩) ⟨Nat.zero_le _, Nat.zero_le _⟩ rfl (Nat.le_of_ble_eq_true rfl) (atL dAX3_hideIn_1 13 rfl) (fun _ s13 e13 => ?_)
  rw [hr12.2, hr12_30.2] at e13
  have hl13 : ([0] ++ (mix (msk h (mix (sha h Mb ++ List.replicate (k - 2 * hl h - 2 - lMa) 0 ++ [1] ++ Ma) (msk h Mc (k - hl h - 1))) (hl h)) Mc)).length = 1 + (hl h) := by rw [List.length_append, hl12, hl10]
  obtain ⟨hr13, hf13⟩ := RW_of (M := [0] ++ (mix (msk h (mix (sha h Mb ++ List.replicate (k - 2 * hl h - 2 - lMa) 0 ++ [1] ++ Ma) (msk h Mc (k - hl h - 1))) (hl h)) Mc)) (hA12 25) e13 (by rw [hl13]; show _ ≤ 256; omega) (hr12.by.app hr12_30.by)
  have hA13 := hA12.one hr13 hf13 (by simp)
  have hr13_a := hr12_a.fr hf13 (by simp <;> omega) (by simp <;> omega)
  have hr13_b := hr12_b.fr hf13 (by simp <;> omega) (by simp <;> omega)
  have hr13_c := hr12_c.fr hf13 (by simp <;> omega) (by simp <;> omega)
  have hr13_29 := hr12_29.fr hf13 (by simp <;> omega) (by simp <;> omega)
  have hr13_30 := hr12_30.fr hf13 (by simp <;> omega) (by simp <;> omega)
  have hF13 := hF12.tr' (hf13.mono (by simp [SP]))
  show V X _ w _ _ s13 []
  refine v_aload_n hX 2 rfl (atL dAX3_hideIn_1 14 rfl) ?_
  refine v_aload_n hX 1 rfl (atL dAX3_hideIn_1 15 rfl) ?_
  refine gf_X3_14 hX hk10 (atL dAX3_hideIn_1 16 rfl) ?_
  refine v_callV hX (As := [.ref (w.1 1 29)]) (rest := []) (c_X4_addRow (xl X) w s13 25 v25 (hA13 25) 29 (hP 1 29 (by simp [mn, tp])) (hA13 29) (by omega) (by rw [hr13.2, hr13_29.2, hl13, hl8]; show _ ≤ 256; omega)) lk_X3_57 v25 (fun _ => rfl) rfl rfl rfl (by rw [hR]; exact ⟨Nat.le_of_ble_eq_true rfl, Nat.le_of_ble_eq_true rfl⟩) ⟨Nat.zero_le _, Nat.zero_le _⟩ rfl (Nat.le_of_ble_eq_true rfl) (atL dAX3_hideIn_1 17 rfl) (fun _ s14 e14 => ?_)
  rw [hr13.2, hr13_29.2] at e14
  have hl14 : ([0] ++ (mix (msk h (mix (sha h Mb ++ List.replicate (k - 2 * hl h - 2 - lMa) 0 ++ [1] ++ Ma) (msk h Mc (k - hl h - 1))) (hl h)) Mc) ++ (mix (sha h Mb ++ List.replicate (k - 2 * hl h - 2 - lMa) 0 ++ [1] ++ Ma) (msk h Mc (k - hl h - 1)))).length = 1 + (hl h) + (hl h + (k - 2 * hl h - 2 - lMa) + 1 + lMa) := by rw [List.length_append, hl13, hl8]
  obtain ⟨hr14, hf14⟩ := RW_of (M := [0] ++ (mix (msk h (mix (sha h Mb ++ List.replicate (k - 2 * hl h - 2 - lMa) 0 ++ [1] ++ Ma) (msk h Mc (k - hl h - 1))) (hl h)) Mc) ++ (mix (sha h Mb ++ List.replicate (k - 2 * hl h - 2 - lMa) 0 ++ [1] ++ Ma) (msk h Mc (k - hl h - 1)))) (hA13 25) e14 (by rw [hl14]; show _ ≤ 256; omega) (hr13.by.app hr13_29.by)
  have hA14 := hA13.one hr14 hf14 (by simp)
  have hr14_a := hr13_a.fr hf14 (by simp <;> omega) (by simp <;> omega)
  have hr14_b := hr13_b.fr hf14 (by simp <;> omega) (by simp <;> omega)
  have hr14_c := hr13_c.fr hf14 (by simp <;> omega) (by simp <;> omega)
  have hr14_29 := hr13_29.fr hf14 (by simp <;> omega) (by simp <;> omega)
  have hr14_30 := hr13_30.fr hf14 (by simp <;> omega) (by simp <;> omega)
  have hF14 := hF13.tr' (hf14.mono (by simp [SP]))
  show V X _ w _ _ s14 []
  subst hlMa
  exact v_vret hX (atL dAX3_hideIn_1 18 rfl) (hret () _ ⟨hr14, hA14, hF14⟩)
