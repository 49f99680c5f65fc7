theorem dAX1_init_0 : ([(0, .aload_n 0, 1, 1), (1, .invokespecial 3, 3, 4), (4, .aload_n 0, 1, 5), (5, .bipush 64, 2, 7), (7, .newarray .int, 2, 9), (9, .putfield 11, 3, 12), (12, .aload_n 0, 1, 13), (13, .bipush 8, 2, 15), (15, .newarray .int, 2, 17), (17, .putfield 15, 3, 20), (20, .aload_n 0, 1, 21), (21, .bipush 8, 2, 23), (23, .newarray .int, 2, 25), (25, .putfield 18, 3, 28), (28, .aload_n 0, 1, 29), (29, .new 21, 3, 32), (32, .dup, 1, 33), (33, .sipush 260, 3, 36), (36, .invokespecial 23, 3, 39), (39, .putfield 26, 3, 42), (42, .aload_n 0, 1, 43), (43, .new 21, 3, 46), (46, .dup, 1, 47), (47, .bipush 32, 2, 49), (49, .invokespecial 23, 3, 52), (52, .putfield 30, 3, 55), (55, .return_, 1, 56)] : List (Nat × Instr × Nat × Nat)).all (fun q => decide (decode cX1_init q.1 = .ok (q.2.1, q.2.2.1)) && q.2.2.2 == q.1 + q.2.2.1) = true := by decide +kernel
theorem dAX1_lengthOf_0 : ([(0, .iload_n 0, 1, 1), (1, .ifCond .ne 8, 3, 4), (4, .bipush 32, 2, 6), (6, .goto 5, 3, 9), (9, .bipush 28, 2, 11), (11, .ireturn, 1, 12)] : List (Nat × Instr × Nat × Nat)).all (fun q => decide (decode cX1_lengthOf q.1 = .ok (q.2.1, q.2.2.1)) && q.2.2.2 == q.1 + q.2.2.1) = true := by decide +kernel
theorem dAX1_addDigest_0 : ([(0, .aload_n 2, 1, 1), (1, .getfield 33, 3, 4), (4, .bipush 8, 2, 6), (6, .iadd, 1, 7), (7, .bipush 64, 2, 9), (9, .idiv, 1, 10), (10, .iconst 1, 1, 11), (11, .iadd, 1, 12), (12, .istore 4, 2, 14), (14, .iconst 0, 1, 15), (15, .istore 5, 2, 17), (17, .iload 5, 2, 19), (19, .bipush 8, 2, 21), (21, .if_icmp .ge 35, 3, 24), (24, .aload_n 0, 1, 25), (25, .getfield 15, 3, 28), (28, .iload 5, 2, 30), (30, .iload_n 1, 1, 31), (31, .ifCond .ne 12, 3, 34), (34, .getstatic 37, 3, 37), (37, .iload 5, 2, 39), (39, .iaload, 1, 40), (40, .goto 9, 3, 43), (43, .getstatic 40, 3, 46), (46, .iload 5, 2, 48), (48, .iaload, 1, 49), (49, .iastore, 1, 50), (50, .iinc 5 1, 3, 53), (53, .goto (-36), 3, 56), (56, .iconst 0, 1, 57), (57, .istore 5, 2, 59), (59, .iload 5, 2, 61), (61, .iload 4, 2, 63), (63, .if_icmp .ge 37, 3, 66), (66, .aload_n 0, 1, 67), (67, .aload_n 2, 1, 68), (68, .iload 5, 2, 70), (70, .bipush 64, 2, 72), (72, .imul, 1, 73), (73, .iload 5, 2, 75), (75, .iload 4, 2, 77), (77, .iconst 1, 1, 78), (78, .isub, 1, 79), (79, .if_icmp .ne 7, 3, 82), (82, .iconst 1, 1, 83), (83, .goto 4, 3, 86), (86, .iconst 0, 1, 87), (87, .invokevirtual 43, 3, 90), (90, .aload_n 0, 1, 91), (91, .invokevirtual 47, 3, 94), (94, .iinc 5 1, 3, 97), (97, .goto (-38), 3, 100), (100, .iconst 0, 1, 101), (101, .istore 5, 2, 103), (103, .iload 5, 2, 105), (105, .iload_n 1, 1, 106), (106, .invokestatic 50, 3, 109), (109, .if_icmp .ge 33, 3, 112), (112, .aload_n 3, 1, 113), (113, .aload_n 0, 1, 114)] : List (Nat × Instr × Nat × Nat)).all (fun q => decide (decode cX1_addDigest q.1 = .ok (q.2.1, q.2.2.1)) && q.2.2.2 == q.1 + q.2.2.1) = true := by decide +kernel
theorem dAX1_addDigest_1 : ([(114, .getfield 15, 3, 117), (117, .iload 5, 2, 119), (119, .iconst 4, 1, 120), (120, .idiv, 1, 121), (121, .iaload, 1, 122), (122, .bipush 24, 2, 124), (124, .iload 5, 2, 126), (126, .iconst 4, 1, 127), (127, .irem, 1, 128), (128, .bipush 8, 2, 130), (130, .imul, 1, 131), (131, .isub, 1, 132), (132, .ishr, 1, 133), (133, .invokevirtual 54, 3, 136), (136, .iinc 5 1, 3, 139), (139, .goto (-36), 3, 142), (142, .return_, 1, 143)] : List (Nat × Instr × Nat × Nat)).all (fun q => decide (decode cX1_addDigest q.1 = .ok (q.2.1, q.2.2.1)) && q.2.2.2 == q.1 + q.2.2.1) = true := by decide +kernel
theorem dAX1_setMask_0 : ([(0, .iload_n 1, 1, 1), (1, .invokestatic 50, 3, 4), (4, .istore 5, 2, 6), (6, .iconst 0, 1, 7), (7, .istore 6, 2, 9), (9, .aload 4, 2, 11), (11, .iconst 0, 1, 12), (12, .putfield 33, 3, 15), (15, .iconst 0, 1, 16), (16, .istore 7, 2, 18), (18, .iload 7, 2, 20), (20, .iload_n 3, 1, 21), (21, .if_icmp .ge 82, 3, 24), (24, .aload_n 0, 1, 25), (25, .getfield 26, 3, 28), (28, .aload_n 2, 1, 29), (29, .invokevirtual 57, 3, 32), (32, .aload_n 0, 1, 33), (33, .getfield 26, 3, 36), (36, .iload 6, 2, 38), (38, .invokevirtual 61, 3, 41), (41, .iinc 6 1, 3, 44), (44, .aload_n 0, 1, 45), (45, .getfield 30, 3, 48), (48, .iconst 0, 1, 49), (49, .putfield 33, 3, 52), (52, .aload_n 0, 1, 53), (53, .iload_n 1, 1, 54), (54, .aload_n 0, 1, 55), (55, .getfield 26, 3, 58), (58, .aload_n 0, 1, 59), (59, .getfield 30, 3, 62), (62, .invokevirtual 64, 3, 65), (65, .aload 4, 2, 67), (67, .aload_n 0, 1, 68), (68, .getfield 30, 3, 71), (71, .iconst 0, 1, 72), (72, .iload_n 3, 1, 73), (73, .iload 7, 2, 75), (75, .isub, 1, 76), (76, .iload 5, 2, 78), (78, .if_icmp .ge 10, 3, 81), (81, .iload_n 3, 1, 82), (82, .iload 7, 2, 84), (84, .isub, 1, 85), (85, .goto 5, 3, 88), (88, .iload 5, 2, 90), (90, .invokevirtual 68, 3, 93), (93, .iload 7, 2, 95), (95, .iload 5, 2, 97), (97, .iadd, 1, 98), (98, .istore 7, 2, 100), (100, .goto (-82), 3, 103), (103, .return_, 1, 104)] : List (Nat × Instr × Nat × Nat)).all (fun q => decide (decode cX1_setMask q.1 = .ok (q.2.1, q.2.2.1)) && q.2.2.2 == q.1 + q.2.2.1) = true := by decide +kernel
theorem dAX1_spreadBlock_0 : ([(0, .iconst 0, 1, 1), (1, .istore 4, 2, 3), (3, .iload 4, 2, 5), (5, .bipush 16, 2, 7), (7, .if_icmp .ge 66, 3, 10), (10, .iload_n 2, 1, 11), (11, .iconst 4, 1, 12), (12, .iload 4, 2, 14), (14, .imul, 1, 15), (15, .iadd, 1, 16), (16, .istore 5, 2, 18), (18, .aload_n 0, 1, 19), (19, .getfield 11, 3, 22), (22, .iload 4, 2, 24), (24, .aload_n 1, 1, 25), (25, .iload 5, 2, 27), (27, .invokestatic 72, 3, 30), (30, .bipush 24, 2, 32), (32, .ishl, 1, 33), (33, .aload_n 1, 1, 34), (34, .iload 5, 2, 36), (36, .iconst 1, 1, 37), (37, .iadd, 1, 38), (38, .invokestatic 72, 3, 41), (41, .bipush 16, 2, 43), (43, .ishl, 1, 44), (44, .ior, 1, 45), (45, .aload_n 1, 1, 46), (46, .iload 5, 2, 48), (48, .iconst 2, 1, 49), (49, .iadd, 1, 50), (50, .invokestatic 72, 3, 53), (53, .bipush 8, 2, 55), (55, .ishl, 1, 56), (56, .ior, 1, 57), (57, .aload_n 1, 1, 58), (58, .iload 5, 2, 60), (60, .iconst 3, 1, 61), (61, .iadd, 1, 62), (62, .invokestatic 72, 3, 65), (65, .ior, 1, 66), (66, .iastore, 1, 67), (67, .iinc 4 1, 3, 70), (70, .goto (-67), 3, 73), (73, .iload_n 3, 1, 74), (74, .ifCond .eq 17, 3, 77), (77, .aload_n 0, 1, 78), (78, .getfield 11, 3, 81), (81, .bipush 15, 2, 83), (83, .aload_n 1, 1, 84), (84, .getfield 33, 3, 87), (87, .bipush 8, 2, 89), (89, .imul, 1, 90), (90, .iastore, 1, 91), (91, .bipush 16, 2, 93), (93, .istore 4, 2, 95), (95, .iload 4, 2, 97), (97, .bipush 64, 2, 99), (99, .if_icmp .ge 111, 3, 102), (102, .aload_n 0, 1, 103)] : List (Nat × Instr × Nat × Nat)).all (fun q => decide (decode cX1_spreadBlock q.1 = .ok (q.2.1, q.2.2.1)) && q.2.2.2 == q.1 + q.2.2.1) = true := by decide +kernel
theorem dAX1_spreadBlock_1 : ([(103, .getfield 11, 3, 106), (106, .iload 4, 2, 108), (108, .iconst 2, 1, 109), (109, .isub, 1, 110), (110, .iaload, 1, 111), (111, .istore 5, 2, 113), (113, .aload_n 0, 1, 114), (114, .getfield 11, 3, 117), (117, .iload 4, 2, 119), (119, .bipush 15, 2, 121), (121, .isub, 1, 122), (122, .iaload, 1, 123), (123, .istore 6, 2, 125), (125, .iload 5, 2, 127), (127, .bipush 17, 2, 129), (129, .invokestatic 76, 3, 132), (132, .iload 5, 2, 134), (134, .bipush 19, 2, 136), (136, .invokestatic 76, 3, 139), (139, .ixor, 1, 140), (140, .iload 5, 2, 142), (142, .bipush 10, 2, 144), (144, .iushr, 1, 145), (145, .ixor, 1, 146), (146, .istore 7, 2, 148), (148, .iload 6, 2, 150), (150, .bipush 7, 2, 152), (152, .invokestatic 76, 3, 155), (155, .iload 6, 2, 157), (157, .bipush 18, 2, 159), (159, .invokestatic 76, 3, 162), (162, .ixor, 1, 163), (163, .iload 6, 2, 165), (165, .iconst 3, 1, 166), (166, .iushr, 1, 167), (167, .ixor, 1, 168), (168, .istore 8, 2, 170), (170, .aload_n 0, 1, 171), (171, .getfield 11, 3, 174), (174, .iload 4, 2, 176), (176, .iload 7, 2, 178), (178, .aload_n 0, 1, 179), (179, .getfield 11, 3, 182), (182, .iload 4, 2, 184), (184, .bipush 7, 2, 186), (186, .isub, 1, 187), (187, .iaload, 1, 188), (188, .iadd, 1, 189), (189, .iload 8, 2, 191), (191, .iadd, 1, 192), (192, .aload_n 0, 1, 193), (193, .getfield 11, 3, 196), (196, .iload 4, 2, 198), (198, .bipush 16, 2, 200), (200, .isub, 1, 201), (201, .iaload, 1, 202), (202, .iadd, 1, 203), (203, .iastore, 1, 204), (204, .iinc 4 1, 3, 207), (207, .goto (-112), 3, 210)] : List (Nat × Instr × Nat × Nat)).all (fun q => decide (decode cX1_spreadBlock q.1 = .ok (q.2.1, q.2.2.1)) && q.2.2.2 == q.1 + q.2.2.1) = true := by decide +kernel
theorem dAX1_spreadBlock_2 : ([(210, .return_, 1, 211)] : List (Nat × Instr × Nat × Nat)).all (fun q => decide (decode cX1_spreadBlock q.1 = .ok (q.2.1, q.2.2.1)) && q.2.2.2 == q.1 + q.2.2.1) = true := by decide +kernel
theorem dAX1_padded_0 : ([(0, .iload_n 1, 1, 1), (1, .aload_n 0, 1, 2), (2, .getfield 33, 3, 5), (5, .if_icmp .ne 9, 3, 8), (8, .sipush 128, 3, 11), (11, .goto 8, 3, 14), (14, .aload_n 0, 1, 15), (15, .iload_n 1, 1, 16), (16, .invokevirtual 80, 3, 19), (19, .ireturn, 1, 20)] : List (Nat × Instr × Nat × Nat)).all (fun q => decide (decode cX1_padded q.1 = .ok (q.2.1, q.2.2.1)) && q.2.2.2 == q.1 + q.2.2.1) = true := by decide +kernel
theorem dAX1_turned_0 : ([(0, .iload_n 0, 1, 1), (1, .iload_n 1, 1, 2), (2, .iushr, 1, 3), (3, .iload_n 0, 1, 4), (4, .bipush 32, 2, 6), (6, .iload_n 1, 1, 7), (7, .isub, 1, 8), (8, .ishl, 1, 9), (9, .ior, 1, 10), (10, .ireturn, 1, 11)] : List (Nat × Instr × Nat × Nat)).all (fun q => decide (decode cX1_turned q.1 = .ok (q.2.1, q.2.2.1)) && q.2.2.2 == q.1 + q.2.2.1) = true := by decide +kernel
theorem dAX1_mixBlock_0 : ([(0, .iconst 0, 1, 1), (1, .istore_n 1, 1, 2), (2, .iload_n 1, 1, 3), (3, .bipush 8, 2, 5), (5, .if_icmp .ge 21, 3, 8), (8, .aload_n 0, 1, 9), (9, .getfield 18, 3, 12), (12, .iload_n 1, 1, 13), (13, .aload_n 0, 1, 14), (14, .getfield 15, 3, 17), (17, .iload_n 1, 1, 18), (18, .iaload, 1, 19), (19, .iastore, 1, 20), (20, .iinc 1 1, 3, 23), (23, .goto (-21), 3, 26), (26, .iconst 0, 1, 27), (27, .istore_n 1, 1, 28), (28, .iload_n 1, 1, 29), (29, .bipush 64, 2, 31), (31, .if_icmp .ge 25, 3, 34), (34, .aload_n 0, 1, 35), (35, .getstatic 83, 3, 38), (38, .iload_n 1, 1, 39), (39, .iaload, 1, 40), (40, .aload_n 0, 1, 41), (41, .getfield 11, 3, 44), (44, .iload_n 1, 1, 45), (45, .iaload, 1, 46), (46, .iadd, 1, 47), (47, .invokevirtual 86, 3, 50), (50, .iinc 1 1, 3, 53), (53, .goto (-25), 3, 56), (56, .iconst 0, 1, 57), (57, .istore_n 1, 1, 58), (58, .iload_n 1, 1, 59), (59, .bipush 8, 2, 61), (61, .if_icmp .ge 24, 3, 64), (64, .aload_n 0, 1, 65), (65, .getfield 15, 3, 68), (68, .iload_n 1, 1, 69), (69, .dup2, 1, 70), (70, .iaload, 1, 71), (71, .aload_n 0, 1, 72), (72, .getfield 18, 3, 75), (75, .iload_n 1, 1, 76), (76, .iaload, 1, 77), (77, .iadd, 1, 78), (78, .iastore, 1, 79), (79, .iinc 1 1, 3, 82), (82, .goto (-24), 3, 85), (85, .return_, 1, 86)] : List (Nat × Instr × Nat × Nat)).all (fun q => decide (decode cX1_mixBlock q.1 = .ok (q.2.1, q.2.2.1)) && q.2.2.2 == q.1 + q.2.2.1) = true := by decide +kernel
theorem dAX1_mixWord_0 : ([(0, .aload_n 0, 1, 1), (1, .getfield 18, 3, 4), (4, .iconst 0, 1, 5), (5, .iaload, 1, 6), (6, .istore_n 2, 1, 7), (7, .aload_n 0, 1, 8), (8, .getfield 18, 3, 11), (11, .iconst 4, 1, 12), (12, .iaload, 1, 13), (13, .istore_n 3, 1, 14), (14, .iload_n 3, 1, 15), (15, .aload_n 0, 1, 16), (16, .getfield 18, 3, 19), (19, .iconst 5, 1, 20), (20, .iaload, 1, 21), (21, .iand, 1, 22), (22, .iload_n 3, 1, 23), (23, .iconst (-1), 1, 24), (24, .ixor, 1, 25), (25, .aload_n 0, 1, 26), (26, .getfield 18, 3, 29), (29, .bipush 6, 2, 31), (31, .iaload, 1, 32), (32, .iand, 1, 33), (33, .ixor, 1, 34), (34, .istore 4, 2, 36), (36, .iload_n 2, 1, 37), (37, .aload_n 0, 1, 38), (38, .getfield 18, 3, 41), (41, .iconst 1, 1, 42), (42, .iaload, 1, 43), (43, .iand, 1, 44), (44, .iload_n 2, 1, 45), (45, .aload_n 0, 1, 46), (46, .getfield 18, 3, 49), (49, .iconst 2, 1, 50), (50, .iaload, 1, 51), (51, .iand, 1, 52), (52, .ixor, 1, 53), (53, .aload_n 0, 1, 54), (54, .getfield 18, 3, 57), (57, .iconst 1, 1, 58), (58, .iaload, 1, 59), (59, .aload_n 0, 1, 60), (60, .getfield 18, 3, 63), (63, .iconst 2, 1, 64), (64, .iaload, 1, 65), (65, .iand, 1, 66), (66, .ixor, 1, 67), (67, .istore 5, 2, 69), (69, .aload_n 0, 1, 70), (70, .getfield 18, 3, 73), (73, .bipush 7, 2, 75), (75, .iaload, 1, 76), (76, .iload_n 3, 1, 77), (77, .bipush 6, 2, 79), (79, .invokestatic 76, 3, 82), (82, .iload_n 3, 1, 83), (83, .bipush 11, 2, 85), (85, .invokestatic 76, 3, 88)] : List (Nat × Instr × Nat × Nat)).all (fun q => decide (decode cX1_mixWord q.1 = .ok (q.2.1, q.2.2.1)) && q.2.2.2 == q.1 + q.2.2.1) = true := by decide +kernel
theorem dAX1_mixWord_1 : ([(88, .ixor, 1, 89), (89, .iload_n 3, 1, 90), (90, .bipush 25, 2, 92), (92, .invokestatic 76, 3, 95), (95, .ixor, 1, 96), (96, .iadd, 1, 97), (97, .iload 4, 2, 99), (99, .iadd, 1, 100), (100, .iload_n 1, 1, 101), (101, .iadd, 1, 102), (102, .istore 6, 2, 104), (104, .iload_n 2, 1, 105), (105, .iconst 2, 1, 106), (106, .invokestatic 76, 3, 109), (109, .iload_n 2, 1, 110), (110, .bipush 13, 2, 112), (112, .invokestatic 76, 3, 115), (115, .ixor, 1, 116), (116, .iload_n 2, 1, 117), (117, .bipush 22, 2, 119), (119, .invokestatic 76, 3, 122), (122, .ixor, 1, 123), (123, .iload 5, 2, 125), (125, .iadd, 1, 126), (126, .istore 7, 2, 128), (128, .bipush 7, 2, 130), (130, .istore 8, 2, 132), (132, .iload 8, 2, 134), (134, .ifCond .le 25, 3, 137), (137, .aload_n 0, 1, 138), (138, .getfield 18, 3, 141), (141, .iload 8, 2, 143), (143, .aload_n 0, 1, 144), (144, .getfield 18, 3, 147), (147, .iload 8, 2, 149), (149, .iconst 1, 1, 150), (150, .isub, 1, 151), (151, .iaload, 1, 152), (152, .iastore, 1, 153), (153, .iinc 8 (-1), 3, 156), (156, .goto (-24), 3, 159), (159, .aload_n 0, 1, 160), (160, .getfield 18, 3, 163), (163, .iconst 4, 1, 164), (164, .dup2, 1, 165), (165, .iaload, 1, 166), (166, .iload 6, 2, 168), (168, .iadd, 1, 169), (169, .iastore, 1, 170), (170, .aload_n 0, 1, 171), (171, .getfield 18, 3, 174), (174, .iconst 0, 1, 175), (175, .iload 6, 2, 177), (177, .iload 7, 2, 179), (179, .iadd, 1, 180), (180, .iastore, 1, 181), (181, .return_, 1, 182)] : List (Nat × Instr × Nat × Nat)).all (fun q => decide (decode cX1_mixWord q.1 = .ok (q.2.1, q.2.2.1)) && q.2.2.2 == q.1 + q.2.2.1) = true := by decide +kernel
set_option maxHeartbeats 1000000 in
set_option maxRecDepth 100000 in
theorem c_X1_lengthOf (l : Launch) (w : Wl) (σ : St) (h : Int) (hh : rI h) : Cn l yX1_lengthOf cX1_lengthOf 1 (Option.some Jvm.ClassFile.FieldType.int) 0 0 wI [.int (iI (h))] w σ (fun a σ' => a = (hl h : Int) ∧ σ' = σ) := by
  refine Cn.of (own := RX1) (lv := [(0, .int (iI (h)))]) (by decide +kernel) rfl (Nat.le_of_ble_eq_true rfl) rfl (fun X hX hxl hR hcl hret => ?_)
  subst hxl
  refine v_iload_n hX 0 rfl (atL dAX1_lengthOf_0 0 rfl) ?_
  refine v_if_ne hX hh (tgt := 9) (atL dAX1_lengthOf_0 1 rfl) (by decide) (fun h1 => ?_) (fun h1 => ?_)
  · refine v_bipush hX (by decide +kernel) (atL dAX1_lengthOf_0 4 rfl) ?_
    exact v_iret hX (atL dAX1_lengthOf_0 5 rfl) (hret _ _ ⟨by unfold hl; rw [if_neg (by omega)]; rfl, rfl⟩)
  · refine v_bipush hX (by decide +kernel) (atL dAX1_lengthOf_0 2 rfl) ?_
    refine v_goto hX (tgt := 11) (atL dAX1_lengthOf_0 3 rfl) (by decide) ?_
    exact v_iret hX (atL dAX1_lengthOf_0 5 rfl) (hret _ _ ⟨by unfold hl; rw [if_pos (by omega)]; rfl, rfl⟩)


set_option maxHeartbeats 1000000 in
set_option maxRecDepth 100000 in
theorem c_X1_turned (l : Launch) (w : Wl) (σ : St) (x : Int32) (k : Int) : Cn l yX1_turned cX1_turned 2 (Option.some Jvm.ClassFile.FieldType.int) 0 0 wI [.int (x), .int (iI (k))] w σ (fun a σ' => iI a = rt x k ∧ σ' = σ) := by
  refine Cn.of (own := RX1) (lv := [(0, .int (x)), (1, .int (iI (k)))]) (by decide +kernel) rfl (Nat.le_of_ble_eq_true rfl) rfl (fun X hX hxl hR hcl hret => ?_)
  subst hxl
  refine v_iload_n hX 0 rfl (atL dAX1_turned_0 0 rfl) ?_
  refine v_iload_n hX 1 rfl (atL dAX1_turned_0 1 rfl) ?_
  refine v_iushr hX (r := us x (iI (k))) rfl (atL dAX1_turned_0 2 rfl) ?_
  refine v_iload_n hX 0 rfl (atL dAX1_turned_0 3 rfl) ?_
  refine v_bipush hX (by decide +kernel) (atL dAX1_turned_0 4 rfl) ?_
  refine v_iload_n hX 1 rfl (atL dAX1_turned_0 5 rfl) ?_
  refine v_isub hX (iI_sub _ _) (atL dAX1_turned_0 6 rfl) ?_
  refine v_ishl hX (r := x <<< ((iI (32 - k)) &&& 31)) rfl (atL dAX1_turned_0 7 rfl) ?_
  refine v_ior hX (r := (us x (iI (k))) ||| (x <<< ((iI (32 - k)) &&& 31))) rfl (atL dAX1_turned_0 8 rfl) ?_
  have hret2 := hret (Int32.toInt (us x (iI k) ||| x <<< (iI (32 - k) &&& 31))) σ ⟨iI_of _, rfl⟩
  rw [show wI (Int32.toInt (us x (iI k) ||| x <<< (iI (32 - k) &&& 31))) = some (.int (us x (iI k) ||| x <<< (iI (32 - k) &&& 31))) by show some (Value.int (iI _)) = _; rw [iI_of]] at hret2
  exact v_iret hX (atL dAX1_turned_0 9 rfl) hret2

set_option maxHeartbeats 1000000 in
set_option maxRecDepth 100000 in
theorem c_X1_padded (l : Launch) (w : Wl) (σ : St) (o : Nat) (hov : w.2 1 o) (ho : okR σ o) (p : Nat) (hp : p < 100000) : Cn l yX1_padded cX1_padded 2 (Option.some Jvm.ClassFile.FieldType.int) 1 21 wI [.ref (w.1 1 o), .int (iI ((p : Int)))] w σ (fun a σ' => a = (pbt (row σ o) p : Int) ∧ σ' = σ) := by
  refine Cn.of (own := RX1) (lv := [(0, .ref (w.1 1 o)), (1, .int (iI ((p : Int))))]) (by decide +kernel) rfl (Nat.le_of_ble_eq_true rfl) rfl (fun X hX hxl hR hcl hret => ?_)
  subst hxl
  refine v_iload_n hX 1 rfl (atL dAX1_padded_0 0 rfl) ?_
  refine v_aload_n hX 0 rfl (atL dAX1_padded_0 1 rfl) ?_
  refine gf_X1_33 hX (v := σ 0 o 0) (rfl) hov (atL dAX1_padded_0 2 rfl) ?_
  refine v_icmp_ne hX ⟨by omega, by omega⟩ ⟨by have := ho.len; have := rcap_le o; have := ho.cap; omega, by have := ho.len; have := rcap_le o; have := ho.cap; omega⟩ (tgt := 14) (atL dAX1_padded_0 3 rfl) (by decide) (fun h5 => ?_) (fun h5 => ?_)
  · refine v_aload_n hX 0 rfl (atL dAX1_padded_0 6 rfl) ?_
    refine v_iload_n hX 1 rfl (atL dAX1_padded_0 7 rfl) ?_
    refine v_callV hX (As := [.int (iI ((p : Int)))]) (rest := []) (c_X4_at (xl X) w σ o hov ho (p : Int) ⟨by omega, by omega⟩) lk_X1_80 hov (fun _ => rfl) rfl rfl rfl (by rw [hR]; exact ⟨Nat.le_of_ble_eq_true rfl, Nat.le_of_ble_eq_true rfl⟩) ⟨Nat.zero_le _, Nat.zero_le _⟩ rfl (Nat.le_of_ble_eq_true rfl) (atL dAX1_padded_0 8 rfl) (fun r1 s1 h1 => ?_)
    obtain ⟨h1a, h1b⟩ := h1
    rw [h1b]
    show V X _ w _ _ σ [.int (iI (r1))]
    exact v_iret hX (atL dAX1_padded_0 9 rfl) (hret _ _ ⟨by unfold pbt; rw [if_neg (by have := ho.len; omega), h1a, if_pos (by omega)]; rfl, rfl⟩)
  · refine v_sipush hX (by decide +kernel) (atL dAX1_padded_0 4 rfl) ?_
    refine v_goto hX (tgt := 19) (atL dAX1_padded_0 5 rfl) (by decide) ?_
    exact v_iret hX (atL dAX1_padded_0 9 rfl) (hret _ _ ⟨by unfold pbt; rw [if_pos (by have := ho.len; omega)]; rfl, rfl⟩)

set_option maxHeartbeats 1000000 in
set_option maxRecDepth 100000 in
theorem c_X1_mixWord (l : Launch) (w : Wl) (σ : St) (hk0 : w.2 8 0) (x : Int32) : Cn l yX1_mixWord cX1_mixWord 9 none 1 21 wN [.ref (w.1 8 0), .int (x)] w σ (fun _ σ' => (∀ j, j < 8 → wf σ' 2 j = rnd (wf σ 2) x j) ∧ Fr [(9, 2)] σ σ') := by
  refine Cn.of (own := RX1) (lv := [(0, .ref (w.1 8 0)), (1, .int (x))]) (by decide +kernel) rfl (Nat.le_of_ble_eq_true rfl) rfl (fun X hX hxl hR hcl hret => ?_)
  subst hxl
  have hD9 : ∀ q, (9, q) ∈ mn σ 8 0 → w.2 9 q := fun q h => hcl 8 0 hk0 (9, q) h
  have hR1 : ∀ q, (1, q) ∈ mn σ 8 0 → w.2 1 q := fun q h => hcl 8 0 hk0 (1, q) h
  have loop : ∀ (k : Nat) (s : St), k ≤ 7 → (∀ j, wf s 2 j = if k < j ∧ j ≤ 7 then wf σ 2 (j - 1) else wf σ 2 j) → Fr [(9, 2)] σ s → V X (0, 0) w 132 [(8, .int (iI ((k : Int)))), (7, .int (two2 (wf σ 2))), (6, .int (one1 (wf σ 2) x)), (0, .ref (w.1 8 0))] s [] := by
    intro k
    induction k with
    | zero =>
      intro s hk hs hf
      refine v_iload hX 0 rfl (atL dAX1_mixWord_1 27 rfl) ?_
      refine v_if_le hX ⟨by omega, by omega⟩ (tgt := 159) (atL dAX1_mixWord_1 28 rfl) (by decide) (fun h134 => ?_) (fun h134 => absurd h134 (by omega))
      refine v_aload_n hX 3 rfl (atL dAX1_mixWord_1 41 rfl) ?_
      refine gf_X1_18 hX hk0 (atL dAX1_mixWord_1 42 rfl) ?_
      refine v_iconst hX (atL dAX1_mixWord_1 43 rfl) ?_
      refine v_dup2 hX rfl rfl (atL dAX1_mixWord_1 44 rfl) ?_
      refine v_iald hX (r := iI (s 9 2 4)) 4 (hD9 2 (by simp [mn, tp])) (fun _ => rfl) rfl (by decide) (by decide) (congrArg iI (rfl)) (atL dAX1_mixWord_1 45 rfl) ?_
      refine v_iload hX 2 rfl (atL dAX1_mixWord_1 46 rfl) ?_
      refine v_iadd hX (r := (iI (s 9 2 4)) + (one1 (wf σ 2) x)) rfl (atL dAX1_mixWord_1 47 rfl) ?_
      refine v_iastR hX (c := 9) 4 (hD9 2 (by simp [mn, tp])) (by decide) (fun _ _ => rfl) rfl (by decide) (by decide) (atL dAX1_mixWord_1 48 rfl) ?_
      refine v_aload_n hX 3 rfl (atL dAX1_mixWord_1 49 rfl) ?_
      refine gf_X1_18 hX hk0 (atL dAX1_mixWord_1 50 rfl) ?_
      refine v_iconst hX (atL dAX1_mixWord_1 51 rfl) ?_
      refine v_iload hX 2 rfl (atL dAX1_mixWord_1 52 rfl) ?_
      refine v_iload hX 1 rfl (atL dAX1_mixWord_1 53 rfl) ?_
      refine v_iadd hX (r := (one1 (wf σ 2) x) + (two2 (wf σ 2))) rfl (atL dAX1_mixWord_1 54 rfl) ?_
      refine v_iastR hX (c := 9) 0 (hD9 2 (by simp [mn, tp])) (by decide) (fun _ _ => rfl) rfl (by decide) (by decide) (atL dAX1_mixWord_1 55 rfl) ?_
      have fin : ∀ j, j < 8 → wf (su (su s 9 2 4 (Int32.toInt (iI (s 9 2 4) + one1 (wf σ 2) x))) 9 2 0 (Int32.toInt (one1 (wf σ 2) x + two2 (wf σ 2)))) 2 j = rnd (wf σ 2) x j := by
        intro j hj
        unfold rnd
        by_cases j0 : j = 0
        · subst j0
          rw [wf_s, if_pos rfl]
        · rw [wf_j j0, if_neg j0]
          by_cases j4 : j = 4
          · subst j4
            have := hs 4
            rw [wf_s, if_pos rfl, show iI (s 9 2 4) = wf s 2 4 from rfl, hs 4, if_pos (by omega)]
          · rw [wf_j j4, if_neg j4, hs j, if_pos (by omega)]
      exact v_vret hX (atL dAX1_mixWord_1 56 rfl) (hret () _ ⟨fin, (hf.tr' (Fr.su (by simp))).tr' (Fr.su (by simp))⟩)
    | succ k ih =>
      intro s hk hs hf
      refine v_iload hX 0 rfl (atL dAX1_mixWord_1 27 rfl) ?_
      refine v_if_le hX ⟨by omega, by omega⟩ (tgt := 159) (atL dAX1_mixWord_1 28 rfl) (by decide) (fun h134 => absurd h134 (by omega)) (fun h134 => ?_)
      refine v_aload_n hX 3 rfl (atL dAX1_mixWord_1 29 rfl) ?_
      refine gf_X1_18 hX hk0 (atL dAX1_mixWord_1 30 rfl) ?_
      refine v_iload hX 0 rfl (atL dAX1_mixWord_1 31 rfl) ?_
      refine v_aload_n hX 3 rfl (atL dAX1_mixWord_1 32 rfl) ?_
      refine gf_X1_18 hX hk0 (atL dAX1_mixWord_1 33 rfl) ?_
      refine v_iload hX 0 rfl (atL dAX1_mixWord_1 34 rfl) ?_
      refine v_iconst hX (atL dAX1_mixWord_1 35 rfl) ?_
      refine v_isub hX (iI_sub _ _) (atL dAX1_mixWord_1 36 rfl) ?_
      refine v_iald hX (r := iI (s 9 2 k)) k (hD9 2 (by simp [mn, tp])) (fun _ => rfl) (by omega) (show k < 8 by omega) (by decide) (congrArg iI (rfl)) (atL dAX1_mixWord_1 37 rfl) ?_
      refine v_iast hX (c := 9) ((k + 1)) (hD9 2 (by simp [mn, tp])) (by decide) (fun _ _ => rfl) rfl (show k + 1 < 8 by omega) (by decide) (atL dAX1_mixWord_1 38 rfl) ?_
      refine v_iinc hX (lv' := [(8, .int (iI ((((k + 1 : Nat) : Int)) + (-1)))), (7, .int (two2 (wf σ 2))), (6, .int (one1 (wf σ 2) x)), (0, .ref (w.1 8 0))]) 0 rfl (iI_add _ _) (Nat.le_of_ble_eq_true rfl) rfl (atL dAX1_mixWord_1 39 rfl) ?_
      refine v_goto hX (tgt := 132) (atL dAX1_mixWord_1 40 rfl) (by decide) ?_
      rw [show ((k + 1 : Nat) : Int) + (-1) = (k : Int) by omega]
      refine ih _ (by omega) (fun j => ?_) (hf.tr' (Fr.su (by simp)))
      by_cases e : j = k + 1
      · subst e
        rw [if_pos (by omega)]
        have e2 := hs k
        rw [if_neg (by omega)] at e2
        show iI (su s 9 2 (k + 1) (s 9 2 k) 9 2 (k + 1)) = _
        rw [su_s]
        exact e2
      · rw [wf_j e, hs j]
        by_cases c : k + 1 < j ∧ j ≤ 7
        · rw [if_pos c, if_pos (by omega)]
        · rw [if_neg c, if_neg (by omega)]
  refine v_aload_n hX 0 rfl (atL dAX1_mixWord_0 0 rfl) ?_
  refine gf_X1_18 hX hk0 (atL dAX1_mixWord_0 1 rfl) ?_
  refine v_iconst hX (atL dAX1_mixWord_0 2 rfl) ?_
  refine v_iald hX (r := iI (σ 9 2 0)) 0 (hD9 2 (by simp [mn, tp])) (fun _ => rfl) rfl (by decide) (by decide) (congrArg iI (rfl)) (atL dAX1_mixWord_0 3 rfl) ?_
  refine v_istore_n hX (i := 2) rfl (lv' := [(2, .int (iI (σ 9 2 0))), (0, .ref (w.1 8 0)), (1, .int (x))]) (Nat.le_of_ble_eq_true rfl) rfl (atL dAX1_mixWord_0 4 rfl) ?_
  refine v_aload_n hX 1 rfl (atL dAX1_mixWord_0 5 rfl) ?_
  refine gf_X1_18 hX hk0 (atL dAX1_mixWord_0 6 rfl) ?_
  refine v_iconst hX (atL dAX1_mixWord_0 7 rfl) ?_
  refine v_iald hX (r := iI (σ 9 2 4)) 4 (hD9 2 (by simp [mn, tp])) (fun _ => rfl) rfl (by decide) (by decide) (congrArg iI (rfl)) (atL dAX1_mixWord_0 8 rfl) ?_
  refine v_istore_n hX (i := 3) rfl (lv' := [(3, .int (iI (σ 9 2 4))), (2, .int (iI (σ 9 2 0))), (0, .ref (w.1 8 0)), (1, .int (x))]) (Nat.le_of_ble_eq_true rfl) rfl (atL dAX1_mixWord_0 9 rfl) ?_
  refine v_iload_n hX 0 rfl (atL dAX1_mixWord_0 10 rfl) ?_
  refine v_aload_n hX 2 rfl (atL dAX1_mixWord_0 11 rfl) ?_
  refine gf_X1_18 hX hk0 (atL dAX1_mixWord_0 12 rfl) ?_
  refine v_iconst hX (atL dAX1_mixWord_0 13 rfl) ?_
  refine v_iald hX (r := iI (σ 9 2 5)) 5 (hD9 2 (by simp [mn, tp])) (fun _ => rfl) rfl (by decide) (by decide) (congrArg iI (rfl)) (atL dAX1_mixWord_0 14 rfl) ?_
  refine v_iand hX (r := (iI (σ 9 2 4)) &&& (iI (σ 9 2 5))) rfl (atL dAX1_mixWord_0 15 rfl) ?_
  refine v_iload_n hX 0 rfl (atL dAX1_mixWord_0 16 rfl) ?_
  refine v_iconst hX (atL dAX1_mixWord_0 17 rfl) ?_
  refine v_ixor hX (r := (iI (σ 9 2 4)) ^^^ (iI ((-1)))) rfl (atL dAX1_mixWord_0 18 rfl) ?_
  refine v_aload_n hX 2 rfl (atL dAX1_mixWord_0 19 rfl) ?_
  refine gf_X1_18 hX hk0 (atL dAX1_mixWord_0 20 rfl) ?_
  refine v_bipush hX (by decide +kernel) (atL dAX1_mixWord_0 21 rfl) ?_
  refine v_iald hX (r := iI (σ 9 2 6)) 6 (hD9 2 (by simp [mn, tp])) (fun _ => rfl) rfl (by decide) (by decide) (congrArg iI (rfl)) (atL dAX1_mixWord_0 22 rfl) ?_
  refine v_iand hX (r := ((iI (σ 9 2 4)) ^^^ (iI ((-1)))) &&& (iI (σ 9 2 6))) rfl (atL dAX1_mixWord_0 23 rfl) ?_
  refine v_ixor hX (r := ((iI (σ 9 2 4)) &&& (iI (σ 9 2 5))) ^^^ (((iI (σ 9 2 4)) ^^^ (iI ((-1)))) &&& (iI (σ 9 2 6)))) rfl (atL dAX1_mixWord_0 24 rfl) ?_
  refine v_istore hX (lv' := [(4, .int (((iI (σ 9 2 4)) &&& (iI (σ 9 2 5))) ^^^ (((iI (σ 9 2 4)) ^^^ (iI ((-1)))) &&& (iI (σ 9 2 6))))), (3, .int (iI (σ 9 2 4))), (2, .int (iI (σ 9 2 0))), (0, .ref (w.1 8 0)), (1, .int (x))]) (Nat.le_of_ble_eq_true rfl) rfl (atL dAX1_mixWord_0 25 rfl) ?_
  refine v_iload_n hX 2 rfl (atL dAX1_mixWord_0 26 rfl) ?_
  refine v_aload_n hX 3 rfl (atL dAX1_mixWord_0 27 rfl) ?_
  refine gf_X1_18 hX hk0 (atL dAX1_mixWord_0 28 rfl) ?_
  refine v_iconst hX (atL dAX1_mixWord_0 29 rfl) ?_
  refine v_iald hX (r := iI (σ 9 2 1)) 1 (hD9 2 (by simp [mn, tp])) (fun _ => rfl) rfl (by decide) (by decide) (congrArg iI (rfl)) (atL dAX1_mixWord_0 30 rfl) ?_
  refine v_iand hX (r := (iI (σ 9 2 0)) &&& (iI (σ 9 2 1))) rfl (atL dAX1_mixWord_0 31 rfl) ?_
  refine v_iload_n hX 2 rfl (atL dAX1_mixWord_0 32 rfl) ?_
  refine v_aload_n hX 3 rfl (atL dAX1_mixWord_0 33 rfl) ?_
  refine gf_X1_18 hX hk0 (atL dAX1_mixWord_0 34 rfl) ?_
  refine v_iconst hX (atL dAX1_mixWord_0 35 rfl) ?_
  refine v_iald hX (r := iI (σ 9 2 2)) 2 (hD9 2 (by simp [mn, tp])) (fun _ => rfl) rfl (by decide) (by decide) (congrArg iI (rfl)) (atL dAX1_mixWord_0 36 rfl) ?_
  refine v_iand hX (r := (iI (σ 9 2 0)) &&& (iI (σ 9 2 2))) rfl (atL dAX1_mixWord_0 37 rfl) ?_
  refine v_ixor hX (r := ((iI (σ 9 2 0)) &&& (iI (σ 9 2 1))) ^^^ ((iI (σ 9 2 0)) &&& (iI (σ 9 2 2)))) rfl (atL dAX1_mixWord_0 38 rfl) ?_
  refine v_aload_n hX 3 rfl (atL dAX1_mixWord_0 39 rfl) ?_
  refine gf_X1_18 hX hk0 (atL dAX1_mixWord_0 40 rfl) ?_
  refine v_iconst hX (atL dAX1_mixWord_0 41 rfl) ?_
  refine v_iald hX (r := iI (σ 9 2 1)) 1 (hD9 2 (by simp [mn, tp])) (fun _ => rfl) rfl (by decide) (by decide) (congrArg iI (rfl)) (atL dAX1_mixWord_0 42 rfl) ?_
  refine v_aload_n hX 3 rfl (atL dAX1_mixWord_0 43 rfl) ?_
  refine gf_X1_18 hX hk0 (atL dAX1_mixWord_0 44 rfl) ?_
  refine v_iconst hX (atL dAX1_mixWord_0 45 rfl) ?_
  refine v_iald hX (r := iI (σ 9 2 2)) 2 (hD9 2 (by simp [mn, tp])) (fun _ => rfl) rfl (by decide) (by decide) (congrArg iI (rfl)) (atL dAX1_mixWord_0 46 rfl) ?_
  refine v_iand hX (r := (iI (σ 9 2 1)) &&& (iI (σ 9 2 2))) rfl (atL dAX1_mixWord_0 47 rfl) ?_
  refine v_ixor hX (r := (((iI (σ 9 2 0)) &&& (iI (σ 9 2 1))) ^^^ ((iI (σ 9 2 0)) &&& (iI (σ 9 2 2)))) ^^^ ((iI (σ 9 2 1)) &&& (iI (σ 9 2 2)))) rfl (atL dAX1_mixWord_0 48 rfl) ?_
  refine v_istore hX (lv' := [(5, .int ((((iI (σ 9 2 0)) &&& (iI (σ 9 2 1))) ^^^ ((iI (σ 9 2 0)) &&& (iI (σ 9 2 2)))) ^^^ ((iI (σ 9 2 1)) &&& (iI (σ 9 2 2))))), (4, .int (((iI (σ 9 2 4)) &&& (iI (σ 9 2 5))) ^^^ (((iI (σ 9 2 4)) ^^^ (iI ((-1)))) &&& (iI (σ 9 2 6))))), (3, .int (iI (σ 9 2 4))), (2, .int (iI (σ 9 2 0))), (0, .ref (w.1 8 0)), (1, .int (x))]) (Nat.le_of_ble_eq_true rfl) rfl (atL dAX1_mixWord_0 49 rfl) ?_
  refine v_aload_n hX 4 rfl (atL dAX1_mixWord_0 50 rfl) ?_
  refine gf_X1_18 hX hk0 (atL dAX1_mixWord_0 51 rfl) ?_
  refine v_bipush hX (by decide +kernel) (atL dAX1_mixWord_0 52 rfl) ?_
  refine v_iald hX (r := iI (σ 9 2 7)) 7 (hD9 2 (by simp [mn, tp])) (fun _ => rfl) rfl (by decide) (by decide) (congrArg iI (rfl)) (atL dAX1_mixWord_0 53 rfl) ?_
  refine v_iload_n hX 2 rfl (atL dAX1_mixWord_0 54 rfl) ?_
  refine v_bipush hX (by decide +kernel) (atL dAX1_mixWord_0 55 rfl) ?_
  refine v_callS hX (As := [.int (iI (σ 9 2 4)), .int (iI (6))]) (rest := [.int (iI (σ 9 2 7))]) (c_X1_turned (xl X) w σ (iI (σ 9 2 4)) 6) lk_X1_76 rfl (by rw [hR]; exact ⟨Nat.le_of_ble_eq_true rfl, Nat.le_of_ble_eq_true rfl⟩) ⟨Nat.zero_le _, Nat.zero_le _⟩ rfl (Nat.le_of_ble_eq_true rfl) (atL dAX1_mixWord_0 56 rfl) (fun q79 z79 g79 => ?_)
  obtain ⟨g79a, g79b⟩ := g79
  rw [g79b]
  rw [show wI q79 = some (.int (rt (iI (σ 9 2 4)) 6)) from congrArg (fun z => some (Value.int z)) g79a]
  show V X _ w _ _ σ [.int (rt (iI (σ 9 2 4)) 6), .int (iI (σ 9 2 7))]
  refine v_iload_n hX 2 rfl (atL dAX1_mixWord_0 57 rfl) ?_
  refine v_bipush hX (by decide +kernel) (atL dAX1_mixWord_0 58 rfl) ?_
  refine v_callS hX (As := [.int (iI (σ 9 2 4)), .int (iI (11))]) (rest := [.int (rt (iI (σ 9 2 4)) 6), .int (iI (σ 9 2 7))]) (c_X1_turned (xl X) w σ (iI (σ 9 2 4)) 11) lk_X1_76 rfl (by rw [hR]; exact ⟨Nat.le_of_ble_eq_true rfl, Nat.le_of_ble_eq_true rfl⟩) ⟨Nat.zero_le _, Nat.zero_le _⟩ rfl (Nat.le_of_ble_eq_true rfl) (atL dAX1_mixWord_0 59 rfl) (fun q85 z85 g85 => ?_)
  obtain ⟨g85a, g85b⟩ := g85
  rw [g85b]
  rw [show wI q85 = some (.int (rt (iI (σ 9 2 4)) 11)) from congrArg (fun z => some (Value.int z)) g85a]
  show V X _ w _ _ σ [.int (rt (iI (σ 9 2 4)) 11), .int (rt (iI (σ 9 2 4)) 6), .int (iI (σ 9 2 7))]
  refine v_ixor hX (r := (rt (iI (σ 9 2 4)) 6) ^^^ (rt (iI (σ 9 2 4)) 11)) rfl (atL dAX1_mixWord_1 0 rfl) ?_
  refine v_iload_n hX 2 rfl (atL dAX1_mixWord_1 1 rfl) ?_
  refine v_bipush hX (by decide +kernel) (atL dAX1_mixWord_1 2 rfl) ?_
  refine v_callS hX (As := [.int (iI (σ 9 2 4)), .int (iI (25))]) (rest := [.int ((rt (iI (σ 9 2 4)) 6) ^^^ (rt (iI (σ 9 2 4)) 11)), .int (iI (σ 9 2 7))]) (c_X1_turned (xl X) w σ (iI (σ 9 2 4)) 25) lk_X1_76 rfl (by rw [hR]; exact ⟨Nat.le_of_ble_eq_true rfl, Nat.le_of_ble_eq_true rfl⟩) ⟨Nat.zero_le _, Nat.zero_le _⟩ rfl (Nat.le_of_ble_eq_true rfl) (atL dAX1_mixWord_1 3 rfl) (fun q92 z92 g92 => ?_)
  obtain ⟨g92a, g92b⟩ := g92
  rw [g92b]
  rw [show wI q92 = some (.int (rt (iI (σ 9 2 4)) 25)) from congrArg (fun z => some (Value.int z)) g92a]
  show V X _ w _ _ σ [.int (rt (iI (σ 9 2 4)) 25), .int ((rt (iI (σ 9 2 4)) 6) ^^^ (rt (iI (σ 9 2 4)) 11)), .int (iI (σ 9 2 7))]
  refine v_ixor hX (r := ((rt (iI (σ 9 2 4)) 6) ^^^ (rt (iI (σ 9 2 4)) 11)) ^^^ (rt (iI (σ 9 2 4)) 25)) rfl (atL dAX1_mixWord_1 4 rfl) ?_
  refine v_iadd hX (r := (iI (σ 9 2 7)) + (((rt (iI (σ 9 2 4)) 6) ^^^ (rt (iI (σ 9 2 4)) 11)) ^^^ (rt (iI (σ 9 2 4)) 25))) rfl (atL dAX1_mixWord_1 5 rfl) ?_
  refine v_iload hX 1 rfl (atL dAX1_mixWord_1 6 rfl) ?_
  refine v_iadd hX (r := ((iI (σ 9 2 7)) + (((rt (iI (σ 9 2 4)) 6) ^^^ (rt (iI (σ 9 2 4)) 11)) ^^^ (rt (iI (σ 9 2 4)) 25))) + (((iI (σ 9 2 4)) &&& (iI (σ 9 2 5))) ^^^ (((iI (σ 9 2 4)) ^^^ (iI ((-1)))) &&& (iI (σ 9 2 6))))) rfl (atL dAX1_mixWord_1 7 rfl) ?_
  refine v_iload_n hX 5 rfl (atL dAX1_mixWord_1 8 rfl) ?_
  refine v_iadd hX (r := (((iI (σ 9 2 7)) + (((rt (iI (σ 9 2 4)) 6) ^^^ (rt (iI (σ 9 2 4)) 11)) ^^^ (rt (iI (σ 9 2 4)) 25))) + (((iI (σ 9 2 4)) &&& (iI (σ 9 2 5))) ^^^ (((iI (σ 9 2 4)) ^^^ (iI ((-1)))) &&& (iI (σ 9 2 6))))) + x) rfl (atL dAX1_mixWord_1 9 rfl) ?_
  refine v_istore hX (lv' := [(6, .int ((((iI (σ 9 2 7)) + (((rt (iI (σ 9 2 4)) 6) ^^^ (rt (iI (σ 9 2 4)) 11)) ^^^ (rt (iI (σ 9 2 4)) 25))) + (((iI (σ 9 2 4)) &&& (iI (σ 9 2 5))) ^^^ (((iI (σ 9 2 4)) ^^^ (iI ((-1)))) &&& (iI (σ 9 2 6))))) + x)), (5, .int ((((iI (σ 9 2 0)) &&& (iI (σ 9 2 1))) ^^^ ((iI (σ 9 2 0)) &&& (iI (σ 9 2 2)))) ^^^ ((iI (σ 9 2 1)) &&& (iI (σ 9 2 2))))), (4, .int (((iI (σ 9 2 4)) &&& (iI (σ 9 2 5))) ^^^ (((iI (σ 9 2 4)) ^^^ (iI ((-1)))) &&& (iI (σ 9 2 6))))), (3, .int (iI (σ 9 2 4))), (2, .int (iI (σ 9 2 0))), (0, .ref (w.1 8 0)), (1, .int (x))]) (Nat.le_of_ble_eq_true rfl) rfl (atL dAX1_mixWord_1 10 rfl) ?_
  refine v_iload_n hX 4 rfl (atL dAX1_mixWord_1 11 rfl) ?_
  refine v_iconst hX (atL dAX1_mixWord_1 12 rfl) ?_
  refine v_callS hX (As := [.int (iI (σ 9 2 0)), .int (iI (2))]) (rest := []) (c_X1_turned (xl X) w σ (iI (σ 9 2 0)) 2) lk_X1_76 rfl (by rw [hR]; exact ⟨Nat.le_of_ble_eq_true rfl, Nat.le_of_ble_eq_true rfl⟩) ⟨Nat.zero_le _, Nat.zero_le _⟩ rfl (Nat.le_of_ble_eq_true rfl) (atL dAX1_mixWord_1 13 rfl) (fun q106 z106 g106 => ?_)
  obtain ⟨g106a, g106b⟩ := g106
  rw [g106b]
  rw [show wI q106 = some (.int (rt (iI (σ 9 2 0)) 2)) from congrArg (fun z => some (Value.int z)) g106a]
  show V X _ w _ _ σ [.int (rt (iI (σ 9 2 0)) 2)]
  refine v_iload_n hX 4 rfl (atL dAX1_mixWord_1 14 rfl) ?_
  refine v_bipush hX (by decide +kernel) (atL dAX1_mixWord_1 15 rfl) ?_
  refine v_callS hX (As := [.int (iI (σ 9 2 0)), .int (iI (13))]) (rest := [.int (rt (iI (σ 9 2 0)) 2)]) (c_X1_turned (xl X) w σ (iI (σ 9 2 0)) 13) lk_X1_76 rfl (by rw [hR]; exact ⟨Nat.le_of_ble_eq_true rfl, Nat.le_of_ble_eq_true rfl⟩) ⟨Nat.zero_le _, Nat.zero_le _⟩ rfl (Nat.le_of_ble_eq_true rfl) (atL dAX1_mixWord_1 16 rfl) (fun q112 z112 g112 => ?_)
  obtain ⟨g112a, g112b⟩ := g112
  rw [g112b]
  rw [show wI q112 = some (.int (rt (iI (σ 9 2 0)) 13)) from congrArg (fun z => some (Value.int z)) g112a]
  show V X _ w _ _ σ [.int (rt (iI (σ 9 2 0)) 13), .int (rt (iI (σ 9 2 0)) 2)]
  refine v_ixor hX (r := (rt (iI (σ 9 2 0)) 2) ^^^ (rt (iI (σ 9 2 0)) 13)) rfl (atL dAX1_mixWord_1 17 rfl) ?_
  refine v_iload_n hX 4 rfl (atL dAX1_mixWord_1 18 rfl) ?_
  refine v_bipush hX (by decide +kernel) (atL dAX1_mixWord_1 19 rfl) ?_
  refine v_callS hX (As := [.int (iI (σ 9 2 0)), .int (iI (22))]) (rest := [.int ((rt (iI (σ 9 2 0)) 2) ^^^ (rt (iI (σ 9 2 0)) 13))]) (c_X1_turned (xl X) w σ (iI (σ 9 2 0)) 22) lk_X1_76 rfl (by rw [hR]; exact ⟨Nat.le_of_ble_eq_true rfl, Nat.le_of_ble_eq_true rfl⟩) ⟨Nat.zero_le _, Nat.zero_le _⟩ rfl (Nat.le_of_ble_eq_true rfl) (atL dAX1_mixWord_1 20 rfl) (fun q119 z119 g119 => ?_)
  obtain ⟨g119a, g119b⟩ := g119
  rw [g119b]
  rw [show wI q119 = some (.int (rt (iI (σ 9 2 0)) 22)) from congrArg (fun z => some (Value.int z)) g119a]
  show V X _ w _ _ σ [.int (rt (iI (σ 9 2 0)) 22), .int ((rt (iI (σ 9 2 0)) 2) ^^^ (rt (iI (σ 9 2 0)) 13))]
  refine v_ixor hX (r := ((rt (iI (σ 9 2 0)) 2) ^^^ (rt (iI (σ 9 2 0)) 13)) ^^^ (rt (iI (σ 9 2 0)) 22)) rfl (atL dAX1_mixWord_1 21 rfl) ?_
  refine v_iload hX 1 rfl (atL dAX1_mixWord_1 22 rfl) ?_
  refine v_iadd hX (r := (((rt (iI (σ 9 2 0)) 2) ^^^ (rt (iI (σ 9 2 0)) 13)) ^^^ (rt (iI (σ 9 2 0)) 22)) + ((((iI (σ 9 2 0)) &&& (iI (σ 9 2 1))) ^^^ ((iI (σ 9 2 0)) &&& (iI (σ 9 2 2)))) ^^^ ((iI (σ 9 2 1)) &&& (iI (σ 9 2 2))))) rfl (atL dAX1_mixWord_1 23 rfl) ?_
  refine v_istore hX (lv' := [(7, .int ((((rt (iI (σ 9 2 0)) 2) ^^^ (rt (iI (σ 9 2 0)) 13)) ^^^ (rt (iI (σ 9 2 0)) 22)) + ((((iI (σ 9 2 0)) &&& (iI (σ 9 2 1))) ^^^ ((iI (σ 9 2 0)) &&& (iI (σ 9 2 2)))) ^^^ ((iI (σ 9 2 1)) &&& (iI (σ 9 2 2)))))), (6, .int ((((iI (σ 9 2 7)) + (((rt (iI (σ 9 2 4)) 6) ^^^ (rt (iI (σ 9 2 4)) 11)) ^^^ (rt (iI (σ 9 2 4)) 25))) + (((iI (σ 9 2 4)) &&& (iI (σ 9 2 5))) ^^^ (((iI (σ 9 2 4)) ^^^ (iI ((-1)))) &&& (iI (σ 9 2 6))))) + x)), (5, .int ((((iI (σ 9 2 0)) &&& (iI (σ 9 2 1))) ^^^ ((iI (σ 9 2 0)) &&& (iI (σ 9 2 2)))) ^^^ ((iI (σ 9 2 1)) &&& (iI (σ 9 2 2))))), (4, .int (((iI (σ 9 2 4)) &&& (iI (σ 9 2 5))) ^^^ (((iI (σ 9 2 4)) ^^^ (iI ((-1)))) &&& (iI (σ 9 2 6))))), (3, .int (iI (σ 9 2 4))), (2, .int (iI (σ 9 2 0))), (0, .ref (w.1 8 0)), (1, .int (x))]) (Nat.le_of_ble_eq_true rfl) rfl (atL dAX1_mixWord_1 24 rfl) ?_
  refine v_bipush hX (by decide +kernel) (atL dAX1_mixWord_1 25 rfl) ?_
  refine v_istore hX (lv' := [(8, .int (iI (7))), (7, .int ((((rt (iI (σ 9 2 0)) 2) ^^^ (rt (iI (σ 9 2 0)) 13)) ^^^ (rt (iI (σ 9 2 0)) 22)) + ((((iI (σ 9 2 0)) &&& (iI (σ 9 2 1))) ^^^ ((iI (σ 9 2 0)) &&& (iI (σ 9 2 2)))) ^^^ ((iI (σ 9 2 1)) &&& (iI (σ 9 2 2)))))), (6, .int ((((iI (σ 9 2 7)) + (((rt (iI (σ 9 2 4)) 6) ^^^ (rt (iI (σ 9 2 4)) 11)) ^^^ (rt (iI (σ 9 2 4)) 25))) + (((iI (σ 9 2 4)) &&& (iI (σ 9 2 5))) ^^^ (((iI (σ 9 2 4)) ^^^ (iI ((-1)))) &&& (iI (σ 9 2 6))))) + x)), (5, .int ((((iI (σ 9 2 0)) &&& (iI (σ 9 2 1))) ^^^ ((iI (σ 9 2 0)) &&& (iI (σ 9 2 2)))) ^^^ ((iI (σ 9 2 1)) &&& (iI (σ 9 2 2))))), (4, .int (((iI (σ 9 2 4)) &&& (iI (σ 9 2 5))) ^^^ (((iI (σ 9 2 4)) ^^^ (iI ((-1)))) &&& (iI (σ 9 2 6))))), (3, .int (iI (σ 9 2 4))), (2, .int (iI (σ 9 2 0))), (0, .ref (w.1 8 0)), (1, .int (x))]) (Nat.le_of_ble_eq_true rfl) rfl (atL dAX1_mixWord_1 26 rfl) ?_
  refine v_sub (lv' := [(8, .int (iI (7))), (7, .int ((((rt (iI (σ 9 2 0)) 2) ^^^ (rt (iI (σ 9 2 0)) 13)) ^^^ (rt (iI (σ 9 2 0)) 22)) + ((((iI (σ 9 2 0)) &&& (iI (σ 9 2 1))) ^^^ ((iI (σ 9 2 0)) &&& (iI (σ 9 2 2)))) ^^^ ((iI (σ 9 2 1)) &&& (iI (σ 9 2 2)))))), (6, .int ((((iI (σ 9 2 7)) + (((rt (iI (σ 9 2 4)) 6) ^^^ (rt (iI (σ 9 2 4)) 11)) ^^^ (rt (iI (σ 9 2 4)) 25))) + (((iI (σ 9 2 4)) &&& (iI (σ 9 2 5))) ^^^ (((iI (σ 9 2 4)) ^^^ (iI ((-1)))) &&& (iI (σ 9 2 6))))) + x)), (0, .ref (w.1 8 0))]) [0, 1, 2, 7] rfl ?_
  exact loop 7 σ (by omega) (fun j => (if_neg (by omega)).symm) Fr.rf

set_option maxHeartbeats 1000000 in
set_option maxRecDepth 100000 in
theorem c_X1_mixBlock (l : Launch) (w : Wl) (σ : St) (hk0 : w.2 8 0) : Cn l yX1_mixBlock cX1_mixBlock 2 none 2 49 wN [.ref (w.1 8 0)] w σ (fun _ σ' => (∀ j, j < 8 → wf σ' 1 j = wf σ 1 j + rnds KR (wf σ 0) (wf σ 1) 64 j) ∧ Fr [(9, 1), (9, 2)] σ σ') := by
  refine Cn.of (own := RX1) (lv := [(0, .ref (w.1 8 0))]) (by decide +kernel) rfl (Nat.le_of_ble_eq_true rfl) rfl (fun X hX hxl hR hcl hret => ?_)
  subst hxl
  have hD9 : ∀ q, (9, q) ∈ mn σ 8 0 → w.2 9 q := fun q h => hcl 8 0 hk0 (9, q) h
  have hR1 : ∀ q, (1, q) ∈ mn σ 8 0 → w.2 1 q := fun q h => hcl 8 0 hk0 (1, q) h
  have l3 : ∀ (d k : Nat) (s : St), k + d = 8 → (∀ j, j < 8 → wf s 2 j = rnds KR (wf σ 0) (wf σ 1) 64 j) → (∀ j, j < 8 → wf s 1 j = if j < k then wf σ 1 j + rnds KR (wf σ 0) (wf σ 1) 64 j else wf σ 1 j) → Fr [(9, 1), (9, 2)] σ s → V X (0, 0) w 58 [(1, .int (iI ((k : Int)))), (0, .ref (w.1 8 0))] s [] := by
    intro d
    induction d with
    | zero =>
      intro k s hk h2 h1 hf
      obtain rfl : k = 8 := by omega
      refine v_iload_n hX 0 rfl (atL dAX1_mixBlock_0 34 rfl) ?_
      refine v_bipush hX (by decide +kernel) (atL dAX1_mixBlock_0 35 rfl) ?_
      refine v_icmp_ge hX ⟨by omega, by omega⟩ ⟨by omega, by omega⟩ (tgt := 85) (atL dAX1_mixBlock_0 36 rfl) (by decide) (fun h61 => ?_) (fun h61 => absurd h61 (by omega))
      exact v_vret hX (atL dAX1_mixBlock_0 50 rfl) (hret () _ ⟨fun j hj => by rw [h1 j hj, if_pos hj], hf⟩)
    | succ d ih =>
      intro k s hk h2 h1 hf
      refine v_iload_n hX 0 rfl (atL dAX1_mixBlock_0 34 rfl) ?_
      refine v_bipush hX (by decide +kernel) (atL dAX1_mixBlock_0 35 rfl) ?_
      refine v_icmp_ge hX ⟨by omega, by omega⟩ ⟨by omega, by omega⟩ (tgt := 85) (atL dAX1_mixBlock_0 36 rfl) (by decide) (fun h61 => absurd h61 (by omega)) (fun h61 => ?_)
      refine v_aload_n hX 1 rfl (atL dAX1_mixBlock_0 37 rfl) ?_
      refine gf_X1_15 hX hk0 (atL dAX1_mixBlock_0 38 rfl) ?_
      refine v_iload_n hX 0 rfl (atL dAX1_mixBlock_0 39 rfl) ?_
      refine v_dup2 hX rfl rfl (atL dAX1_mixBlock_0 40 rfl) ?_
      refine v_iald hX (r := iI (s 9 1 k)) k (hD9 1 (by simp [mn, tp])) (fun _ => rfl) rfl (show k < 8 by omega) (by decide) (congrArg iI (rfl)) (atL dAX1_mixBlock_0 41 rfl) ?_
      refine v_aload_n hX 1 rfl (atL dAX1_mixBlock_0 42 rfl) ?_
      refine gf_X1_18 hX hk0 (atL dAX1_mixBlock_0 43 rfl) ?_
      refine v_iload_n hX 0 rfl (atL dAX1_mixBlock_0 44 rfl) ?_
      refine v_iald hX (r := iI (s 9 2 k)) k (hD9 2 (by simp [mn, tp])) (fun _ => rfl) rfl (show k < 8 by omega) (by decide) (congrArg iI (rfl)) (atL dAX1_mixBlock_0 45 rfl) ?_
      refine v_iadd hX (r := iI (s 9 1 k) + iI (s 9 2 k)) rfl (atL dAX1_mixBlock_0 46 rfl) ?_
      refine v_iastR hX (c := 9) k (hD9 1 (by simp [mn, tp])) (by decide) (fun _ _ => rfl) rfl (show k < 8 by omega) (by decide) (atL dAX1_mixBlock_0 47 rfl) ?_
      refine v_iinc hX (lv' := [(1, .int (iI (((k : Int)) + 1))), (0, .ref (w.1 8 0))]) 0 rfl (iI_add _ _) (Nat.le_of_ble_eq_true rfl) rfl (atL dAX1_mixBlock_0 48 rfl) ?_
      refine v_goto hX (tgt := 58) (atL dAX1_mixBlock_0 49 rfl) (by decide) ?_
      rw [show (k : Int) + 1 = ((k + 1 : Nat) : Int) by omega]
      refine ih (k + 1) _ (by omega) (fun j hj => by rw [wf_i (by decide)]; exact h2 j hj) (fun j hj => ?_) (hf.tr' (Fr.su (by simp)))
      by_cases e : j = k
      · subst e
        have e1 := h1 j hj
        rw [if_neg (by omega)] at e1
        rw [wf_s, if_pos (by omega), ← e1, ← h2 j hj]
        rfl
      · rw [wf_j e, h1 j hj]
        by_cases c : j < k
        · rw [if_pos c, if_pos (by omega)]
        · rw [if_neg c, if_neg (by omega)]
  have l2 : ∀ (d k : Nat) (s : St), k + d = 64 → (∀ j, j < 8 → wf s 2 j = rnds KR (wf σ 0) (wf σ 1) k j) → Fr [(9, 2)] σ s → V X (0, 0) w 28 [(1, .int (iI ((k : Int)))), (0, .ref (w.1 8 0))] s [] := by
    intro d
    induction d with
    | zero =>
      intro k s hk h2 hf
      obtain rfl : k = 64 := by omega
      refine v_iload_n hX 0 rfl (atL dAX1_mixBlock_0 17 rfl) ?_
      refine v_bipush hX (by decide +kernel) (atL dAX1_mixBlock_0 18 rfl) ?_
      refine v_icmp_ge hX ⟨by omega, by omega⟩ ⟨by omega, by omega⟩ (tgt := 56) (atL dAX1_mixBlock_0 19 rfl) (by decide) (fun h31 => ?_) (fun h31 => absurd h31 (by omega))
      refine v_iconst hX (atL dAX1_mixBlock_0 32 rfl) ?_
      refine v_istore_n hX (i := 1) rfl (lv' := [(1, .int (iI (0))), (0, .ref (w.1 8 0))]) (Nat.le_of_ble_eq_true rfl) rfl (atL dAX1_mixBlock_0 33 rfl) ?_
      exact l3 8 0 s (by omega) h2 (fun j hj => by rw [if_neg (by omega)]; exact wf_fr hf (by simp) j) (hf.mono (by simp))
    | succ d ih =>
      intro k s hk h2 hf
      have e0 : iI (s 9 0 k) = wf σ 0 k := wf_fr hf (by simp) k
      refine v_iload_n hX 0 rfl (atL dAX1_mixBlock_0 17 rfl) ?_
      refine v_bipush hX (by decide +kernel) (atL dAX1_mixBlock_0 18 rfl) ?_
      refine v_icmp_ge hX ⟨by omega, by omega⟩ ⟨by omega, by omega⟩ (tgt := 56) (atL dAX1_mixBlock_0 19 rfl) (by decide) (fun h31 => absurd h31 (by omega)) (fun h31 => ?_)
      refine v_aload_n hX 1 rfl (atL dAX1_mixBlock_0 20 rfl) ?_
      refine v_gets hX 3 (by decide) wd_657 rfl (atL dAX1_mixBlock_0 21 rfl) (fun t35 hT35 => ?_)
      refine v_iload_n hX 0 rfl (atL dAX1_mixBlock_0 22 rfl) ?_
      refine v_sald hX k hT35 rfl (show k < 64 by omega) (by decide) rfl (atL dAX1_mixBlock_0 23 rfl) ?_
      refine v_aload_n hX 1 rfl (atL dAX1_mixBlock_0 24 rfl) ?_
      refine gf_X1_11 hX hk0 (atL dAX1_mixBlock_0 25 rfl) ?_
      refine v_iload_n hX 0 rfl (atL dAX1_mixBlock_0 26 rfl) ?_
      refine v_iald hX (r := iI (s 9 0 k)) k (hD9 0 (by simp [mn, tp])) (fun _ => rfl) rfl (show k < 64 by omega) (by decide) (congrArg iI (rfl)) (atL dAX1_mixBlock_0 27 rfl) ?_
      refine v_iadd hX (r := KR k + wf σ 0 k) (show iI ((sT 3).getD k 0) + iI (s 9 0 k) = KR k + wf σ 0 k by rw [e0]; rfl) (atL dAX1_mixBlock_0 28 rfl) ?_
      refine v_callV hX (As := [.int (KR k + wf σ 0 k)]) (rest := []) (c_X1_mixWord (xl X) w s hk0 (KR k + wf σ 0 k)) lk_X1_86 hk0 (fun _ => rfl) rfl rfl rfl (by rw [hR]; exact ⟨Nat.le_of_ble_eq_true rfl, Nat.le_of_ble_eq_true rfl⟩) ⟨Nat.zero_le _, Nat.zero_le _⟩ rfl (Nat.le_of_ble_eq_true rfl) (atL dAX1_mixBlock_0 29 rfl) (fun _ s1 h1 => ?_)
      obtain ⟨h1a, h1f⟩ := h1
      show V X _ w _ _ s1 []
      refine v_iinc hX (lv' := [(1, .int (iI (((k : Int)) + 1))), (0, .ref (w.1 8 0))]) 0 rfl (iI_add _ _) (Nat.le_of_ble_eq_true rfl) rfl (atL dAX1_mixBlock_0 30 rfl) ?_
      refine v_goto hX (tgt := 28) (atL dAX1_mixBlock_0 31 rfl) (by decide) ?_
      rw [show (k : Int) + 1 = ((k + 1 : Nat) : Int) by omega]
      refine ih (k + 1) s1 (by omega) (fun j hj => ?_) (hf.tr' h1f)
      rw [h1a j hj]
      exact rnd_congr h2 _ j hj
  have l1 : ∀ (d k : Nat) (s : St), k + d = 8 → (∀ j, j < k → wf s 2 j = wf σ 1 j) → Fr [(9, 2)] σ s → V X (0, 0) w 2 [(1, .int (iI ((k : Int)))), (0, .ref (w.1 8 0))] s [] := by
    intro d
    induction d with
    | zero =>
      intro k s hk h2 hf
      obtain rfl : k = 8 := by omega
      refine v_iload_n hX 0 rfl (atL dAX1_mixBlock_0 2 rfl) ?_
      refine v_bipush hX (by decide +kernel) (atL dAX1_mixBlock_0 3 rfl) ?_
      refine v_icmp_ge hX ⟨by omega, by omega⟩ ⟨by omega, by omega⟩ (tgt := 26) (atL dAX1_mixBlock_0 4 rfl) (by decide) (fun h5 => ?_) (fun h5 => absurd h5 (by omega))
      refine v_iconst hX (atL dAX1_mixBlock_0 15 rfl) ?_
      refine v_istore_n hX (i := 1) rfl (lv' := [(1, .int (iI (0))), (0, .ref (w.1 8 0))]) (Nat.le_of_ble_eq_true rfl) rfl (atL dAX1_mixBlock_0 16 rfl) ?_
      exact l2 64 0 s (by omega) h2 hf
    | succ d ih =>
      intro k s hk h2 hf
      refine v_iload_n hX 0 rfl (atL dAX1_mixBlock_0 2 rfl) ?_
      refine v_bipush hX (by decide +kernel) (atL dAX1_mixBlock_0 3 rfl) ?_
      refine v_icmp_ge hX ⟨by omega, by omega⟩ ⟨by omega, by omega⟩ (tgt := 26) (atL dAX1_mixBlock_0 4 rfl) (by decide) (fun h5 => absurd h5 (by omega)) (fun h5 => ?_)
      refine v_aload_n hX 1 rfl (atL dAX1_mixBlock_0 5 rfl) ?_
      refine gf_X1_18 hX hk0 (atL dAX1_mixBlock_0 6 rfl) ?_
      refine v_iload_n hX 0 rfl (atL dAX1_mixBlock_0 7 rfl) ?_
      refine v_aload_n hX 1 rfl (atL dAX1_mixBlock_0 8 rfl) ?_
      refine gf_X1_15 hX hk0 (atL dAX1_mixBlock_0 9 rfl) ?_
      refine v_iload_n hX 0 rfl (atL dAX1_mixBlock_0 10 rfl) ?_
      refine v_iald hX (r := iI (s 9 1 k)) k (hD9 1 (by simp [mn, tp])) (fun _ => rfl) rfl (show k < 8 by omega) (by decide) (congrArg iI (rfl)) (atL dAX1_mixBlock_0 11 rfl) ?_
      refine v_iast hX (c := 9) k (hD9 2 (by simp [mn, tp])) (by decide) (fun _ _ => rfl) rfl (show k < 8 by omega) (by decide) (atL dAX1_mixBlock_0 12 rfl) ?_
      refine v_iinc hX (lv' := [(1, .int (iI (((k : Int)) + 1))), (0, .ref (w.1 8 0))]) 0 rfl (iI_add _ _) (Nat.le_of_ble_eq_true rfl) rfl (atL dAX1_mixBlock_0 13 rfl) ?_
      refine v_goto hX (tgt := 2) (atL dAX1_mixBlock_0 14 rfl) (by decide) ?_
      rw [show (k : Int) + 1 = ((k + 1 : Nat) : Int) by omega]
      refine ih (k + 1) _ (by omega) (fun j hj => ?_) (hf.tr' (Fr.su (by simp)))
      by_cases e : j = k
      · subst e
        show iI (su s 9 2 j (s 9 1 j) 9 2 j) = _
        rw [su_s]
        exact wf_fr hf (by simp) j
      · rw [wf_j e]
        exact h2 j (by omega)
  refine v_iconst hX (atL dAX1_mixBlock_0 0 rfl) ?_
  refine v_istore_n hX (i := 1) rfl (lv' := [(1, .int (iI (0))), (0, .ref (w.1 8 0))]) (Nat.le_of_ble_eq_true rfl) rfl (atL dAX1_mixBlock_0 1 rfl) ?_
  exact l1 8 0 σ (by omega) (fun j hj => absurd hj (by omega)) Fr.rf
