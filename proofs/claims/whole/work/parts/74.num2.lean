theorem dAX7_init_0 : ([(0, .aload_n 0, 1, 1), (1, .invokespecial 1, 3, 4), (4, .aload_n 0, 1, 5), (5, .sipush 270, 3, 8), (8, .newarray .int, 2, 10), (10, .putfield 7, 3, 13), (13, .return_, 1, 14)] : List (Nat × Instr × Nat × Nat)).all (fun q => decide (decode cX7_init q.1 = .ok (q.2.1, q.2.2.1)) && q.2.2.2 == q.1 + q.2.2.1) = true := by decide +kernel
theorem dAX7_set_0 : ([(0, .aload_n 0, 1, 1), (1, .iconst 0, 1, 2), (2, .putfield 13, 3, 5), (5, .iload_n 1, 1, 6), (6, .istore_n 2, 1, 7), (7, .iload_n 2, 1, 8), (8, .ifCond .le 34, 3, 11), (11, .aload_n 0, 1, 12), (12, .getfield 7, 3, 15), (15, .aload_n 0, 1, 16), (16, .getfield 13, 3, 19), (19, .iload_n 2, 1, 20), (20, .ldc 17, 2, 22), (22, .iand, 1, 23), (23, .iastore, 1, 24), (24, .aload_n 0, 1, 25), (25, .dup, 1, 26), (26, .getfield 13, 3, 29), (29, .iconst 1, 1, 30), (30, .iadd, 1, 31), (31, .putfield 13, 3, 34), (34, .iload_n 2, 1, 35), (35, .bipush 16, 2, 37), (37, .iushr, 1, 38), (38, .istore_n 2, 1, 39), (39, .goto (-32), 3, 42), (42, .return_, 1, 43)] : List (Nat × Instr × Nat × Nat)).all (fun q => decide (decode cX7_set q.1 = .ok (q.2.1, q.2.2.1)) && q.2.2.2 == q.1 + q.2.2.1) = true := by decide +kernel
theorem dAX7_take_0 : ([(0, .iconst 0, 1, 1), (1, .istore_n 2, 1, 2), (2, .iload_n 2, 1, 3), (3, .aload_n 1, 1, 4), (4, .getfield 13, 3, 7), (7, .if_icmp .ge 21, 3, 10), (10, .aload_n 0, 1, 11), (11, .getfield 7, 3, 14), (14, .iload_n 2, 1, 15), (15, .aload_n 1, 1, 16), (16, .getfield 7, 3, 19), (19, .iload_n 2, 1, 20), (20, .iaload, 1, 21), (21, .iastore, 1, 22), (22, .iinc 2 1, 3, 25), (25, .goto (-23), 3, 28), (28, .aload_n 0, 1, 29), (29, .aload_n 1, 1, 30), (30, .getfield 13, 3, 33), (33, .putfield 13, 3, 36), (36, .return_, 1, 37)] : List (Nat × Instr × Nat × Nat)).all (fun q => decide (decode cX7_take q.1 = .ok (q.2.1, q.2.2.1)) && q.2.2.2 == q.1 + q.2.2.1) = true := by decide +kernel
theorem dAX7_cut_0 : ([(0, .aload_n 0, 1, 1), (1, .getfield 13, 3, 4), (4, .ifCond .le 30, 3, 7), (7, .aload_n 0, 1, 8), (8, .getfield 7, 3, 11), (11, .aload_n 0, 1, 12), (12, .getfield 13, 3, 15), (15, .iconst 1, 1, 16), (16, .isub, 1, 17), (17, .iaload, 1, 18), (18, .ifCond .ne 16, 3, 21), (21, .aload_n 0, 1, 22), (22, .dup, 1, 23), (23, .getfield 13, 3, 26), (26, .iconst 1, 1, 27), (27, .isub, 1, 28), (28, .putfield 13, 3, 31), (31, .goto (-31), 3, 34), (34, .return_, 1, 35)] : List (Nat × Instr × Nat × Nat)).all (fun q => decide (decode cX7_cut q.1 = .ok (q.2.1, q.2.2.1)) && q.2.2.2 == q.1 + q.2.2.1) = true := by decide +kernel
theorem dAX7_bits_0 : ([(0, .bipush 16, 2, 2), (2, .aload_n 0, 1, 3), (3, .getfield 13, 3, 6), (6, .imul, 1, 7), (7, .istore_n 1, 1, 8), (8, .ldc 18, 2, 10), (10, .istore_n 2, 1, 11), (11, .aload_n 0, 1, 12), (12, .getfield 13, 3, 15), (15, .ifCond .le 29, 3, 18), (18, .aload_n 0, 1, 19), (19, .getfield 7, 3, 22), (22, .aload_n 0, 1, 23), (23, .getfield 13, 3, 26), (26, .iconst 1, 1, 27), (27, .isub, 1, 28), (28, .iaload, 1, 29), (29, .iload_n 2, 1, 30), (30, .iand, 1, 31), (31, .ifCond .ne 13, 3, 34), (34, .iinc 1 (-1), 3, 37), (37, .iload_n 2, 1, 38), (38, .iconst 1, 1, 39), (39, .ishr, 1, 40), (40, .istore_n 2, 1, 41), (41, .goto (-30), 3, 44), (44, .iload_n 1, 1, 45), (45, .ireturn, 1, 46)] : List (Nat × Instr × Nat × Nat)).all (fun q => decide (decode cX7_bits q.1 = .ok (q.2.1, q.2.2.1)) && q.2.2.2 == q.1 + q.2.2.1) = true := by decide +kernel
theorem dAX7_bit_0 : ([(0, .iload_n 1, 1, 1), (1, .bipush 16, 2, 3), (3, .idiv, 1, 4), (4, .aload_n 0, 1, 5), (5, .getfield 13, 3, 8), (8, .if_icmp .ge 27, 3, 11), (11, .aload_n 0, 1, 12), (12, .getfield 7, 3, 15), (15, .iload_n 1, 1, 16), (16, .bipush 16, 2, 18), (18, .idiv, 1, 19), (19, .iaload, 1, 20), (20, .iload_n 1, 1, 21), (21, .bipush 16, 2, 23), (23, .irem, 1, 24), (24, .ishr, 1, 25), (25, .iconst 1, 1, 26), (26, .iand, 1, 27), (27, .iconst 1, 1, 28), (28, .if_icmp .ne 7, 3, 31), (31, .iconst 1, 1, 32), (32, .goto 4, 3, 35), (35, .iconst 0, 1, 36), (36, .ireturn, 1, 37)] : List (Nat × Instr × Nat × Nat)).all (fun q => decide (decode cX7_bit q.1 = .ok (q.2.1, q.2.2.1)) && q.2.2.2 == q.1 + q.2.2.1) = true := by decide +kernel
theorem dAX7_isOdd_0 : ([(0, .aload_n 0, 1, 1), (1, .getfield 13, 3, 4), (4, .ifCond .le 19, 3, 7), (7, .aload_n 0, 1, 8), (8, .getfield 7, 3, 11), (11, .iconst 0, 1, 12), (12, .iaload, 1, 13), (13, .iconst 1, 1, 14), (14, .iand, 1, 15), (15, .iconst 1, 1, 16), (16, .if_icmp .ne 7, 3, 19), (19, .iconst 1, 1, 20), (20, .goto 4, 3, 23), (23, .iconst 0, 1, 24), (24, .ireturn, 1, 25)] : List (Nat × Instr × Nat × Nat)).all (fun q => decide (decode cX7_isOdd q.1 = .ok (q.2.1, q.2.2.1)) && q.2.2.2 == q.1 + q.2.2.1) = true := by decide +kernel
theorem dAX7_is_0 : ([(0, .iload_n 1, 1, 1), (1, .ifCond .ne 18, 3, 4), (4, .aload_n 0, 1, 5), (5, .getfield 13, 3, 8), (8, .ifCond .ne 7, 3, 11), (11, .iconst 1, 1, 12), (12, .goto 30, 3, 15), (15, .iconst 0, 1, 16), (16, .goto 26, 3, 19), (19, .aload_n 0, 1, 20), (20, .getfield 13, 3, 23), (23, .iconst 1, 1, 24), (24, .if_icmp .ne 17, 3, 27), (27, .aload_n 0, 1, 28), (28, .getfield 7, 3, 31), (31, .iconst 0, 1, 32), (32, .iaload, 1, 33), (33, .iload_n 1, 1, 34), (34, .if_icmp .ne 7, 3, 37), (37, .iconst 1, 1, 38), (38, .goto 4, 3, 41), (41, .iconst 0, 1, 42), (42, .ireturn, 1, 43)] : List (Nat × Instr × Nat × Nat)).all (fun q => decide (decode cX7_is q.1 = .ok (q.2.1, q.2.2.1)) && q.2.2.2 == q.1 + q.2.2.1) = true := by decide +kernel
theorem dAX7_bytes_0 : ([(0, .aload_n 0, 1, 1), (1, .invokevirtual 19, 3, 4), (4, .bipush 7, 2, 6), (6, .iadd, 1, 7), (7, .bipush 8, 2, 9), (9, .idiv, 1, 10), (10, .ireturn, 1, 11)] : List (Nat × Instr × Nat × Nat)).all (fun q => decide (decode cX7_bytes q.1 = .ok (q.2.1, q.2.2.1)) && q.2.2.2 == q.1 + q.2.2.1) = true := by decide +kernel
theorem dAX7_compare_0 : ([(0, .aload_n 0, 1, 1), (1, .getfield 13, 3, 4), (4, .aload_n 1, 1, 5), (5, .getfield 13, 3, 8), (8, .if_icmp .eq 20, 3, 11), (11, .aload_n 0, 1, 12), (12, .getfield 13, 3, 15), (15, .aload_n 1, 1, 16), (16, .getfield 13, 3, 19), (19, .if_icmp .ge 7, 3, 22), (22, .iconst (-1), 1, 23), (23, .goto 4, 3, 26), (26, .iconst 1, 1, 27), (27, .ireturn, 1, 28), (28, .aload_n 0, 1, 29), (29, .getfield 13, 3, 32), (32, .iconst 1, 1, 33), (33, .isub, 1, 34), (34, .istore_n 2, 1, 35), (35, .iload_n 2, 1, 36), (36, .ifCond .lt 24, 3, 39), (39, .aload_n 0, 1, 40), (40, .getfield 7, 3, 43), (43, .iload_n 2, 1, 44), (44, .iaload, 1, 45), (45, .aload_n 1, 1, 46), (46, .getfield 7, 3, 49), (49, .iload_n 2, 1, 50), (50, .iaload, 1, 51), (51, .if_icmp .ne 9, 3, 54), (54, .iinc 2 (-1), 3, 57), (57, .goto (-22), 3, 60), (60, .iload_n 2, 1, 61), (61, .ifCond .ge 7, 3, 64), (64, .iconst 0, 1, 65), (65, .goto 23, 3, 68), (68, .aload_n 0, 1, 69), (69, .getfield 7, 3, 72), (72, .iload_n 2, 1, 73), (73, .iaload, 1, 74), (74, .aload_n 1, 1, 75), (75, .getfield 7, 3, 78), (78, .iload_n 2, 1, 79), (79, .iaload, 1, 80), (80, .if_icmp .ge 7, 3, 83), (83, .iconst (-1), 1, 84), (84, .goto 4, 3, 87), (87, .iconst 1, 1, 88), (88, .ireturn, 1, 89)] : List (Nat × Instr × Nat × Nat)).all (fun q => decide (decode cX7_compare q.1 = .ok (q.2.1, q.2.2.1)) && q.2.2.2 == q.1 + q.2.2.1) = true := by decide +kernel
theorem dAX7_add_0 : ([(0, .iconst 0, 1, 1), (1, .istore_n 2, 1, 2), (2, .aload_n 0, 1, 3), (3, .getfield 13, 3, 6), (6, .aload_n 1, 1, 7), (7, .getfield 13, 3, 10), (10, .if_icmp .le 10, 3, 13), (13, .aload_n 0, 1, 14), (14, .getfield 13, 3, 17), (17, .goto 7, 3, 20), (20, .aload_n 1, 1, 21), (21, .getfield 13, 3, 24), (24, .istore_n 3, 1, 25), (25, .iconst 0, 1, 26), (26, .istore 4, 2, 28), (28, .iload 4, 2, 30), (30, .iload_n 3, 1, 31), (31, .if_icmp .ge 69, 3, 34), (34, .iload_n 2, 1, 35), (35, .iload 4, 2, 37), (37, .aload_n 0, 1, 38), (38, .getfield 13, 3, 41), (41, .if_icmp .ge 13, 3, 44), (44, .aload_n 0, 1, 45), (45, .getfield 7, 3, 48), (48, .iload 4, 2, 50), (50, .iaload, 1, 51), (51, .goto 4, 3, 54), (54, .iconst 0, 1, 55), (55, .iload 4, 2, 57), (57, .aload_n 1, 1, 58), (58, .getfield 13, 3, 61), (61, .if_icmp .ge 13, 3, 64), (64, .aload_n 1, 1, 65), (65, .getfield 7, 3, 68), (68, .iload 4, 2, 70), (70, .iaload, 1, 71), (71, .goto 4, 3, 74), (74, .iconst 0, 1, 75), (75, .iadd, 1, 76), (76, .iadd, 1, 77), (77, .istore_n 2, 1, 78), (78, .aload_n 0, 1, 79), (79, .getfield 7, 3, 82), (82, .iload 4, 2, 84), (84, .iload_n 2, 1, 85), (85, .ldc 17, 2, 87), (87, .iand, 1, 88), (88, .iastore, 1, 89), (89, .iload_n 2, 1, 90), (90, .bipush 16, 2, 92), (92, .ishr, 1, 93), (93, .istore_n 2, 1, 94), (94, .iinc 4 1, 3, 97), (97, .goto (-69), 3, 100), (100, .aload_n 0, 1, 101), (101, .getfield 7, 3, 104), (104, .iload_n 3, 1, 105), (105, .iload_n 2, 1, 106), (106, .iastore, 1, 107)] : List (Nat × Instr × Nat × Nat)).all (fun q => decide (decode cX7_add q.1 = .ok (q.2.1, q.2.2.1)) && q.2.2.2 == q.1 + q.2.2.1) = true := by decide +kernel
theorem dAX7_add_1 : ([(107, .aload_n 0, 1, 108), (108, .iload_n 3, 1, 109), (109, .iconst 1, 1, 110), (110, .iadd, 1, 111), (111, .putfield 13, 3, 114), (114, .aload_n 0, 1, 115), (115, .invokevirtual 23, 3, 118), (118, .return_, 1, 119)] : List (Nat × Instr × Nat × Nat)).all (fun q => decide (decode cX7_add q.1 = .ok (q.2.1, q.2.2.1)) && q.2.2.2 == q.1 + q.2.2.1) = true := by decide +kernel
theorem dAX7_less_0 : ([(0, .iconst 0, 1, 1), (1, .istore_n 2, 1, 2), (2, .iconst 0, 1, 3), (3, .istore_n 3, 1, 4), (4, .iload_n 3, 1, 5), (5, .aload_n 0, 1, 6), (6, .getfield 13, 3, 9), (9, .if_icmp .ge 52, 3, 12), (12, .iload_n 2, 1, 13), (13, .aload_n 0, 1, 14), (14, .getfield 7, 3, 17), (17, .iload_n 3, 1, 18), (18, .iaload, 1, 19), (19, .iload_n 3, 1, 20), (20, .aload_n 1, 1, 21), (21, .getfield 13, 3, 24), (24, .if_icmp .ge 12, 3, 27), (27, .aload_n 1, 1, 28), (28, .getfield 7, 3, 31), (31, .iload_n 3, 1, 32), (32, .iaload, 1, 33), (33, .goto 4, 3, 36), (36, .iconst 0, 1, 37), (37, .isub, 1, 38), (38, .iadd, 1, 39), (39, .istore_n 2, 1, 40), (40, .aload_n 0, 1, 41), (41, .getfield 7, 3, 44), (44, .iload_n 3, 1, 45), (45, .iload_n 2, 1, 46), (46, .ldc 17, 2, 48), (48, .iand, 1, 49), (49, .iastore, 1, 50), (50, .iload_n 2, 1, 51), (51, .bipush 16, 2, 53), (53, .ishr, 1, 54), (54, .istore_n 2, 1, 55), (55, .iinc 3 1, 3, 58), (58, .goto (-54), 3, 61), (61, .aload_n 0, 1, 62), (62, .invokevirtual 23, 3, 65), (65, .return_, 1, 66)] : List (Nat × Instr × Nat × Nat)).all (fun q => decide (decode cX7_less q.1 = .ok (q.2.1, q.2.2.1)) && q.2.2.2 == q.1 + q.2.2.1) = true := by decide +kernel
theorem dAX7_product_0 : ([(0, .aload_n 0, 1, 1), (1, .aload_n 1, 1, 2), (2, .getfield 13, 3, 5), (5, .aload_n 2, 1, 6), (6, .getfield 13, 3, 9), (9, .iadd, 1, 10), (10, .putfield 13, 3, 13), (13, .iconst 0, 1, 14), (14, .istore_n 3, 1, 15), (15, .iload_n 3, 1, 16), (16, .aload_n 0, 1, 17), (17, .getfield 13, 3, 20), (20, .if_icmp .ge 16, 3, 23), (23, .aload_n 0, 1, 24), (24, .getfield 7, 3, 27), (27, .iload_n 3, 1, 28), (28, .iconst 0, 1, 29), (29, .iastore, 1, 30), (30, .iinc 3 1, 3, 33), (33, .goto (-18), 3, 36), (36, .iconst 0, 1, 37), (37, .istore_n 3, 1, 38), (38, .iload_n 3, 1, 39), (39, .aload_n 1, 1, 40), (40, .getfield 13, 3, 43), (43, .if_icmp .ge 99, 3, 46), (46, .lconst 0, 1, 47), (47, .lstore 4, 2, 49), (49, .iconst 0, 1, 50), (50, .istore 6, 2, 52), (52, .iload 6, 2, 54), (54, .aload_n 2, 1, 55), (55, .getfield 13, 3, 58), (58, .if_icmp .ge 64, 3, 61), (61, .lload 4, 2, 63), (63, .aload_n 1, 1, 64), (64, .getfield 7, 3, 67), (67, .iload_n 3, 1, 68), (68, .iaload, 1, 69), (69, .i2l, 1, 70), (70, .aload_n 2, 1, 71), (71, .getfield 7, 3, 74), (74, .iload 6, 2, 76), (76, .iaload, 1, 77), (77, .i2l, 1, 78), (78, .lmul, 1, 79), (79, .aload_n 0, 1, 80), (80, .getfield 7, 3, 83), (83, .iload_n 3, 1, 84), (84, .iload 6, 2, 86), (86, .iadd, 1, 87), (87, .iaload, 1, 88), (88, .i2l, 1, 89), (89, .ladd, 1, 90), (90, .ladd, 1, 91), (91, .lstore 4, 2, 93), (93, .aload_n 0, 1, 94), (94, .getfield 7, 3, 97), (97, .iload_n 3, 1, 98), (98, .iload 6, 2, 100)] : List (Nat × Instr × Nat × Nat)).all (fun q => decide (decode cX7_product q.1 = .ok (q.2.1, q.2.2.1)) && q.2.2.2 == q.1 + q.2.2.1) = true := by decide +kernel
theorem dAX7_product_1 : ([(100, .iadd, 1, 101), (101, .lload 4, 2, 103), (103, .ldc2_w 26, 3, 106), (106, .land, 1, 107), (107, .l2i, 1, 108), (108, .iastore, 1, 109), (109, .lload 4, 2, 111), (111, .bipush 16, 2, 113), (113, .lshr, 1, 114), (114, .lstore 4, 2, 116), (116, .iinc 6 1, 3, 119), (119, .goto (-67), 3, 122), (122, .aload_n 0, 1, 123), (123, .getfield 7, 3, 126), (126, .iload_n 3, 1, 127), (127, .aload_n 2, 1, 128), (128, .getfield 13, 3, 131), (131, .iadd, 1, 132), (132, .lload 4, 2, 134), (134, .l2i, 1, 135), (135, .iastore, 1, 136), (136, .iinc 3 1, 3, 139), (139, .goto (-101), 3, 142), (142, .aload_n 0, 1, 143), (143, .invokevirtual 23, 3, 146), (146, .return_, 1, 147)] : List (Nat × Instr × Nat × Nat)).all (fun q => decide (decode cX7_product q.1 = .ok (q.2.1, q.2.2.1)) && q.2.2.2 == q.1 + q.2.2.1) = true := by decide +kernel
theorem dAX7_half_0 : ([(0, .iconst 0, 1, 1), (1, .istore_n 1, 1, 2), (2, .iload_n 1, 1, 3), (3, .aload_n 0, 1, 4), (4, .getfield 13, 3, 7), (7, .if_icmp .ge 51, 3, 10), (10, .aload_n 0, 1, 11), (11, .getfield 7, 3, 14), (14, .iload_n 1, 1, 15), (15, .aload_n 0, 1, 16), (16, .getfield 7, 3, 19), (19, .iload_n 1, 1, 20), (20, .iaload, 1, 21), (21, .iconst 1, 1, 22), (22, .ishr, 1, 23), (23, .iload_n 1, 1, 24), (24, .iconst 1, 1, 25), (25, .iadd, 1, 26), (26, .aload_n 0, 1, 27), (27, .getfield 13, 3, 30), (30, .if_icmp .ge 19, 3, 33), (33, .aload_n 0, 1, 34), (34, .getfield 7, 3, 37), (37, .iload_n 1, 1, 38), (38, .iconst 1, 1, 39), (39, .iadd, 1, 40), (40, .iaload, 1, 41), (41, .iconst 1, 1, 42), (42, .iand, 1, 43), (43, .bipush 15, 2, 45), (45, .ishl, 1, 46), (46, .goto 4, 3, 49), (49, .iconst 0, 1, 50), (50, .ior, 1, 51), (51, .iastore, 1, 52), (52, .iinc 1 1, 3, 55), (55, .goto (-53), 3, 58), (58, .aload_n 0, 1, 59), (59, .invokevirtual 23, 3, 62), (62, .return_, 1, 63)] : List (Nat × Instr × Nat × Nat)).all (fun q => decide (decode cX7_half q.1 = .ok (q.2.1, q.2.2.1)) && q.2.2.2 == q.1 + q.2.2.1) = true := by decide +kernel
set_option maxHeartbeats 1000000 in
set_option maxRecDepth 100000 in
theorem c_X7_set (l : Launch) (w : Wl) (σ : St) (i : Nat) (hi : w.2 14 i) (hd : NDg σ i) (x : Nat) (hx : x < 65536) : Cn l yX7_set cX7_set 3 none 0 0 wN [.ref (w.1 14 i), .int (iI ((x : Int)))] w σ (fun _ σ' => NN σ' i x ∧ Fr [(11, i), (12, i)] σ σ') := by
  refine Cn.of (own := RX7) (lv := [(0, .ref (w.1 14 i)), (1, .int (iI ((x : Int))))]) (by decide +kernel) rfl (Nat.le_of_ble_eq_true rfl) rfl (fun X hX hxl hR hcl hret => ?_)
  subst hxl
  have hi2 : w.2 15 i := hcl 14 i hi (15, i) (by simp [mn, tp])
  refine v_aload_n hX 0 rfl (atL dAX7_set_0 0 rfl) ?_
  refine v_iconst hX (atL dAX7_set_0 1 rfl) ?_
  refine pf_X7_13 hX hi (atL dAX7_set_0 2 rfl) ?_
  refine v_iload_n hX 1 rfl (atL dAX7_set_0 3 rfl) ?_
  refine v_istore_n hX (i := 2) rfl (lv' := [(2, .int (iI ((x : Int)))), (0, .ref (w.1 14 i)), (1, .int (iI ((x : Int))))]) (Nat.le_of_ble_eq_true rfl) rfl (atL dAX7_set_0 4 rfl) ?_
  refine v_iload_n hX 0 rfl (atL dAX7_set_0 5 rfl) ?_
  refine v_if_le hX ⟨by omega, by omega⟩ (tgt := 42) (atL dAX7_set_0 6 rfl) (by decide) (fun h8 => ?_) (fun h8 => ?_)
  · exact v_vret hX (atL dAX7_set_0 26 rfl) (hret () _ ⟨by rw [show x = 0 by omega]; exact n_set0 hd, Fr.su (by simp)⟩)
  · refine v_aload_n hX 1 rfl (atL dAX7_set_0 7 rfl) ?_
    refine gf_X7_7 hX hi (atL dAX7_set_0 8 rfl) ?_
    refine v_aload_n hX 1 rfl (atL dAX7_set_0 9 rfl) ?_
    refine gf_X7_13 hX (v := 0) (su_s) hi (atL dAX7_set_0 10 rfl) ?_
    refine v_iload_n hX 0 rfl (atL dAX7_set_0 11 rfl) ?_
    refine v_ldc hX (r := 65535) wd_1190 (by decide +kernel) (atL dAX7_set_0 12 rfl) ?_
    refine v_iand hX (r := iI (((x : Int)) % 65536)) (iI_mask _ 16 (by decide)) (atL dAX7_set_0 13 rfl) ?_
    refine v_iast hX (c := 12) 0 hi2 (by decide) (fun _ _ => rfl) rfl (by decide) (by decide) (atL dAX7_set_0 14 rfl) ?_
    refine v_aload_n hX 1 rfl (atL dAX7_set_0 15 rfl) ?_
    refine v_dup hX rfl (atL dAX7_set_0 16 rfl) ?_
    refine gf_X7_13 hX (v := 0) ((su_c (by decide)).trans (su_s)) hi (atL dAX7_set_0 17 rfl) ?_
    refine v_iconst hX (atL dAX7_set_0 18 rfl) ?_
    refine v_iadd hX (iI_add _ _) (atL dAX7_set_0 19 rfl) ?_
    refine pf_X7_13 hX hi (atL dAX7_set_0 20 rfl) ?_
    refine v_iload_n hX 0 rfl (atL dAX7_set_0 21 rfl) ?_
    refine v_bipush hX (by decide +kernel) (atL dAX7_set_0 22 rfl) ?_
    refine v_iushr hX (r := iI ((x : Int) / 65536)) (iI_ushr (by omega) (by omega) 16 (by decide)) (atL dAX7_set_0 23 rfl) ?_
    refine v_istore_n hX (i := 2) rfl (lv' := [(2, .int (iI ((x : Int) / 65536))), (0, .ref (w.1 14 i)), (1, .int (iI ((x : Int))))]) (Nat.le_of_ble_eq_true rfl) rfl (atL dAX7_set_0 24 rfl) ?_
    refine v_goto hX (tgt := 7) (atL dAX7_set_0 25 rfl) (by decide) ?_
    refine v_iload_n hX 0 rfl (atL dAX7_set_0 5 rfl) ?_
    refine v_if_le hX ⟨by omega, by omega⟩ (tgt := 42) (atL dAX7_set_0 6 rfl) (by decide) (fun h8 => ?_) (fun h8 => absurd h8 (by omega))
    exact v_vret hX (atL dAX7_set_0 26 rfl) (hret () _ ⟨n_set1 hd (by omega) hx, ((Fr.su (by simp)).tr' (Fr.su (by simp))).tr' (Fr.su (by simp))⟩)

set_option maxHeartbeats 1000000 in
set_option maxRecDepth 100000 in
theorem c_X7_take (l : Launch) (w : Wl) (σ : St) (i : Nat) (hi : w.2 14 i) (hd : NDg σ i) (o y : Nat) (hj : w.2 14 o) (hM : NN σ o y)  : Cn l yX7_take cX7_take 3 none 0 0 wN [.ref (w.1 14 i), .ref (w.1 14 o)] w σ (fun _ σ' => NN σ' i y ∧ Fr [(11, i), (12, i)] σ σ') := by
  refine Cn.of (own := RX7) (lv := [(0, .ref (w.1 14 i)), (1, .ref (w.1 14 o))]) (by decide +kernel) rfl (Nat.le_of_ble_eq_true rfl) rfl (fun X hX hxl hR hcl hret => ?_)
  subst hxl
  have hi2 : w.2 15 i := hcl 14 i hi (15, i) (by simp [mn, tp])
  have hj2 : w.2 15 o := hcl 14 o hj (15, o) (by simp [mn, tp])
  obtain ⟨x, hx, hx8, he, hxt, hy⟩ := hM
  have loop : ∀ (d k : Nat) (s : St), k + d = x → (∀ j, j < k → s 12 i j = σ 12 o j) → (∀ j, k ≤ j → s 12 i j = σ 12 i j) → Fr [(12, i)] σ s → V X (0, 0) w 2 [(2, .int (iI ((k : Int)))), (0, .ref (w.1 14 i)), (1, .ref (w.1 14 o))] s [] := by
    intro d
    induction d with
    | zero =>
      intro k s hk h1 h2 hf
      obtain rfl : k = x := by omega
      have hs11 : s 11 o 0 = (k : Int) := by rw [hf 11 o (by simp)]; exact hx
      refine v_iload_n hX 0 rfl (atL dAX7_take_0 2 rfl) ?_
      refine v_aload_n hX 2 rfl (atL dAX7_take_0 3 rfl) ?_
      refine gf_X7_13 hX (v := (k : Int)) (hs11) hj (atL dAX7_take_0 4 rfl) ?_
      refine v_icmp_ge hX ⟨by omega, by omega⟩ ⟨by omega, by omega⟩ (tgt := 28) (atL dAX7_take_0 5 rfl) (by decide) (fun h7 => ?_) (fun h7 => absurd h7 (by omega))
      refine v_aload_n hX 1 rfl (atL dAX7_take_0 16 rfl) ?_
      refine v_aload_n hX 2 rfl (atL dAX7_take_0 17 rfl) ?_
      refine gf_X7_13 hX (v := (k : Int)) (hs11) hj (atL dAX7_take_0 18 rfl) ?_
      refine pf_X7_13 hX hi (atL dAX7_take_0 19 rfl) ?_
      have hg : ∀ j, j < k → su s 11 i 0 (k : Int) 12 i j = σ 12 o j := fun j hj => by rw [su_c (by decide)]; exact h1 j hj
      exact v_vret hX (atL dAX7_take_0 20 rfl) (hret () _ ⟨⟨k, su_s, hx8, fun j => by rw [su_c (by decide)]; rcases Nat.lt_or_ge j k with c | c; rw [h1 j c]; exact he j; rw [h2 j c]; exact hd j, fun q => by rw [hg _ (by omega)]; exact hxt q, by rw [← hy]; exact vB_congr (fun j hj => congrArg Int.toNat (hg j hj))⟩, (hf.mono (by simp)).tr' (Fr.su (by simp))⟩)
    | succ d ih =>
      intro k s hk h1 h2 hf
      have hs11 : s 11 o 0 = (x : Int) := by rw [hf 11 o (by simp)]; exact hx
      have hro : s 12 o k = σ 12 o k := by by_cases e : o = i; rw [e]; exact h2 k (Nat.le_refl k); rw [hf 12 o (by simp [e])]
      refine v_iload_n hX 0 rfl (atL dAX7_take_0 2 rfl) ?_
      refine v_aload_n hX 2 rfl (atL dAX7_take_0 3 rfl) ?_
      refine gf_X7_13 hX (v := (x : Int)) (hs11) hj (atL dAX7_take_0 4 rfl) ?_
      refine v_icmp_ge hX ⟨by omega, by omega⟩ ⟨by omega, by omega⟩ (tgt := 28) (atL dAX7_take_0 5 rfl) (by decide) (fun h7 => absurd h7 (by omega)) (fun h7 => ?_)
      refine v_aload_n hX 1 rfl (atL dAX7_take_0 6 rfl) ?_
      refine gf_X7_7 hX hi (atL dAX7_take_0 7 rfl) ?_
      refine v_iload_n hX 0 rfl (atL dAX7_take_0 8 rfl) ?_
      refine v_aload_n hX 2 rfl (atL dAX7_take_0 9 rfl) ?_
      refine gf_X7_7 hX hj (atL dAX7_take_0 10 rfl) ?_
      refine v_iload_n hX 0 rfl (atL dAX7_take_0 11 rfl) ?_
      refine v_iald hX (r := iI (σ 12 o k)) k hj2 (fun _ => rfl) rfl (by omega) (by decide) (congrArg iI (hro)) (atL dAX7_take_0 12 rfl) ?_
      refine v_iast hX (c := 12) k hi2 (by decide) (fun _ _ => rfl) rfl (by omega) (by decide) (atL dAX7_take_0 13 rfl) ?_
      refine v_iinc hX (lv' := [(2, .int (iI (((k : Int)) + 1))), (0, .ref (w.1 14 i)), (1, .ref (w.1 14 o))]) 0 rfl (iI_add _ _) (Nat.le_of_ble_eq_true rfl) rfl (atL dAX7_take_0 14 rfl) ?_
      refine v_goto hX (tgt := 2) (atL dAX7_take_0 15 rfl) (by decide) ?_
      rw [show (k : Int) + 1 = ((k + 1 : Nat) : Int) by omega]
      refine ih (k + 1) _ (by omega) (fun j hj => ?_) (fun j hj => by rw [su_j (by omega)]; exact h2 j (by omega)) (hf.tr' (Fr.su (by simp)))
      by_cases e : j = k
      · rw [e, su_s]
      · rw [su_j e]; exact h1 j (by omega)
  refine v_iconst hX (atL dAX7_take_0 0 rfl) ?_
  refine v_istore_n hX (i := 2) rfl (lv' := [(2, .int (iI (0))), (0, .ref (w.1 14 i)), (1, .ref (w.1 14 o))]) (Nat.le_of_ble_eq_true rfl) rfl (atL dAX7_take_0 1 rfl) ?_
  exact loop x 0 σ (by omega) (fun j hj => absurd hj (by omega)) (fun j _ => rfl) Fr.rf

set_option maxHeartbeats 1000000 in
set_option maxRecDepth 100000 in
theorem c_X7_cut (l : Launch) (w : Wl) (σ : St) (i : Nat) (hi : w.2 14 i) (hd : NDg σ i) (n v : Nat) (hs : σ 11 i 0 = (n : Int)) (hn : n ≤ 270) (hv : vB 65536 (fN σ i) n = v) : Cn l yX7_cut cX7_cut 1 none 0 0 wN [.ref (w.1 14 i)] w σ (fun _ σ' => NN σ' i v ∧ Fr [(11, i)] σ σ') := by
  refine Cn.of (own := RX7) (lv := [(0, .ref (w.1 14 i))]) (by decide +kernel) rfl (Nat.le_of_ble_eq_true rfl) rfl (fun X hX hxl hR hcl hret => ?_)
  subst hxl
  have hi2 : w.2 15 i := hcl 14 i hi (15, i) (by simp [mn, tp])
  have loop : ∀ (n : Nat) (s : St), n ≤ 270 → s 11 i 0 = (n : Int) → (∀ j, s 12 i j = σ 12 i j) → vB 65536 (fN σ i) n = v → Fr [(11, i)] σ s → V X (0, 0) w 0 [(0, .ref (w.1 14 i))] s [] := by
    intro n
    induction n with
    | zero =>
      intro s hn hs h12 hv hf
      refine v_aload_n hX 0 rfl (atL dAX7_cut_0 0 rfl) ?_
      refine gf_X7_13 hX (v := ((0 : Nat) : Int)) (hs) hi (atL dAX7_cut_0 1 rfl) ?_
      refine v_if_le hX ⟨by omega, by omega⟩ (tgt := 34) (atL dAX7_cut_0 2 rfl) (by decide) (fun h4 => ?_) (fun h4 => absurd h4 (by omega))
      exact v_vret hX (atL dAX7_cut_0 18 rfl) (hret () _ ⟨⟨0, hs, by omega, fun j => by rw [h12 j]; exact hd j, fun q => by omega, hv⟩, hf⟩)
    | succ n ih =>
      intro s hn hs h12 hv hf
      have hdn := hd n
      have h12n := h12 n
      refine v_aload_n hX 0 rfl (atL dAX7_cut_0 0 rfl) ?_
      refine gf_X7_13 hX (v := ((n + 1 : Nat) : Int)) (hs) hi (atL dAX7_cut_0 1 rfl) ?_
      refine v_if_le hX ⟨by omega, by omega⟩ (tgt := 34) (atL dAX7_cut_0 2 rfl) (by decide) (fun h4 => absurd h4 (by omega)) (fun h4 => ?_)
      refine v_aload_n hX 0 rfl (atL dAX7_cut_0 3 rfl) ?_
      refine gf_X7_7 hX hi (atL dAX7_cut_0 4 rfl) ?_
      refine v_aload_n hX 0 rfl (atL dAX7_cut_0 5 rfl) ?_
      refine gf_X7_13 hX (v := ((n + 1 : Nat) : Int)) (hs) hi (atL dAX7_cut_0 6 rfl) ?_
      refine v_iconst hX (atL dAX7_cut_0 7 rfl) ?_
      refine v_isub hX (iI_sub _ _) (atL dAX7_cut_0 8 rfl) ?_
      refine v_iald hX (r := iI (σ 12 i n)) n hi2 (fun _ => rfl) (by omega) (by omega) (by decide) (congrArg iI (h12n)) (atL dAX7_cut_0 9 rfl) ?_
      refine v_if_ne hX ⟨by omega, by omega⟩ (tgt := 34) (atL dAX7_cut_0 10 rfl) (by decide) (fun h18 => ?_) (fun h18 => ?_)
      · exact v_vret hX (atL dAX7_cut_0 18 rfl) (hret () _ ⟨⟨n + 1, hs, by omega, fun j => by rw [h12 j]; exact hd j, fun _ => by rw [show n + 1 - 1 = n by omega, h12n]; exact h18, by rw [← hv]; exact vB_congr (fun j _ => congrArg Int.toNat (h12 j))⟩, hf⟩)
      · refine v_aload_n hX 0 rfl (atL dAX7_cut_0 11 rfl) ?_
        refine v_dup hX rfl (atL dAX7_cut_0 12 rfl) ?_
        refine gf_X7_13 hX (v := ((n + 1 : Nat) : Int)) (hs) hi (atL dAX7_cut_0 13 rfl) ?_
        refine v_iconst hX (atL dAX7_cut_0 14 rfl) ?_
        refine v_isub hX (iI_sub _ _) (atL dAX7_cut_0 15 rfl) ?_
        refine pf_X7_13 hX hi (atL dAX7_cut_0 16 rfl) ?_
        refine v_goto hX (tgt := 0) (atL dAX7_cut_0 17 rfl) (by decide) ?_
        refine ih _ (by omega) (by rw [su_s]; omega) (fun j => by rw [su_c (by decide)]; exact h12 j) ?_ (hf.tr' (Fr.su (by simp)))
        rw [← hv]
        show _ = vB 65536 (fN σ i) n + (σ 12 i n).toNat * 65536 ^ n
        rw [show (σ 12 i n).toNat = 0 by omega, Nat.zero_mul, Nat.add_zero]
  exact loop n σ hn hs (fun j => rfl) hv Fr.rf

set_option maxHeartbeats 1000000 in
set_option maxRecDepth 100000 in
theorem c_X7_isOdd (l : Launch) (w : Wl) (σ : St) (i v : Nat) (hi : w.2 14 i) (hN : NN σ i v)  : Cn l yX7_isOdd cX7_isOdd 1 (Option.some Jvm.ClassFile.FieldType.boolean) 0 0 wI [.ref (w.1 14 i)] w σ (fun a σ' => tf a (v % 2 = 1) ∧ σ' = σ) := by
  refine Cn.of (own := RX7) (lv := [(0, .ref (w.1 14 i))]) (by decide +kernel) rfl (Nat.le_of_ble_eq_true rfl) rfl (fun X hX hxl hR hcl hret => ?_)
  subst hxl
  have hi2 : w.2 15 i := hcl 14 i hi (15, i) (by simp [mn, tp])
  obtain ⟨u, hu, hu8, hd, ht, hv⟩ := hN
  have hd0 := hd 0
  refine v_aload_n hX 0 rfl (atL dAX7_isOdd_0 0 rfl) ?_
  refine gf_X7_13 hX (v := (u : Int)) (hu) hi (atL dAX7_isOdd_0 1 rfl) ?_
  refine v_if_le hX ⟨by omega, by omega⟩ (tgt := 23) (atL dAX7_isOdd_0 2 rfl) (by decide) (fun h4 => ?_) (fun h4 => ?_)
  · refine v_iconst hX (atL dAX7_isOdd_0 13 rfl) ?_
    exact v_zret hX (by decide +kernel) (atL dAX7_isOdd_0 14 rfl) (hret _ _ ⟨tf_n (by rcases Nat.eq_zero_or_pos u with hz | hz; have := (NN_0 ht hd hv).mp hz; omega; have := NN_lo hd hv hz; omega), rfl⟩)
  · refine v_aload_n hX 0 rfl (atL dAX7_isOdd_0 3 rfl) ?_
    refine gf_X7_7 hX hi (atL dAX7_isOdd_0 4 rfl) ?_
    refine v_iconst hX (atL dAX7_isOdd_0 5 rfl) ?_
    refine v_iald hX (r := iI (σ 12 i 0)) 0 hi2 (fun _ => rfl) rfl (by decide) (by decide) (congrArg iI (rfl)) (atL dAX7_isOdd_0 6 rfl) ?_
    refine v_iconst hX (atL dAX7_isOdd_0 7 rfl) ?_
    refine v_iand hX (r := iI ((σ 12 i 0) % 2)) (iI_mask _ 1 (by decide)) (atL dAX7_isOdd_0 8 rfl) ?_
    refine v_iconst hX (atL dAX7_isOdd_0 9 rfl) ?_
    refine v_icmp_ne hX ⟨by omega, by omega⟩ ⟨by omega, by omega⟩ (tgt := 23) (atL dAX7_isOdd_0 10 rfl) (by decide) (fun h16 => ?_) (fun h16 => ?_)
    · refine v_iconst hX (atL dAX7_isOdd_0 13 rfl) ?_
      exact v_zret hX (by decide +kernel) (atL dAX7_isOdd_0 14 rfl) (hret _ _ ⟨tf_n (by rcases Nat.eq_zero_or_pos u with hz | hz; have := (NN_0 ht hd hv).mp hz; omega; have := NN_lo hd hv hz; omega), rfl⟩)
    · refine v_iconst hX (atL dAX7_isOdd_0 11 rfl) ?_
      refine v_goto hX (tgt := 24) (atL dAX7_isOdd_0 12 rfl) (by decide) ?_
      exact v_zret hX (by decide +kernel) (atL dAX7_isOdd_0 14 rfl) (hret _ _ ⟨tf_p (by have := NN_lo hd hv (by omega); omega), rfl⟩)

set_option maxHeartbeats 1000000 in
set_option maxRecDepth 100000 in
theorem c_X7_is (l : Launch) (w : Wl) (σ : St) (i v : Nat) (hi : w.2 14 i) (hN : NN σ i v) (s : Nat) (hs : s < 65536) : Cn l yX7_is cX7_is 2 (Option.some Jvm.ClassFile.FieldType.boolean) 0 0 wI [.ref (w.1 14 i), .int (iI ((s : Int)))] w σ (fun a σ' => tf a (v = s) ∧ σ' = σ) := by
  refine Cn.of (own := RX7) (lv := [(0, .ref (w.1 14 i)), (1, .int (iI ((s : Int))))]) (by decide +kernel) rfl (Nat.le_of_ble_eq_true rfl) rfl (fun X hX hxl hR hcl hret => ?_)
  subst hxl
  have hi2 : w.2 15 i := hcl 14 i hi (15, i) (by simp [mn, tp])
  obtain ⟨u, hu, hu8, hd, ht, hv⟩ := hN
  have hd0 := hd 0
  have h00 := NN_0 ht hd hv
  have hyes : ((s = 0 ∧ u = 0) ∨ (s ≠ 0 ∧ u = 1 ∧ σ 12 i 0 = (s : Int))) → v = s := by
    intro h
    rcases h with h | h
    · omega
    · obtain ⟨q0, q1, q2⟩ := h; subst q1; have := NN_1 hv; omega
  have hno : ((s = 0 ∧ u ≠ 0) ∨ (s ≠ 0 ∧ (u ≠ 1 ∨ σ 12 i 0 ≠ (s : Int)))) → ¬ v = s := by
    intro h e
    rcases Nat.lt_trichotomy u 1 with hu1 | hu1 | hu1
    · omega
    · subst hu1; have := NN_1 hv; omega
    · have := NN_2 ht hd hv (by omega); omega
  refine v_iload_n hX 1 rfl (atL dAX7_is_0 0 rfl) ?_
  refine v_if_ne hX ⟨by omega, by omega⟩ (tgt := 19) (atL dAX7_is_0 1 rfl) (by decide) (fun h1 => ?_) (fun h1 => ?_)
  · refine v_aload_n hX 0 rfl (atL dAX7_is_0 9 rfl) ?_
    refine gf_X7_13 hX (v := (u : Int)) (hu) hi (atL dAX7_is_0 10 rfl) ?_
    refine v_iconst hX (atL dAX7_is_0 11 rfl) ?_
    refine v_icmp_ne hX ⟨by omega, by omega⟩ ⟨by omega, by omega⟩ (tgt := 41) (atL dAX7_is_0 12 rfl) (by decide) (fun h24 => ?_) (fun h24 => ?_)
    · refine v_iconst hX (atL dAX7_is_0 21 rfl) ?_
      exact v_zret hX (by decide +kernel) (atL dAX7_is_0 22 rfl) (hret _ _ ⟨tf_n (hno (by omega)), rfl⟩)
    · refine v_aload_n hX 0 rfl (atL dAX7_is_0 13 rfl) ?_
      refine gf_X7_7 hX hi (atL dAX7_is_0 14 rfl) ?_
      refine v_iconst hX (atL dAX7_is_0 15 rfl) ?_
      refine v_iald hX (r := iI (σ 12 i 0)) 0 hi2 (fun _ => rfl) rfl (by decide) (by decide) (congrArg iI (rfl)) (atL dAX7_is_0 16 rfl) ?_
      refine v_iload_n hX 1 rfl (atL dAX7_is_0 17 rfl) ?_
      refine v_icmp_ne hX ⟨by omega, by omega⟩ ⟨by omega, by omega⟩ (tgt := 41) (atL dAX7_is_0 18 rfl) (by decide) (fun h34 => ?_) (fun h34 => ?_)
      · refine v_iconst hX (atL dAX7_is_0 21 rfl) ?_
        exact v_zret hX (by decide +kernel) (atL dAX7_is_0 22 rfl) (hret _ _ ⟨tf_n (hno (by omega)), rfl⟩)
      · refine v_iconst hX (atL dAX7_is_0 19 rfl) ?_
        refine v_goto hX (tgt := 42) (atL dAX7_is_0 20 rfl) (by decide) ?_
        exact v_zret hX (by decide +kernel) (atL dAX7_is_0 22 rfl) (hret _ _ ⟨tf_p (hyes (by omega)), rfl⟩)
  · refine v_aload_n hX 0 rfl (atL dAX7_is_0 2 rfl) ?_
    refine gf_X7_13 hX (v := (u : Int)) (hu) hi (atL dAX7_is_0 3 rfl) ?_
    refine v_if_ne hX ⟨by omega, by omega⟩ (tgt := 15) (atL dAX7_is_0 4 rfl) (by decide) (fun h8 => ?_) (fun h8 => ?_)
    · refine v_iconst hX (atL dAX7_is_0 7 rfl) ?_
      refine v_goto hX (tgt := 42) (atL dAX7_is_0 8 rfl) (by decide) ?_
      exact v_zret hX (by decide +kernel) (atL dAX7_is_0 22 rfl) (hret _ _ ⟨tf_n (hno (by omega)), rfl⟩)
    · refine v_iconst hX (atL dAX7_is_0 5 rfl) ?_
      refine v_goto hX (tgt := 42) (atL dAX7_is_0 6 rfl) (by decide) ?_
      exact v_zret hX (by decide +kernel) (atL dAX7_is_0 22 rfl) (hret _ _ ⟨tf_p (hyes (by omega)), rfl⟩)

set_option maxHeartbeats 1000000 in
set_option maxRecDepth 100000 in
theorem c_X7_bits (l : Launch) (w : Wl) (σ : St) (i v : Nat) (hi : w.2 14 i) (hN : NN σ i v)  : Cn l yX7_bits cX7_bits 3 (Option.some Jvm.ClassFile.FieldType.int) 0 0 wI [.ref (w.1 14 i)] w σ (fun a σ' => a = (blen v : Nat) ∧ σ' = σ) := by
  refine Cn.of (own := RX7) (lv := [(0, .ref (w.1 14 i))]) (by decide +kernel) rfl (Nat.le_of_ble_eq_true rfl) rfl (fun X hX hxl hR hcl hret => ?_)
  subst hxl
  have hi2 : w.2 15 i := hcl 14 i hi (15, i) (by simp [mn, tp])
  obtain ⟨u, hu, hu8, hd, ht, hv⟩ := hN
  have hcase : u = 0 ∨ 0 < u := by omega
  rcases hcase with hu0 | hu0
  · have hz := (NN_0 ht hd hv).mp hu0
    refine v_bipush hX (by decide +kernel) (atL dAX7_bits_0 0 rfl) ?_
    refine v_aload_n hX 0 rfl (atL dAX7_bits_0 1 rfl) ?_
    refine gf_X7_13 hX (v := (u : Int)) (hu) hi (atL dAX7_bits_0 2 rfl) ?_
    refine v_imul hX (iI_mul _ _) (atL dAX7_bits_0 3 rfl) ?_
    refine v_istore_n hX (i := 1) rfl (lv' := [(1, .int (iI (16 * ((u : Int))))), (0, .ref (w.1 14 i))]) (Nat.le_of_ble_eq_true rfl) rfl (atL dAX7_bits_0 4 rfl) ?_
    refine v_ldc hX (r := 32768) wd_1204 (by decide +kernel) (atL dAX7_bits_0 5 rfl) ?_
    refine v_istore_n hX (i := 2) rfl (lv' := [(2, .int (iI (32768))), (1, .int (iI (16 * ((u : Int))))), (0, .ref (w.1 14 i))]) (Nat.le_of_ble_eq_true rfl) rfl (atL dAX7_bits_0 6 rfl) ?_
    refine v_aload_n hX 2 rfl (atL dAX7_bits_0 7 rfl) ?_
    refine gf_X7_13 hX (v := (u : Int)) (hu) hi (atL dAX7_bits_0 8 rfl) ?_
    refine v_if_le hX ⟨by omega, by omega⟩ (tgt := 44) (atL dAX7_bits_0 9 rfl) (by decide) (fun h15 => ?_) (fun h15 => absurd h15 (by omega))
    refine v_iload_n hX 1 rfl (atL dAX7_bits_0 26 rfl) ?_
    exact v_iret hX (atL dAX7_bits_0 27 rfl) (hret _ _ ⟨by rw [hz]; show (16 : Int) * (u : Int) = 0; omega, rfl⟩)
  · have hbl := NN_bl ht hd hv hu0
    have hdu := hd (u - 1)
    have htu := ht hu0
    obtain ⟨t, hte⟩ : ∃ t : Nat, σ 12 i (u - 1) = (t : Int) := ⟨(σ 12 i (u - 1)).toNat, by omega⟩
    rw [show (σ 12 i (u - 1)).toNat = t by omega] at hbl
    have loop : ∀ (e : Nat), e ≤ 15 → t < 2 ^ (e + 1) → V X (0, 0) w 11 [(2, .int (iI (((2 ^ e : Nat) : Int)))), (1, .int (iI (((16 * (u - 1) + e + 1 : Nat) : Int)))), (0, .ref (w.1 14 i))] σ [] := by
      intro e
      induction e with
      | zero =>
        intro he hlt
        have hp : 2 ^ 0 ≤ 32768 := Nat.le_trans (Nat.pow_le_pow_right (by omega) he) (Nat.le_refl _)
        have hand := and_p2 (t := t) (m := 0) hlt
        have hpp : 0 < 2 ^ 0 := Nat.two_pow_pos _
        refine v_aload_n hX 2 rfl (atL dAX7_bits_0 7 rfl) ?_
        refine gf_X7_13 hX (v := (u : Int)) (hu) hi (atL dAX7_bits_0 8 rfl) ?_
        refine v_if_le hX ⟨by omega, by omega⟩ (tgt := 44) (atL dAX7_bits_0 9 rfl) (by decide) (fun h15 => absurd h15 (by omega)) (fun h15 => ?_)
        refine v_aload_n hX 2 rfl (atL dAX7_bits_0 10 rfl) ?_
        refine gf_X7_7 hX hi (atL dAX7_bits_0 11 rfl) ?_
        refine v_aload_n hX 2 rfl (atL dAX7_bits_0 12 rfl) ?_
        refine gf_X7_13 hX (v := (u : Int)) (hu) hi (atL dAX7_bits_0 13 rfl) ?_
        refine v_iconst hX (atL dAX7_bits_0 14 rfl) ?_
        refine v_isub hX (iI_sub _ _) (atL dAX7_bits_0 15 rfl) ?_
        refine v_iald hX (r := iI ((t : Int))) ((u - 1)) hi2 (fun _ => rfl) (by omega) (by omega) (by decide) (congrArg iI (hte)) (atL dAX7_bits_0 16 rfl) ?_
        refine v_iload_n hX 0 rfl (atL dAX7_bits_0 17 rfl) ?_
        refine v_iand hX (r := iI (((t &&& 2 ^ 0 : Nat) : Int))) (iI_and16 (by omega) (by omega)) (atL dAX7_bits_0 18 rfl) ?_
        obtain ⟨aa, haa⟩ : ∃ q, t &&& 2 ^ 0 = q := ⟨_, rfl⟩
        rw [haa] at hand ⊢
        have haa2 : aa ≤ 32768 := by rw [hand]; split <;> omega
        refine v_if_ne hX ⟨by omega, by omega⟩ (tgt := 44) (atL dAX7_bits_0 19 rfl) (by decide) (fun h31 => ?_) (fun h31 => absurd h31 (by rw [if_neg (by omega)] at hand; omega))
        refine v_iload_n hX 1 rfl (atL dAX7_bits_0 26 rfl) ?_
        exact v_iret hX (atL dAX7_bits_0 27 rfl) (hret _ _ ⟨by rw [hbl, blen_of (v := t) (k := 0) (by rcases Nat.lt_or_ge t (2 ^ 0) with c | c; rw [if_pos c] at hand; omega; exact c) hlt]; omega, rfl⟩)
      | succ e ih =>
        intro he hlt
        have hp : 2 ^ (e + 1) ≤ 32768 := Nat.le_trans (Nat.pow_le_pow_right (by omega) he) (Nat.le_refl _)
        have hand := and_p2 (t := t) (m := (e + 1)) hlt
        have hpp : 0 < 2 ^ (e + 1) := Nat.two_pow_pos _
        refine v_aload_n hX 2 rfl (atL dAX7_bits_0 7 rfl) ?_
        refine gf_X7_13 hX (v := (u : Int)) (hu) hi (atL dAX7_bits_0 8 rfl) ?_
        refine v_if_le hX ⟨by omega, by omega⟩ (tgt := 44) (atL dAX7_bits_0 9 rfl) (by decide) (fun h15 => absurd h15 (by omega)) (fun h15 => ?_)
        refine v_aload_n hX 2 rfl (atL dAX7_bits_0 10 rfl) ?_
        refine gf_X7_7 hX hi (atL dAX7_bits_0 11 rfl) ?_
        refine v_aload_n hX 2 rfl (atL dAX7_bits_0 12 rfl) ?_
        refine gf_X7_13 hX (v := (u : Int)) (hu) hi (atL dAX7_bits_0 13 rfl) ?_
        refine v_iconst hX (atL dAX7_bits_0 14 rfl) ?_
        refine v_isub hX (iI_sub _ _) (atL dAX7_bits_0 15 rfl) ?_
        refine v_iald hX (r := iI ((t : Int))) ((u - 1)) hi2 (fun _ => rfl) (by omega) (by omega) (by decide) (congrArg iI (hte)) (atL dAX7_bits_0 16 rfl) ?_
        refine v_iload_n hX 0 rfl (atL dAX7_bits_0 17 rfl) ?_
        refine v_iand hX (r := iI (((t &&& 2 ^ (e + 1) : Nat) : Int))) (iI_and16 (by omega) (by omega)) (atL dAX7_bits_0 18 rfl) ?_
        obtain ⟨aa, haa⟩ : ∃ q, t &&& 2 ^ (e + 1) = q := ⟨_, rfl⟩
        rw [haa] at hand ⊢
        have haa2 : aa ≤ 32768 := by rw [hand]; split <;> omega
        have h2e : 2 ^ (e + 1) = 2 ^ e * 2 := Nat.pow_succ 2 e
        refine v_if_ne hX ⟨by omega, by omega⟩ (tgt := 44) (atL dAX7_bits_0 19 rfl) (by decide) (fun h31 => ?_) (fun h31 => ?_)
        · refine v_iload_n hX 1 rfl (atL dAX7_bits_0 26 rfl) ?_
          exact v_iret hX (atL dAX7_bits_0 27 rfl) (hret _ _ ⟨by rw [hbl, blen_of (v := t) (k := (e + 1)) (by rcases Nat.lt_or_ge t (2 ^ (e + 1)) with c | c; rw [if_pos c] at hand; omega; exact c) hlt]; omega, rfl⟩)
        · refine v_iinc hX (lv' := [(1, .int (iI ((((16 * (u - 1) + (e + 1) + 1 : Nat) : Int)) + (-1)))), (2, .int (iI (((2 ^ (e + 1) : Nat) : Int)))), (0, .ref (w.1 14 i))]) 1 rfl (iI_add _ _) (Nat.le_of_ble_eq_true rfl) rfl (atL dAX7_bits_0 20 rfl) ?_
          refine v_iload_n hX 1 rfl (atL dAX7_bits_0 21 rfl) ?_
          refine v_iconst hX (atL dAX7_bits_0 22 rfl) ?_
          refine v_ishr hX (r := iI ((((2 ^ (e + 1) : Nat) : Int)) / 2)) (iI_shr ⟨by omega, by omega⟩ 1 (by decide)) (atL dAX7_bits_0 23 rfl) ?_
          rw [show ((((2 ^ (e + 1) : Nat) : Int)) / 2) = ((2 ^ e : Nat) : Int) from (by omega)]
          refine v_istore_n hX (i := 2) rfl (lv' := [(2, .int (iI (((2 ^ e : Nat) : Int)))), (1, .int (iI ((((16 * (u - 1) + (e + 1) + 1 : Nat) : Int)) + (-1)))), (0, .ref (w.1 14 i))]) (Nat.le_of_ble_eq_true rfl) rfl (atL dAX7_bits_0 24 rfl) ?_
          refine v_goto hX (tgt := 11) (atL dAX7_bits_0 25 rfl) (by decide) ?_
          refine v_sub (lv' := [(2, .int (iI (((2 ^ e : Nat) : Int)))), (1, .int (iI ((((16 * (u - 1) + (e + 1) + 1 : Nat) : Int)) + (-1)))), (0, .ref (w.1 14 i))]) [0, 1, 2] rfl ?_
          rw [show ((16 * (u - 1) + (e + 1) + 1 : Nat) : Int) + (-1) = ((16 * (u - 1) + e + 1 : Nat) : Int) by omega]
          exact ih (by omega) (by rcases Nat.lt_or_ge t (2 ^ (e + 1)) with c | c; exact c; rw [if_neg (by omega)] at hand; omega)
    refine v_bipush hX (by decide +kernel) (atL dAX7_bits_0 0 rfl) ?_
    refine v_aload_n hX 0 rfl (atL dAX7_bits_0 1 rfl) ?_
    refine gf_X7_13 hX (v := (u : Int)) (hu) hi (atL dAX7_bits_0 2 rfl) ?_
    refine v_imul hX (iI_mul _ _) (atL dAX7_bits_0 3 rfl) ?_
    refine v_istore_n hX (i := 1) rfl (lv' := [(1, .int (iI (16 * ((u : Int))))), (0, .ref (w.1 14 i))]) (Nat.le_of_ble_eq_true rfl) rfl (atL dAX7_bits_0 4 rfl) ?_
    refine v_ldc hX (r := 32768) wd_1204 (by decide +kernel) (atL dAX7_bits_0 5 rfl) ?_
    refine v_istore_n hX (i := 2) rfl (lv' := [(2, .int (iI (32768))), (1, .int (iI (16 * ((u : Int))))), (0, .ref (w.1 14 i))]) (Nat.le_of_ble_eq_true rfl) rfl (atL dAX7_bits_0 6 rfl) ?_
    refine v_sub (lv' := [(2, .int (iI (32768))), (1, .int (iI (16 * ((u : Int))))), (0, .ref (w.1 14 i))]) [0, 1, 2] rfl ?_
    rw [show (16 : Int) * (u : Int) = ((16 * (u - 1) + 15 + 1 : Nat) : Int) by omega, show (32768 : Int) = ((2 ^ 15 : Nat) : Int) from rfl]
    exact loop 15 (by omega) (by omega)

set_option maxHeartbeats 1000000 in
set_option maxRecDepth 100000 in
theorem c_X7_bytes (l : Launch) (w : Wl) (σ : St) (i v : Nat) (hi : w.2 14 i) (hN : NN σ i v)  : Cn l yX7_bytes cX7_bytes 1 (Option.some Jvm.ClassFile.FieldType.int) 1 22 wI [.ref (w.1 14 i)] w σ (fun a σ' => a = ((nby v : Nat) : Int) ∧ σ' = σ) := by
  refine Cn.of (own := RX7) (lv := [(0, .ref (w.1 14 i))]) (by decide +kernel) rfl (Nat.le_of_ble_eq_true rfl) rfl (fun X hX hxl hR hcl hret => ?_)
  subst hxl
  have hi2 : w.2 15 i := hcl 14 i hi (15, i) (by simp [mn, tp])
  refine v_aload_n hX 0 rfl (atL dAX7_bytes_0 0 rfl) ?_
  refine v_callV hX (As := []) (rest := []) (c_X7_bits (xl X) w σ i v hi hN) lk_X7_19 hi (fun _ => rfl) rfl rfl rfl (by rw [hR]; exact ⟨Nat.le_of_ble_eq_true rfl, Nat.le_of_ble_eq_true rfl⟩) ⟨Nat.zero_le _, Nat.zero_le _⟩ rfl (Nat.le_of_ble_eq_true rfl) (atL dAX7_bytes_0 1 rfl) (fun r1 s1 h1 => ?_)
  obtain ⟨hr1, hs1⟩ := h1
  rw [hs1]
  subst hr1
  have hbl : blen v ≤ 4320 := blen_le hN.le
  show V X _ w _ _ σ [.int (iI ((blen v : Nat)))]
  refine v_bipush hX (by decide +kernel) (atL dAX7_bytes_0 2 rfl) ?_
  refine v_iadd hX (iI_add _ _) (atL dAX7_bytes_0 3 rfl) ?_
  refine v_bipush hX (by decide +kernel) (atL dAX7_bytes_0 4 rfl) ?_
  refine v_idiv hX (fun e0 => absurd ((iI_eq (b := 0) ⟨by omega, by omega⟩ ⟨by omega, by omega⟩).mp e0) (by omega)) (iI_div (by omega) (by omega) (by omega) (by omega)) (atL dAX7_bytes_0 5 rfl) ?_
  exact v_iret hX (atL dAX7_bytes_0 6 rfl) (hret _ _ ⟨by unfold nby; omega, rfl⟩)

set_option maxHeartbeats 1000000 in
set_option maxRecDepth 100000 in
theorem c_X7_bit (l : Launch) (w : Wl) (σ : St) (i v : Nat) (hi : w.2 14 i) (hN : NN σ i v) (m : Nat) (hm : m < 100000) : Cn l yX7_bit cX7_bit 2 (Option.some Jvm.ClassFile.FieldType.boolean) 0 0 wI [.ref (w.1 14 i), .int (iI ((m : Int)))] w σ (fun a σ' => tf a (v / 2 ^ m % 2 = 1) ∧ σ' = σ) := by
  refine Cn.of (own := RX7) (lv := [(0, .ref (w.1 14 i)), (1, .int (iI ((m : Int))))]) (by decide +kernel) rfl (Nat.le_of_ble_eq_true rfl) rfl (fun X hX hxl hR hcl hret => ?_)
  subst hxl
  have hi2 : w.2 15 i := hcl 14 i hi (15, i) (by simp [mn, tp])
  obtain ⟨u, hu, hu8, hd, ht, hv⟩ := hN
  refine v_iload_n hX 1 rfl (atL dAX7_bit_0 0 rfl) ?_
  refine v_bipush hX (by decide +kernel) (atL dAX7_bit_0 1 rfl) ?_
  refine v_idiv hX (fun e0 => absurd ((iI_eq (b := 0) ⟨by omega, by omega⟩ ⟨by omega, by omega⟩).mp e0) (by omega)) (iI_div (by omega) (by omega) (by omega) (by omega)) (atL dAX7_bit_0 2 rfl) ?_
  refine v_aload_n hX 0 rfl (atL dAX7_bit_0 3 rfl) ?_
  refine gf_X7_13 hX (v := (u : Int)) (hu) hi (atL dAX7_bit_0 4 rfl) ?_
  have hq := NN_dig hd hv (m / 16)
  have hbd := n_bit_dig v m
  obtain ⟨dq, hdq⟩ : ∃ q, v / 65536 ^ (m / 16) % 65536 = q := ⟨_, rfl⟩
  have hdl : v / 65536 ^ (m / 16) % 65536 < 65536 := Nat.mod_lt _ (by omega)
  rw [hdq] at hq hbd hdl
  obtain ⟨bq, hbq⟩ : ∃ q, v / 2 ^ m % 2 = q := ⟨_, rfl⟩
  rw [hbq] at hbd
  have hgoal : ∀ a : Int, tf a (bq = 1) → tf a (v / 2 ^ m % 2 = 1) := fun a ha => by rw [hbq]; exact ha
  refine v_icmp_ge hX ⟨by omega, by omega⟩ ⟨by omega, by omega⟩ (tgt := 35) (atL dAX7_bit_0 5 rfl) (by decide) (fun h8 => ?_) (fun h8 => ?_)
  · refine v_iconst hX (atL dAX7_bit_0 22 rfl) ?_
    exact v_zret hX (by decide +kernel) (atL dAX7_bit_0 23 rfl) (hret _ _ ⟨hgoal _ (tf_n (by rw [if_neg (by omega)] at hq; have hz : dq = 0 := (by omega); rw [hz, Nat.zero_div] at hbd; omega)), rfl⟩)
  · refine v_aload_n hX 0 rfl (atL dAX7_bit_0 6 rfl) ?_
    refine gf_X7_7 hX hi (atL dAX7_bit_0 7 rfl) ?_
    refine v_iload_n hX 1 rfl (atL dAX7_bit_0 8 rfl) ?_
    refine v_bipush hX (by decide +kernel) (atL dAX7_bit_0 9 rfl) ?_
    refine v_idiv hX (fun e0 => absurd ((iI_eq (b := 0) ⟨by omega, by omega⟩ ⟨by omega, by omega⟩).mp e0) (by omega)) (iI_div (by omega) (by omega) (by omega) (by omega)) (atL dAX7_bit_0 10 rfl) ?_
    refine v_iald hX (r := iI ((dq : Int))) ((m / 16)) hi2 (fun _ => rfl) (by omega) (by omega) (by decide) (congrArg iI (by rw [← hq, if_pos (by omega)])) (atL dAX7_bit_0 11 rfl) ?_
    refine v_iload_n hX 1 rfl (atL dAX7_bit_0 12 rfl) ?_
    refine v_bipush hX (by decide +kernel) (atL dAX7_bit_0 13 rfl) ?_
    refine v_irem hX (fun e0 => absurd ((iI_eq (b := 0) ⟨by omega, by omega⟩ ⟨by omega, by omega⟩).mp e0) (by omega)) (iI_rem (by omega) (by omega) (by omega) (by omega)) (atL dAX7_bit_0 14 rfl) ?_
    have hdv : dq / 2 ^ (m % 16) ≤ dq := Nat.div_le_self _ _
    refine v_ishr hX (r := iI (((dq / 2 ^ (m % 16) : Nat) : Int))) (by rw [show (m : Int) % 16 = ((m % 16 : Nat) : Int) by omega, iI_shr ⟨by omega, by omega⟩ (m % 16) (by omega), ← Int.natCast_ediv]) (atL dAX7_bit_0 15 rfl) ?_
    refine v_iconst hX (atL dAX7_bit_0 16 rfl) ?_
    refine v_iand hX (r := iI ((((dq / 2 ^ (m % 16) : Nat) : Int)) % 2)) (iI_mask _ 1 (by decide)) (atL dAX7_bit_0 17 rfl) ?_
    refine v_iconst hX (atL dAX7_bit_0 18 rfl) ?_
    refine v_icmp_ne hX ⟨by omega, by omega⟩ ⟨by omega, by omega⟩ (tgt := 35) (atL dAX7_bit_0 19 rfl) (by decide) (fun h28 => ?_) (fun h28 => ?_)
    · refine v_iconst hX (atL dAX7_bit_0 22 rfl) ?_
      exact v_zret hX (by decide +kernel) (atL dAX7_bit_0 23 rfl) (hret _ _ ⟨hgoal _ (tf_n (by omega)), rfl⟩)
    · refine v_iconst hX (atL dAX7_bit_0 20 rfl) ?_
      refine v_goto hX (tgt := 36) (atL dAX7_bit_0 21 rfl) (by decide) ?_
      exact v_zret hX (by decide +kernel) (atL dAX7_bit_0 23 rfl) (hret _ _ ⟨hgoal _ (tf_p (by omega)), rfl⟩)
