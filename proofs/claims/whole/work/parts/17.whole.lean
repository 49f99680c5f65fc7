theorem dAX5_init_0 : ([(0, .aload_n 0, 1, 1), (1, .invokespecial 3, 3, 4), (4, .aload_n 0, 1, 5), (5, .bipush 80, 2, 7), (7, .newarray .long, 2, 9), (9, .putfield 9, 3, 12), (12, .aload_n 0, 1, 13), (13, .iconst 0, 1, 14), (14, .putfield 13, 3, 17), (17, .return_, 1, 18)] : List (Nat × Instr × Nat × Nat)).all (fun q => decide (decode cX5_init q.1 = .ok (q.2.1, q.2.2.1)) && q.2.2.2 == q.1 + q.2.2.1) = true := by decide +kernel
theorem dAX5_isZero_0 : ([(0, .aload_n 0, 1, 1), (1, .getfield 13, 3, 4), (4, .ifCond .ne 7, 3, 7), (7, .iconst 1, 1, 8), (8, .goto 4, 3, 11), (11, .iconst 0, 1, 12), (12, .ireturn, 1, 13)] : List (Nat × Instr × Nat × Nat)).all (fun q => decide (decode cX5_isZero q.1 = .ok (q.2.1, q.2.2.1)) && q.2.2.2 == q.1 + q.2.2.1) = true := by decide +kernel
theorem dAX5_isOdd_0 : ([(0, .aload_n 0, 1, 1), (1, .getfield 13, 3, 4), (4, .ifCond .le 20, 3, 7), (7, .aload_n 0, 1, 8), (8, .getfield 9, 3, 11), (11, .iconst 0, 1, 12), (12, .laload, 1, 13), (13, .lconst 1, 1, 14), (14, .land, 1, 15), (15, .lconst 1, 1, 16), (16, .lcmp, 1, 17), (17, .ifCond .ne 7, 3, 20), (20, .iconst 1, 1, 21), (21, .goto 4, 3, 24), (24, .iconst 0, 1, 25), (25, .ireturn, 1, 26)] : List (Nat × Instr × Nat × Nat)).all (fun q => decide (decode cX5_isOdd q.1 = .ok (q.2.1, q.2.2.1)) && q.2.2.2 == q.1 + q.2.2.1) = true := by decide +kernel
theorem dAX5_isSmall_0 : ([(0, .aload_n 0, 1, 1), (1, .getfield 13, 3, 4), (4, .iconst 1, 1, 5), (5, .if_icmp .ne 19, 3, 8), (8, .aload_n 0, 1, 9), (9, .getfield 9, 3, 12), (12, .iconst 0, 1, 13), (13, .laload, 1, 14), (14, .iload_n 1, 1, 15), (15, .i2l, 1, 16), (16, .lcmp, 1, 17), (17, .ifCond .ne 7, 3, 20), (20, .iconst 1, 1, 21), (21, .goto 4, 3, 24), (24, .iconst 0, 1, 25), (25, .ireturn, 1, 26)] : List (Nat × Instr × Nat × Nat)).all (fun q => decide (decode cX5_isSmall q.1 = .ok (q.2.1, q.2.2.1)) && q.2.2.2 == q.1 + q.2.2.1) = true := by decide +kernel
theorem dAX5_limbAt_0 : ([(0, .iload_n 1, 1, 1), (1, .ifCond .lt 26, 3, 4), (4, .iload_n 1, 1, 5), (5, .aload_n 0, 1, 6), (6, .getfield 13, 3, 9), (9, .if_icmp .ge 18, 3, 12), (12, .iload_n 1, 1, 13), (13, .bipush 80, 2, 15), (15, .if_icmp .ge 12, 3, 18), (18, .aload_n 0, 1, 19), (19, .getfield 9, 3, 22), (22, .iload_n 1, 1, 23), (23, .laload, 1, 24), (24, .goto 4, 3, 27), (27, .lconst 0, 1, 28), (28, .lreturn, 1, 29)] : List (Nat × Instr × Nat × Nat)).all (fun q => decide (decode cX5_limbAt q.1 = .ok (q.2.1, q.2.2.1)) && q.2.2.2 == q.1 + q.2.2.1) = true := by decide +kernel
theorem dAX5_bitLength_0 : ([(0, .aload_n 0, 1, 1), (1, .getfield 13, 3, 4), (4, .ifCond .ne 5, 3, 7), (7, .iconst 0, 1, 8), (8, .ireturn, 1, 9), (9, .aload_n 0, 1, 10), (10, .getfield 13, 3, 13), (13, .iconst 1, 1, 14), (14, .isub, 1, 15), (15, .bipush 28, 2, 17), (17, .imul, 1, 18), (18, .aload_n 0, 1, 19), (19, .aload_n 0, 1, 20), (20, .getfield 13, 3, 23), (23, .iconst 1, 1, 24), (24, .isub, 1, 25), (25, .invokevirtual 17, 3, 28), (28, .invokestatic 21, 3, 31), (31, .iadd, 1, 32), (32, .ireturn, 1, 33)] : List (Nat × Instr × Nat × Nat)).all (fun q => decide (decode cX5_bitLength q.1 = .ok (q.2.1, q.2.2.1)) && q.2.2.2 == q.1 + q.2.2.1) = true := by decide +kernel
theorem dAX5_byteLength_0 : ([(0, .aload_n 0, 1, 1), (1, .invokevirtual 25, 3, 4), (4, .bipush 7, 2, 6), (6, .iadd, 1, 7), (7, .bipush 8, 2, 9), (9, .idiv, 1, 10), (10, .ireturn, 1, 11)] : List (Nat × Instr × Nat × Nat)).all (fun q => decide (decode cX5_byteLength q.1 = .ok (q.2.1, q.2.2.1)) && q.2.2.2 == q.1 + q.2.2.1) = true := by decide +kernel
theorem dAX5_hasBit_0 : ([(0, .iload_n 1, 1, 1), (1, .ifCond .lt 27, 3, 4), (4, .aload_n 0, 1, 5), (5, .iload_n 1, 1, 6), (6, .bipush 28, 2, 8), (8, .idiv, 1, 9), (9, .invokevirtual 17, 3, 12), (12, .iload_n 1, 1, 13), (13, .bipush 28, 2, 15), (15, .irem, 1, 16), (16, .lshr, 1, 17), (17, .lconst 1, 1, 18), (18, .land, 1, 19), (19, .lconst 1, 1, 20), (20, .lcmp, 1, 21), (21, .ifCond .ne 7, 3, 24), (24, .iconst 1, 1, 25), (25, .goto 4, 3, 28), (28, .iconst 0, 1, 29), (29, .ireturn, 1, 30)] : List (Nat × Instr × Nat × Nat)).all (fun q => decide (decode cX5_hasBit q.1 = .ok (q.2.1, q.2.2.1)) && q.2.2.2 == q.1 + q.2.2.1) = true := by decide +kernel
theorem dAX5_widthOf_0 : ([(0, .bipush 28, 2, 2), (2, .istore_n 2, 1, 3), (3, .iload_n 2, 1, 4), (4, .ifCond .le 21, 3, 7), (7, .lload_n 0, 1, 8), (8, .iload_n 2, 1, 9), (9, .iconst 1, 1, 10), (10, .isub, 1, 11), (11, .lshr, 1, 12), (12, .lconst 0, 1, 13), (13, .lcmp, 1, 14), (14, .ifCond .eq 5, 3, 17), (17, .iload_n 2, 1, 18), (18, .ireturn, 1, 19), (19, .iinc 2 (-1), 3, 22), (22, .goto (-19), 3, 25), (25, .iconst 0, 1, 26), (26, .ireturn, 1, 27)] : List (Nat × Instr × Nat × Nat)).all (fun q => decide (decode cX5_widthOf q.1 = .ok (q.2.1, q.2.2.1)) && q.2.2.2 == q.1 + q.2.2.1) = true := by decide +kernel
theorem dAX5_order_0 : ([(0, .aload_n 0, 1, 1), (1, .getfield 13, 3, 4), (4, .aload_n 1, 1, 5), (5, .getfield 13, 3, 8), (8, .if_icmp .eq 20, 3, 11), (11, .aload_n 0, 1, 12), (12, .getfield 13, 3, 15), (15, .aload_n 1, 1, 16), (16, .getfield 13, 3, 19), (19, .if_icmp .ge 7, 3, 22), (22, .iconst (-1), 1, 23), (23, .goto 4, 3, 26), (26, .iconst 1, 1, 27), (27, .ireturn, 1, 28), (28, .aload_n 0, 1, 29), (29, .getfield 13, 3, 32), (32, .iconst 1, 1, 33), (33, .isub, 1, 34), (34, .istore_n 2, 1, 35), (35, .iload_n 2, 1, 36), (36, .ifCond .lt 42, 3, 39), (39, .aload_n 0, 1, 40), (40, .iload_n 2, 1, 41), (41, .invokevirtual 17, 3, 44), (44, .lstore_n 3, 1, 45), (45, .aload_n 1, 1, 46), (46, .iload_n 2, 1, 47), (47, .invokevirtual 17, 3, 50), (50, .lstore 5, 2, 52), (52, .lload_n 3, 1, 53), (53, .lload 5, 2, 55), (55, .lcmp, 1, 56), (56, .ifCond .eq 16, 3, 59), (59, .lload_n 3, 1, 60), (60, .lload 5, 2, 62), (62, .lcmp, 1, 63), (63, .ifCond .ge 7, 3, 66), (66, .iconst (-1), 1, 67), (67, .goto 4, 3, 70), (70, .iconst 1, 1, 71), (71, .ireturn, 1, 72), (72, .iinc 2 (-1), 3, 75), (75, .goto (-40), 3, 78), (78, .iconst 0, 1, 79), (79, .ireturn, 1, 80)] : List (Nat × Instr × Nat × Nat)).all (fun q => decide (decode cX5_order q.1 = .ok (q.2.1, q.2.2.1)) && q.2.2.2 == q.1 + q.2.2.1) = true := by decide +kernel
theorem dAX5_trim_0 : ([(0, .iload_n 1, 1, 1), (1, .bipush 80, 2, 3), (3, .if_icmp .ge 7, 3, 6), (6, .iload_n 1, 1, 7), (7, .goto 5, 3, 10), (10, .bipush 80, 2, 12), (12, .istore_n 2, 1, 13), (13, .iload_n 2, 1, 14), (14, .ifCond .le 28, 3, 17), (17, .aload_n 0, 1, 18), (18, .getfield 9, 3, 21), (21, .iload_n 2, 1, 22), (22, .iconst 1, 1, 23), (23, .isub, 1, 24), (24, .laload, 1, 25), (25, .lconst 0, 1, 26), (26, .lcmp, 1, 27), (27, .ifCond .eq 9, 3, 30), (30, .aload_n 0, 1, 31), (31, .iload_n 2, 1, 32), (32, .putfield 13, 3, 35), (35, .return_, 1, 36), (36, .iinc 2 (-1), 3, 39), (39, .goto (-26), 3, 42), (42, .aload_n 0, 1, 43), (43, .iconst 0, 1, 44), (44, .putfield 13, 3, 47), (47, .return_, 1, 48)] : List (Nat × Instr × Nat × Nat)).all (fun q => decide (decode cX5_trim q.1 = .ok (q.2.1, q.2.2.1)) && q.2.2.2 == q.1 + q.2.2.1) = true := by decide +kernel
theorem dAX5_setSmall_0 : ([(0, .aload_n 0, 1, 1), (1, .getfield 9, 3, 4), (4, .iconst 0, 1, 5), (5, .lload_n 1, 1, 6), (6, .lastore, 1, 7), (7, .aload_n 0, 1, 8), (8, .iconst 1, 1, 9), (9, .invokevirtual 29, 3, 12), (12, .return_, 1, 13)] : List (Nat × Instr × Nat × Nat)).all (fun q => decide (decode cX5_setSmall q.1 = .ok (q.2.1, q.2.2.1)) && q.2.2.2 == q.1 + q.2.2.1) = true := by decide +kernel
theorem dAX5_set_0 : ([(0, .aload_n 1, 1, 1), (1, .getfield 13, 3, 4), (4, .bipush 80, 2, 6), (6, .if_icmp .ge 10, 3, 9), (9, .aload_n 1, 1, 10), (10, .getfield 13, 3, 13), (13, .goto 5, 3, 16), (16, .bipush 80, 2, 18), (18, .istore_n 2, 1, 19), (19, .iconst 0, 1, 20), (20, .istore_n 3, 1, 21), (21, .iload_n 3, 1, 22), (22, .iload_n 2, 1, 23), (23, .if_icmp .ge 21, 3, 26), (26, .aload_n 0, 1, 27), (27, .getfield 9, 3, 30), (30, .iload_n 3, 1, 31), (31, .aload_n 1, 1, 32), (32, .getfield 9, 3, 35), (35, .iload_n 3, 1, 36), (36, .laload, 1, 37), (37, .lastore, 1, 38), (38, .iinc 3 1, 3, 41), (41, .goto (-20), 3, 44), (44, .aload_n 0, 1, 45), (45, .iload_n 2, 1, 46), (46, .putfield 13, 3, 49), (49, .return_, 1, 50)] : List (Nat × Instr × Nat × Nat)).all (fun q => decide (decode cX5_set q.1 = .ok (q.2.1, q.2.2.1)) && q.2.2.2 == q.1 + q.2.2.1) = true := by decide +kernel
theorem dAX5_read_0 : ([(0, .lconst 0, 1, 1), (1, .lstore_n 2, 1, 2), (2, .iconst 0, 1, 3), (3, .istore 4, 2, 5), (5, .iconst 0, 1, 6), (6, .istore 5, 2, 8), (8, .aload_n 1, 1, 9), (9, .getfield 33, 3, 12), (12, .iconst 1, 1, 13), (13, .isub, 1, 14), (14, .istore 6, 2, 16), (16, .iload 6, 2, 18), (18, .ifCond .lt 62, 3, 21), (21, .lload_n 2, 1, 22), (22, .aload_n 1, 1, 23), (23, .iload 6, 2, 25), (25, .invokevirtual 38, 3, 28), (28, .i2l, 1, 29), (29, .iload 4, 2, 31), (31, .lshl, 1, 32), (32, .lor, 1, 33), (33, .lstore_n 2, 1, 34), (34, .iinc 4 8, 3, 37), (37, .iload 4, 2, 39), (39, .bipush 28, 2, 41), (41, .if_icmp .lt 33, 3, 44), (44, .iload 5, 2, 46), (46, .bipush 79, 2, 48), (48, .if_icmp .ge 26, 3, 51), (51, .aload_n 0, 1, 52), (52, .getfield 9, 3, 55), (55, .iload 5, 2, 57), (57, .lload_n 2, 1, 58), (58, .ldc2_w 42, 3, 61), (61, .land, 1, 62), (62, .lastore, 1, 63), (63, .iinc 5 1, 3, 66), (66, .lload_n 2, 1, 67), (67, .bipush 28, 2, 69), (69, .lshr, 1, 70), (70, .lstore_n 2, 1, 71), (71, .iinc 4 (-28), 3, 74), (74, .iinc 6 (-1), 3, 77), (77, .goto (-61), 3, 80), (80, .aload_n 0, 1, 81), (81, .getfield 9, 3, 84), (84, .iload 5, 2, 86), (86, .lload_n 2, 1, 87), (87, .lastore, 1, 88), (88, .aload_n 0, 1, 89), (89, .iload 5, 2, 91), (91, .iconst 1, 1, 92), (92, .iadd, 1, 93), (93, .invokevirtual 29, 3, 96), (96, .return_, 1, 97)] : List (Nat × Instr × Nat × Nat)).all (fun q => decide (decode cX5_read q.1 = .ok (q.2.1, q.2.2.1)) && q.2.2.2 == q.1 + q.2.2.1) = true := by decide +kernel
theorem dAX5_write_0 : ([(0, .aload_n 1, 1, 1), (1, .iconst 0, 1, 2), (2, .putfield 33, 3, 5), (5, .iload_n 2, 1, 6), (6, .iconst 1, 1, 7), (7, .isub, 1, 8), (8, .istore_n 3, 1, 9), (9, .iload_n 3, 1, 10), (10, .ifCond .lt 64, 3, 13), (13, .bipush 8, 2, 15), (15, .iload_n 3, 1, 16), (16, .imul, 1, 17), (17, .bipush 28, 2, 19), (19, .idiv, 1, 20), (20, .istore 4, 2, 22), (22, .bipush 8, 2, 24), (24, .iload_n 3, 1, 25), (25, .imul, 1, 26), (26, .bipush 28, 2, 28), (28, .irem, 1, 29), (29, .istore 5, 2, 31), (31, .aload_n 0, 1, 32), (32, .iload 4, 2, 34), (34, .invokevirtual 17, 3, 37), (37, .iload 5, 2, 39), (39, .lshr, 1, 40), (40, .aload_n 0, 1, 41), (41, .iload 4, 2, 43), (43, .iconst 1, 1, 44), (44, .iadd, 1, 45), (45, .invokevirtual 17, 3, 48), (48, .bipush 28, 2, 50), (50, .iload 5, 2, 52), (52, .isub, 1, 53), (53, .lshl, 1, 54), (54, .lor, 1, 55), (55, .lstore 6, 2, 57), (57, .aload_n 1, 1, 58), (58, .lload 6, 2, 60), (60, .ldc2_w 44, 3, 63), (63, .land, 1, 64), (64, .l2i, 1, 65), (65, .invokevirtual 46, 3, 68), (68, .iinc 3 (-1), 3, 71), (71, .goto (-62), 3, 74), (74, .return_, 1, 75)] : List (Nat × Instr × Nat × Nat)).all (fun q => decide (decode cX5_write q.1 = .ok (q.2.1, q.2.2.1)) && q.2.2.2 == q.1 + q.2.2.1) = true := by decide +kernel
theorem dAX5_addSmall_0 : ([(0, .iload_n 1, 1, 1), (1, .i2l, 1, 2), (2, .lstore_n 2, 1, 3), (3, .aload_n 0, 1, 4), (4, .getfield 13, 3, 7), (7, .istore 4, 2, 9), (9, .iconst 0, 1, 10), (10, .istore 5, 2, 12), (12, .iload 5, 2, 14), (14, .iload 4, 2, 16), (16, .if_icmp .ge 45, 3, 19), (19, .lload_n 2, 1, 20), (20, .lconst 0, 1, 21), (21, .lcmp, 1, 22), (22, .ifCond .eq 39, 3, 25), (25, .aload_n 0, 1, 26), (26, .getfield 9, 3, 29), (29, .iload 5, 2, 31), (31, .laload, 1, 32), (32, .lload_n 2, 1, 33), (33, .ladd, 1, 34), (34, .lstore 6, 2, 36), (36, .aload_n 0, 1, 37), (37, .getfield 9, 3, 40), (40, .iload 5, 2, 42), (42, .lload 6, 2, 44), (44, .ldc2_w 42, 3, 47), (47, .land, 1, 48), (48, .lastore, 1, 49), (49, .lload 6, 2, 51), (51, .bipush 28, 2, 53), (53, .lshr, 1, 54), (54, .lstore_n 2, 1, 55), (55, .iinc 5 1, 3, 58), (58, .goto (-46), 3, 61), (61, .lload_n 2, 1, 62), (62, .lconst 0, 1, 63), (63, .lcmp, 1, 64), (64, .ifCond .eq 26, 3, 67), (67, .iload 4, 2, 69), (69, .bipush 80, 2, 71), (71, .if_icmp .ge 19, 3, 74), (74, .aload_n 0, 1, 75), (75, .getfield 9, 3, 78), (78, .iload 4, 2, 80), (80, .lload_n 2, 1, 81), (81, .lastore, 1, 82), (82, .aload_n 0, 1, 83), (83, .iload 4, 2, 85), (85, .iconst 1, 1, 86), (86, .iadd, 1, 87), (87, .putfield 13, 3, 90), (90, .return_, 1, 91)] : List (Nat × Instr × Nat × Nat)).all (fun q => decide (decode cX5_addSmall q.1 = .ok (q.2.1, q.2.2.1)) && q.2.2.2 == q.1 + q.2.2.1) = true := by decide +kernel
theorem dAX5_setSum_0 : ([(0, .aload_n 1, 1, 1), (1, .getfield 13, 3, 4), (4, .aload_n 2, 1, 5), (5, .getfield 13, 3, 8), (8, .if_icmp .le 10, 3, 11), (11, .aload_n 1, 1, 12), (12, .getfield 13, 3, 15), (15, .goto 7, 3, 18), (18, .aload_n 2, 1, 19), (19, .getfield 13, 3, 22), (22, .istore_n 3, 1, 23), (23, .lconst 0, 1, 24), (24, .lstore 4, 2, 26), (26, .iconst 0, 1, 27), (27, .istore 6, 2, 29), (29, .iload 6, 2, 31), (31, .iload_n 3, 1, 32), (32, .if_icmp .ge 47, 3, 35), (35, .aload_n 1, 1, 36), (36, .iload 6, 2, 38), (38, .invokevirtual 17, 3, 41), (41, .aload_n 2, 1, 42), (42, .iload 6, 2, 44), (44, .invokevirtual 17, 3, 47), (47, .ladd, 1, 48), (48, .lload 4, 2, 50), (50, .ladd, 1, 51), (51, .lstore 7, 2, 53), (53, .aload_n 0, 1, 54), (54, .getfield 9, 3, 57), (57, .iload 6, 2, 59), (59, .lload 7, 2, 61), (61, .ldc2_w 42, 3, 64), (64, .land, 1, 65), (65, .lastore, 1, 66), (66, .lload 7, 2, 68), (68, .bipush 28, 2, 70), (70, .lshr, 1, 71), (71, .lstore 4, 2, 73), (73, .iinc 6 1, 3, 76), (76, .goto (-47), 3, 79), (79, .iload_n 3, 1, 80), (80, .bipush 80, 2, 82), (82, .if_icmp .ge 11, 3, 85), (85, .aload_n 0, 1, 86), (86, .getfield 9, 3, 89), (89, .iload_n 3, 1, 90), (90, .lload 4, 2, 92), (92, .lastore, 1, 93), (93, .aload_n 0, 1, 94), (94, .iload_n 3, 1, 95), (95, .iconst 1, 1, 96), (96, .iadd, 1, 97), (97, .invokevirtual 29, 3, 100), (100, .return_, 1, 101)] : List (Nat × Instr × Nat × Nat)).all (fun q => decide (decode cX5_setSum q.1 = .ok (q.2.1, q.2.2.1)) && q.2.2.2 == q.1 + q.2.2.1) = true := by decide +kernel
theorem dAX5_setDifference_0 : ([(0, .aload_n 1, 1, 1), (1, .getfield 13, 3, 4), (4, .istore_n 3, 1, 5), (5, .lconst 0, 1, 6), (6, .lstore 4, 2, 8), (8, .iconst 0, 1, 9), (9, .istore 6, 2, 11), (11, .iload 6, 2, 13), (13, .iload_n 3, 1, 14), (14, .if_icmp .ge 47, 3, 17), (17, .aload_n 1, 1, 18), (18, .iload 6, 2, 20), (20, .invokevirtual 17, 3, 23), (23, .aload_n 2, 1, 24), (24, .iload 6, 2, 26), (26, .invokevirtual 17, 3, 29), (29, .lsub, 1, 30), (30, .lload 4, 2, 32), (32, .ladd, 1, 33), (33, .lstore 7, 2, 35), (35, .aload_n 0, 1, 36), (36, .getfield 9, 3, 39), (39, .iload 6, 2, 41), (41, .lload 7, 2, 43), (43, .ldc2_w 42, 3, 46), (46, .land, 1, 47), (47, .lastore, 1, 48), (48, .lload 7, 2, 50), (50, .bipush 28, 2, 52), (52, .lshr, 1, 53), (53, .lstore 4, 2, 55), (55, .iinc 6 1, 3, 58), (58, .goto (-47), 3, 61), (61, .aload_n 0, 1, 62), (62, .iload_n 3, 1, 63), (63, .invokevirtual 29, 3, 66), (66, .return_, 1, 67)] : List (Nat × Instr × Nat × Nat)).all (fun q => decide (decode cX5_setDifference q.1 = .ok (q.2.1, q.2.2.1)) && q.2.2.2 == q.1 + q.2.2.1) = true := by decide +kernel
theorem dAX5_setLess_0 : ([(0, .aload_n 1, 1, 1), (1, .getfield 13, 3, 4), (4, .istore_n 2, 1, 5), (5, .ldc2_w 49, 3, 8), (8, .lstore_n 3, 1, 9), (9, .iconst 0, 1, 10), (10, .istore 5, 2, 12), (12, .iload 5, 2, 14), (14, .iload_n 2, 1, 15), (15, .if_icmp .ge 38, 3, 18), (18, .aload_n 1, 1, 19), (19, .iload 5, 2, 21), (21, .invokevirtual 17, 3, 24), (24, .lload_n 3, 1, 25), (25, .ladd, 1, 26), (26, .lstore 6, 2, 28), (28, .aload_n 0, 1, 29), (29, .getfield 9, 3, 32), (32, .iload 5, 2, 34), (34, .lload 6, 2, 36), (36, .ldc2_w 42, 3, 39), (39, .land, 1, 40), (40, .lastore, 1, 41), (41, .lload 6, 2, 43), (43, .bipush 28, 2, 45), (45, .lshr, 1, 46), (46, .lstore_n 3, 1, 47), (47, .iinc 5 1, 3, 50), (50, .goto (-38), 3, 53), (53, .aload_n 0, 1, 54), (54, .iload_n 2, 1, 55), (55, .invokevirtual 29, 3, 58), (58, .return_, 1, 59)] : List (Nat × Instr × Nat × Nat)).all (fun q => decide (decode cX5_setLess q.1 = .ok (q.2.1, q.2.2.1)) && q.2.2.2 == q.1 + q.2.2.1) = true := by decide +kernel
theorem dAX5_setProduct_0 : ([(0, .aload_n 1, 1, 1), (1, .getfield 13, 3, 4), (4, .aload_n 2, 1, 5), (5, .getfield 13, 3, 8), (8, .iadd, 1, 9), (9, .istore_n 3, 1, 10), (10, .aload_n 0, 1, 11), (11, .iconst 0, 1, 12), (12, .putfield 13, 3, 15), (15, .aload_n 1, 1, 16), (16, .getfield 13, 3, 19), (19, .ifCond .eq 16, 3, 22), (22, .aload_n 2, 1, 23), (23, .getfield 13, 3, 26), (26, .ifCond .eq 9, 3, 29), (29, .iload_n 3, 1, 30), (30, .bipush 80, 2, 32), (32, .if_icmp .le 4, 3, 35), (35, .return_, 1, 36), (36, .aload_n 1, 1, 37), (37, .getfield 9, 3, 40), (40, .astore 4, 2, 42), (42, .aload_n 2, 1, 43), (43, .getfield 9, 3, 46), (46, .astore 5, 2, 48), (48, .lconst 0, 1, 49), (49, .lstore 6, 2, 51), (51, .iconst 0, 1, 52), (52, .istore 8, 2, 54), (54, .iload 8, 2, 56), (56, .iload_n 3, 1, 57), (57, .iconst 1, 1, 58), (58, .isub, 1, 59), (59, .if_icmp .ge 111, 3, 62), (62, .iload 8, 2, 64), (64, .aload_n 2, 1, 65), (65, .getfield 13, 3, 68), (68, .if_icmp .ge 7, 3, 71), (71, .iconst 0, 1, 72), (72, .goto 12, 3, 75), (75, .iload 8, 2, 77), (77, .aload_n 2, 1, 78), (78, .getfield 13, 3, 81), (81, .isub, 1, 82), (82, .iconst 1, 1, 83), (83, .iadd, 1, 84), (84, .istore 9, 2, 86), (86, .iload 8, 2, 88), (88, .aload_n 1, 1, 89), (89, .getfield 13, 3, 92), (92, .if_icmp .ge 8, 3, 95), (95, .iload 8, 2, 97), (97, .goto 9, 3, 100), (100, .aload_n 1, 1, 101), (101, .getfield 13, 3, 104), (104, .iconst 1, 1, 105), (105, .isub, 1, 106), (106, .istore 10, 2, 108), (108, .iload 9, 2, 110), (110, .istore 11, 2, 112)] : List (Nat × Instr × Nat × Nat)).all (fun q => decide (decode cX5_setProduct q.1 = .ok (q.2.1, q.2.2.1)) && q.2.2.2 == q.1 + q.2.2.1) = true := by decide +kernel
theorem dAX5_setProduct_1 : ([(112, .iload 11, 2, 114), (114, .iload 10, 2, 116), (116, .if_icmp .gt 28, 3, 119), (119, .lload 6, 2, 121), (121, .aload 4, 2, 123), (123, .iload 11, 2, 125), (125, .laload, 1, 126), (126, .aload 5, 2, 128), (128, .iload 8, 2, 130), (130, .iload 11, 2, 132), (132, .isub, 1, 133), (133, .laload, 1, 134), (134, .lmul, 1, 135), (135, .ladd, 1, 136), (136, .lstore 6, 2, 138), (138, .iinc 11 1, 3, 141), (141, .goto (-29), 3, 144), (144, .aload_n 0, 1, 145), (145, .getfield 9, 3, 148), (148, .iload 8, 2, 150), (150, .lload 6, 2, 152), (152, .ldc2_w 42, 3, 155), (155, .land, 1, 156), (156, .lastore, 1, 157), (157, .lload 6, 2, 159), (159, .bipush 28, 2, 161), (161, .lshr, 1, 162), (162, .lstore 6, 2, 164), (164, .iinc 8 1, 3, 167), (167, .goto (-113), 3, 170), (170, .aload_n 0, 1, 171), (171, .getfield 9, 3, 174), (174, .iload_n 3, 1, 175), (175, .iconst 1, 1, 176), (176, .isub, 1, 177), (177, .lload 6, 2, 179), (179, .lastore, 1, 180), (180, .aload_n 0, 1, 181), (181, .iload_n 3, 1, 182), (182, .invokevirtual 29, 3, 185), (185, .return_, 1, 186)] : List (Nat × Instr × Nat × Nat)).all (fun q => decide (decode cX5_setProduct q.1 = .ok (q.2.1, q.2.2.1)) && q.2.2.2 == q.1 + q.2.2.1) = true := by decide +kernel
theorem dAX5_setSquare_0 : ([(0, .iconst 2, 1, 1), (1, .aload_n 1, 1, 2), (2, .getfield 13, 3, 5), (5, .imul, 1, 6), (6, .istore_n 2, 1, 7), (7, .aload_n 0, 1, 8), (8, .iconst 0, 1, 9), (9, .putfield 13, 3, 12), (12, .iload_n 2, 1, 13), (13, .ifCond .eq 9, 3, 16), (16, .iload_n 2, 1, 17), (17, .bipush 80, 2, 19), (19, .if_icmp .le 4, 3, 22), (22, .return_, 1, 23), (23, .aload_n 1, 1, 24), (24, .getfield 9, 3, 27), (27, .astore_n 3, 1, 28), (28, .lconst 0, 1, 29), (29, .lstore 4, 2, 31), (31, .iconst 0, 1, 32), (32, .istore 6, 2, 34), (34, .iload 6, 2, 36), (36, .iload_n 2, 1, 37), (37, .iconst 1, 1, 38), (38, .isub, 1, 39), (39, .if_icmp .ge 128, 3, 42), (42, .iload 6, 2, 44), (44, .aload_n 1, 1, 45), (45, .getfield 13, 3, 48), (48, .if_icmp .ge 7, 3, 51), (51, .iconst 0, 1, 52), (52, .goto 12, 3, 55), (55, .iload 6, 2, 57), (57, .aload_n 1, 1, 58), (58, .getfield 13, 3, 61), (61, .isub, 1, 62), (62, .iconst 1, 1, 63), (63, .iadd, 1, 64), (64, .istore 7, 2, 66), (66, .lconst 0, 1, 67), (67, .lstore 8, 2, 69), (69, .iload 7, 2, 71), (71, .istore 10, 2, 73), (73, .iload 10, 2, 75), (75, .iload 6, 2, 77), (77, .iload 10, 2, 79), (79, .isub, 1, 80), (80, .if_icmp .ge 26, 3, 83), (83, .lload 8, 2, 85), (85, .aload_n 3, 1, 86), (86, .iload 10, 2, 88), (88, .laload, 1, 89), (89, .aload_n 3, 1, 90), (90, .iload 6, 2, 92), (92, .iload 10, 2, 94), (94, .isub, 1, 95), (95, .laload, 1, 96), (96, .lmul, 1, 97), (97, .ladd, 1, 98), (98, .lstore 8, 2, 100)] : List (Nat × Instr × Nat × Nat)).all (fun q => decide (decode cX5_setSquare q.1 = .ok (q.2.1, q.2.2.1)) && q.2.2.2 == q.1 + q.2.2.1) = true := by decide +kernel
theorem dAX5_setSquare_1 : ([(100, .iinc 10 1, 3, 103), (103, .goto (-30), 3, 106), (106, .lload 8, 2, 108), (108, .lload 8, 2, 110), (110, .lload 4, 2, 112), (112, .ladd, 1, 113), (113, .ladd, 1, 114), (114, .lstore 8, 2, 116), (116, .iload 6, 2, 118), (118, .iconst 2, 1, 119), (119, .irem, 1, 120), (120, .ifCond .ne 21, 3, 123), (123, .lload 8, 2, 125), (125, .aload_n 3, 1, 126), (126, .iload 6, 2, 128), (128, .iconst 2, 1, 129), (129, .idiv, 1, 130), (130, .laload, 1, 131), (131, .aload_n 3, 1, 132), (132, .iload 6, 2, 134), (134, .iconst 2, 1, 135), (135, .idiv, 1, 136), (136, .laload, 1, 137), (137, .lmul, 1, 138), (138, .ladd, 1, 139), (139, .lstore 8, 2, 141), (141, .aload_n 0, 1, 142), (142, .getfield 9, 3, 145), (145, .iload 6, 2, 147), (147, .lload 8, 2, 149), (149, .ldc2_w 42, 3, 152), (152, .land, 1, 153), (153, .lastore, 1, 154), (154, .lload 8, 2, 156), (156, .bipush 28, 2, 158), (158, .lshr, 1, 159), (159, .lstore 4, 2, 161), (161, .iinc 6 1, 3, 164), (164, .goto (-130), 3, 167), (167, .aload_n 0, 1, 168), (168, .getfield 9, 3, 171), (171, .iload_n 2, 1, 172), (172, .iconst 1, 1, 173), (173, .isub, 1, 174), (174, .lload 4, 2, 176), (176, .lastore, 1, 177), (177, .aload_n 0, 1, 178), (178, .iload_n 2, 1, 179), (179, .invokevirtual 29, 3, 182), (182, .return_, 1, 183)] : List (Nat × Instr × Nat × Nat)).all (fun q => decide (decode cX5_setSquare q.1 = .ok (q.2.1, q.2.2.1)) && q.2.2.2 == q.1 + q.2.2.1) = true := by decide +kernel
theorem dAX5_shiftUp_0 : ([(0, .aload_n 1, 1, 1), (1, .getfield 13, 3, 4), (4, .bipush 80, 2, 6), (6, .if_icmp .ge 10, 3, 9), (9, .aload_n 1, 1, 10), (10, .getfield 13, 3, 13), (13, .goto 5, 3, 16), (16, .bipush 79, 2, 18), (18, .istore_n 3, 1, 19), (19, .lconst 0, 1, 20), (20, .lstore 4, 2, 22), (22, .iconst 0, 1, 23), (23, .istore 6, 2, 25), (25, .iload 6, 2, 27), (27, .iload_n 3, 1, 28), (28, .if_icmp .ge 43, 3, 31), (31, .aload_n 1, 1, 32), (32, .getfield 9, 3, 35), (35, .iload 6, 2, 37), (37, .laload, 1, 38), (38, .iload_n 2, 1, 39), (39, .lshl, 1, 40), (40, .lload 4, 2, 42), (42, .lor, 1, 43), (43, .lstore 7, 2, 45), (45, .aload_n 0, 1, 46), (46, .getfield 9, 3, 49), (49, .iload 6, 2, 51), (51, .lload 7, 2, 53), (53, .ldc2_w 42, 3, 56), (56, .land, 1, 57), (57, .lastore, 1, 58), (58, .lload 7, 2, 60), (60, .bipush 28, 2, 62), (62, .lshr, 1, 63), (63, .lstore 4, 2, 65), (65, .iinc 6 1, 3, 68), (68, .goto (-43), 3, 71), (71, .aload_n 0, 1, 72), (72, .getfield 9, 3, 75), (75, .iload_n 3, 1, 76), (76, .lload 4, 2, 78), (78, .lastore, 1, 79), (79, .aload_n 0, 1, 80), (80, .lload 4, 2, 82), (82, .lconst 0, 1, 83), (83, .lcmp, 1, 84), (84, .ifCond .ne 7, 3, 87), (87, .iload_n 3, 1, 88), (88, .goto 6, 3, 91), (91, .iload_n 3, 1, 92), (92, .iconst 1, 1, 93), (93, .iadd, 1, 94), (94, .putfield 13, 3, 97), (97, .return_, 1, 98)] : List (Nat × Instr × Nat × Nat)).all (fun q => decide (decode cX5_shiftUp q.1 = .ok (q.2.1, q.2.2.1)) && q.2.2.2 == q.1 + q.2.2.1) = true := by decide +kernel
theorem dAX5_shiftDown_0 : ([(0, .iload_n 2, 1, 1), (1, .bipush 28, 2, 3), (3, .idiv, 1, 4), (4, .istore_n 3, 1, 5), (5, .iload_n 2, 1, 6), (6, .bipush 28, 2, 8), (8, .irem, 1, 9), (9, .istore 4, 2, 11), (11, .aload_n 1, 1, 12), (12, .getfield 13, 3, 15), (15, .iload_n 3, 1, 16), (16, .isub, 1, 17), (17, .istore 5, 2, 19), (19, .iconst 0, 1, 20), (20, .istore 6, 2, 22), (22, .iload 6, 2, 24), (24, .iload 5, 2, 26), (26, .if_icmp .ge 49, 3, 29), (29, .aload_n 1, 1, 30), (30, .iload 6, 2, 32), (32, .iload_n 3, 1, 33), (33, .iadd, 1, 34), (34, .invokevirtual 17, 3, 37), (37, .aload_n 1, 1, 38), (38, .iload 6, 2, 40), (40, .iload_n 3, 1, 41), (41, .iadd, 1, 42), (42, .iconst 1, 1, 43), (43, .iadd, 1, 44), (44, .invokevirtual 17, 3, 47), (47, .bipush 28, 2, 49), (49, .lshl, 1, 50), (50, .lor, 1, 51), (51, .lstore 7, 2, 53), (53, .aload_n 0, 1, 54), (54, .getfield 9, 3, 57), (57, .iload 6, 2, 59), (59, .lload 7, 2, 61), (61, .iload 4, 2, 63), (63, .lshr, 1, 64), (64, .ldc2_w 42, 3, 67), (67, .land, 1, 68), (68, .lastore, 1, 69), (69, .iinc 6 1, 3, 72), (72, .goto (-50), 3, 75), (75, .aload_n 0, 1, 76), (76, .iload 5, 2, 78), (78, .invokevirtual 29, 3, 81), (81, .return_, 1, 82)] : List (Nat × Instr × Nat × Nat)).all (fun q => decide (decode cX5_shiftDown q.1 = .ok (q.2.1, q.2.2.1)) && q.2.2.2 == q.1 + q.2.2.1) = true := by decide +kernel
theorem dAX5_restBySmall_0 : ([(0, .lconst 0, 1, 1), (1, .lstore_n 2, 1, 2), (2, .aload_n 0, 1, 3), (3, .getfield 13, 3, 6), (6, .iconst 1, 1, 7), (7, .isub, 1, 8), (8, .istore 4, 2, 10), (10, .iload 4, 2, 12), (12, .ifCond .lt 28, 3, 15), (15, .iload_n 1, 1, 16), (16, .ifCond .le 24, 3, 19), (19, .lload_n 2, 1, 20), (20, .bipush 28, 2, 22), (22, .lshl, 1, 23), (23, .aload_n 0, 1, 24), (24, .iload 4, 2, 26), (26, .invokevirtual 17, 3, 29), (29, .lor, 1, 30), (30, .iload_n 1, 1, 31), (31, .i2l, 1, 32), (32, .lrem, 1, 33), (33, .lstore_n 2, 1, 34), (34, .iinc 4 (-1), 3, 37), (37, .goto (-27), 3, 40), (40, .lload_n 2, 1, 41), (41, .lreturn, 1, 42)] : List (Nat × Instr × Nat × Nat)).all (fun q => decide (decode cX5_restBySmall q.1 = .ok (q.2.1, q.2.2.1)) && q.2.2.2 == q.1 + q.2.2.1) = true := by decide +kernel
theorem dAX5_zeroBits_0 : ([(0, .aload_n 0, 1, 1), (1, .invokevirtual 25, 3, 4), (4, .istore_n 1, 1, 5), (5, .iconst 0, 1, 6), (6, .istore_n 2, 1, 7), (7, .iload_n 2, 1, 8), (8, .iload_n 1, 1, 9), (9, .if_icmp .ge 19, 3, 12), (12, .aload_n 0, 1, 13), (13, .iload_n 2, 1, 14), (14, .invokevirtual 51, 3, 17), (17, .ifCond .eq 5, 3, 20), (20, .iload_n 2, 1, 21), (21, .ireturn, 1, 22), (22, .iinc 2 1, 3, 25), (25, .goto (-18), 3, 28), (28, .iconst 0, 1, 29), (29, .ireturn, 1, 30)] : List (Nat × Instr × Nat × Nat)).all (fun q => decide (decode cX5_zeroBits q.1 = .ok (q.2.1, q.2.2.1)) && q.2.2.2 == q.1 + q.2.2.1) = true := by decide +kernel
set_option maxHeartbeats 4000000 in
set_option maxRecDepth 100000 in
theorem c_X5_isZero (l : Launch) (w : Wl) (σ : St) (i v : Nat) (hi : w.2 3 i) (hN : WN σ i v) : Cn l yX5_isZero cX5_isZero 1 (Option.some Jvm.ClassFile.FieldType.boolean) 0 0 wI [.ref (w.1 3 i)] w σ (fun a σ' => a = (if v = 0 then 1 else 0) ∧ σ' = σ) := by
  refine Cn.of (own := RX5) (lv := [(0, .ref (w.1 3 i))]) (by decide +kernel) rfl (Nat.le_of_ble_eq_true rfl) rfl (fun X hX hxl hR hcl hret => ?_)
  subst hxl
  have hi2 : w.2 4 i := hcl 3 i hi (4, i) (by simp [mn, tp])
  obtain ⟨u, hu, hu8, hd, ht, hv⟩ := hN
  have h0 := WN_0 ht hd hv
  refine v_aload_n hX 0 rfl (atL dAX5_isZero_0 0 rfl) ?_
  refine gf_X5_13 hX (v := (u : Int)) (hu) hi (atL dAX5_isZero_0 1 rfl) ?_
  refine v_if_ne hX ⟨by omega, by omega⟩ (tgt := 11) (atL dAX5_isZero_0 2 rfl) (by decide) (fun h4 => ?_) (fun h4 => ?_)
  · refine v_iconst hX (atL dAX5_isZero_0 5 rfl) ?_
    exact v_zret hX (by decide +kernel) (atL dAX5_isZero_0 6 rfl) (hret _ _ ⟨by rw [if_neg (fun h => h4 (by have := h0.mpr h; omega))], rfl⟩)
  · refine v_iconst hX (atL dAX5_isZero_0 3 rfl) ?_
    refine v_goto hX (tgt := 12) (atL dAX5_isZero_0 4 rfl) (by decide) ?_
    exact v_zret hX (by decide +kernel) (atL dAX5_isZero_0 6 rfl) (hret _ _ ⟨by rw [if_pos (h0.mp (by omega))], rfl⟩)

set_option maxHeartbeats 4000000 in
set_option maxRecDepth 100000 in
theorem c_X5_isOdd (l : Launch) (w : Wl) (σ : St) (i v : Nat) (hi : w.2 3 i) (hN : WN σ i v) : Cn l yX5_isOdd cX5_isOdd 1 (Option.some Jvm.ClassFile.FieldType.boolean) 0 0 wI [.ref (w.1 3 i)] w σ (fun a σ' => a = (if v % 2 = 1 then 1 else 0) ∧ σ' = σ) := by
  refine Cn.of (own := RX5) (lv := [(0, .ref (w.1 3 i))]) (by decide +kernel) rfl (Nat.le_of_ble_eq_true rfl) rfl (fun X hX hxl hR hcl hret => ?_)
  subst hxl
  have hi2 : w.2 4 i := hcl 3 i hi (4, i) (by simp [mn, tp])
  obtain ⟨u, hu, hu8, hd, ht, hv⟩ := hN
  have hd0 := hd 0
  refine v_aload_n hX 0 rfl (atL dAX5_isOdd_0 0 rfl) ?_
  refine gf_X5_13 hX (v := (u : Int)) (hu) hi (atL dAX5_isOdd_0 1 rfl) ?_
  refine v_if_le hX ⟨by omega, by omega⟩ (tgt := 24) (atL dAX5_isOdd_0 2 rfl) (by decide) (fun h4 => ?_) (fun h4 => ?_)
  · refine v_iconst hX (atL dAX5_isOdd_0 14 rfl) ?_
    exact v_zret hX (by decide +kernel) (atL dAX5_isOdd_0 15 rfl) (hret _ _ ⟨by rw [if_neg (by rcases Nat.eq_zero_or_pos u with hz | hz; have := (WN_0 ht hd hv).mp hz; omega; have := WN_lo hd hv hz; omega)], rfl⟩)
  · refine v_aload_n hX 0 rfl (atL dAX5_isOdd_0 3 rfl) ?_
    refine gf_X5_9 hX hi (atL dAX5_isOdd_0 4 rfl) ?_
    refine v_iconst hX (atL dAX5_isOdd_0 5 rfl) ?_
    refine v_lald hX (r := jI (σ 3 i 0)) 0 hi2 (fun _ => rfl) rfl (by decide) (by decide) (congrArg jI (rfl)) (atL dAX5_isOdd_0 6 rfl) ?_
    refine v_lconst hX (atL dAX5_isOdd_0 7 rfl) ?_
    show V X _ w _ _ _ (.long (jI (1)) :: _)
    refine v_land hX (jI_mask _ 1 (by decide) : _ = jI ((σ 3 i 0) % 2)) (atL dAX5_isOdd_0 8 rfl) ?_
    refine v_lconst hX (atL dAX5_isOdd_0 9 rfl) ?_
    show V X _ w _ _ _ (.long (jI (1)) :: _)
    refine v_lcmp_ne hX ⟨by omega, by omega⟩ ⟨by omega, by omega⟩ (atL dAX5_isOdd_0 10 rfl) (tgt := 24) (atL dAX5_isOdd_0 11 rfl) (by decide) (fun h16 => ?_) (fun h16 => ?_)
    · refine v_iconst hX (atL dAX5_isOdd_0 14 rfl) ?_
      exact v_zret hX (by decide +kernel) (atL dAX5_isOdd_0 15 rfl) (hret _ _ ⟨by rw [if_neg (by rcases Nat.eq_zero_or_pos u with hz | hz; have := (WN_0 ht hd hv).mp hz; omega; have := WN_lo hd hv hz; omega)], rfl⟩)
    · refine v_iconst hX (atL dAX5_isOdd_0 12 rfl) ?_
      refine v_goto hX (tgt := 25) (atL dAX5_isOdd_0 13 rfl) (by decide) ?_
      exact v_zret hX (by decide +kernel) (atL dAX5_isOdd_0 15 rfl) (hret _ _ ⟨by rw [if_pos (by have := WN_lo hd hv (by omega); omega)], rfl⟩)

set_option maxHeartbeats 4000000 in
set_option maxRecDepth 100000 in
theorem c_X5_isSmall (l : Launch) (w : Wl) (σ : St) (i v : Nat) (hi : w.2 3 i) (hN : WN σ i v) (s : Nat) (hs0 : 0 < s) (hs : s < 268435456) : Cn l yX5_isSmall cX5_isSmall 2 (Option.some Jvm.ClassFile.FieldType.boolean) 0 0 wI [.ref (w.1 3 i), .int (iI ((s : Int)))] w σ (fun a σ' => a = (if v = s then 1 else 0) ∧ σ' = σ) := by
  refine Cn.of (own := RX5) (lv := [(0, .ref (w.1 3 i)), (1, .int (iI ((s : Int))))]) (by decide +kernel) rfl (Nat.le_of_ble_eq_true rfl) rfl (fun X hX hxl hR hcl hret => ?_)
  subst hxl
  have hi2 : w.2 4 i := hcl 3 i hi (4, i) (by simp [mn, tp])
  obtain ⟨u, hu, hu8, hd, ht, hv⟩ := hN
  have hd0 := hd 0
  have hyes : u = 1 → σ 3 i 0 = (s : Int) → v = s := by intro h1 h2; subst h1; have := WN_1 hv; omega
  have hno : (u ≠ 1 ∨ σ 3 i 0 ≠ (s : Int)) → ¬ v = s := by
    intro h e
    rcases Nat.lt_trichotomy u 1 with hu1 | hu1 | hu1
    · have := (WN_0 ht hd hv).mp (by omega); omega
    · subst hu1; have := WN_1 hv; omega
    · have := WN_2 ht hd hv (by omega); omega
  refine v_aload_n hX 0 rfl (atL dAX5_isSmall_0 0 rfl) ?_
  refine gf_X5_13 hX (v := (u : Int)) (hu) hi (atL dAX5_isSmall_0 1 rfl) ?_
  refine v_iconst hX (atL dAX5_isSmall_0 2 rfl) ?_
  refine v_icmp_ne hX ⟨by omega, by omega⟩ ⟨by omega, by omega⟩ (tgt := 24) (atL dAX5_isSmall_0 3 rfl) (by decide) (fun h5 => ?_) (fun h5 => ?_)
  · refine v_iconst hX (atL dAX5_isSmall_0 14 rfl) ?_
    exact v_zret hX (by decide +kernel) (atL dAX5_isSmall_0 15 rfl) (hret _ _ ⟨by rw [if_neg (hno (by omega))], rfl⟩)
  · refine v_aload_n hX 0 rfl (atL dAX5_isSmall_0 4 rfl) ?_
    refine gf_X5_9 hX hi (atL dAX5_isSmall_0 5 rfl) ?_
    refine v_iconst hX (atL dAX5_isSmall_0 6 rfl) ?_
    refine v_lald hX (r := jI (σ 3 i 0)) 0 hi2 (fun _ => rfl) rfl (by decide) (by decide) (congrArg jI (rfl)) (atL dAX5_isSmall_0 7 rfl) ?_
    refine v_iload_n hX 1 rfl (atL dAX5_isSmall_0 8 rfl) ?_
    refine v_i2l hX (iI_i2l ⟨by omega, by omega⟩) (atL dAX5_isSmall_0 9 rfl) ?_
    refine v_lcmp_ne hX ⟨by omega, by omega⟩ ⟨by omega, by omega⟩ (atL dAX5_isSmall_0 10 rfl) (tgt := 24) (atL dAX5_isSmall_0 11 rfl) (by decide) (fun h16 => ?_) (fun h16 => ?_)
    · refine v_iconst hX (atL dAX5_isSmall_0 14 rfl) ?_
      exact v_zret hX (by decide +kernel) (atL dAX5_isSmall_0 15 rfl) (hret _ _ ⟨by rw [if_neg (hno (by omega))], rfl⟩)
    · refine v_iconst hX (atL dAX5_isSmall_0 12 rfl) ?_
      refine v_goto hX (tgt := 25) (atL dAX5_isSmall_0 13 rfl) (by decide) ?_
      exact v_zret hX (by decide +kernel) (atL dAX5_isSmall_0 15 rfl) (hret _ _ ⟨by rw [if_pos (hyes (by omega) (by omega))], rfl⟩)

set_option maxHeartbeats 4000000 in
set_option maxRecDepth 100000 in
theorem c_X5_limbAt (l : Launch) (w : Wl) (σ : St) (i u : Nat) (hi : w.2 3 i) (hu : σ 2 i 0 = (u : Int)) (hu8 : u ≤ 80) (k : Int) (hk : rI k) : Cn l yX5_limbAt cX5_limbAt 2 (Option.some Jvm.ClassFile.FieldType.long) 0 0 wJ [.ref (w.1 3 i), .int (iI (k))] w σ (fun a σ' => a = (if 0 ≤ k ∧ k < (u : Int) then σ 3 i k.toNat else 0) ∧ σ' = σ) := by
  refine Cn.of (own := RX5) (lv := [(0, .ref (w.1 3 i)), (1, .int (iI (k)))]) (by decide +kernel) rfl (Nat.le_of_ble_eq_true rfl) rfl (fun X hX hxl hR hcl hret => ?_)
  subst hxl
  have hi2 : w.2 4 i := hcl 3 i hi (4, i) (by simp [mn, tp])
  have hk1 : -2147483648 ≤ k := hk.1
  have hk2 : k < 2147483648 := hk.2
  refine v_iload_n hX 1 rfl (atL dAX5_limbAt_0 0 rfl) ?_
  refine v_if_lt hX ⟨by omega, by omega⟩ (tgt := 27) (atL dAX5_limbAt_0 1 rfl) (by decide) (fun h1 => ?_) (fun h1 => ?_)
  · refine v_lconst hX (atL dAX5_limbAt_0 14 rfl) ?_
    show V X _ w _ _ _ (.long (jI (0)) :: _)
    exact v_lret hX (atL dAX5_limbAt_0 15 rfl) (hret _ _ ⟨by rw [if_neg (by omega)], rfl⟩)
  · refine v_iload_n hX 1 rfl (atL dAX5_limbAt_0 2 rfl) ?_
    refine v_aload_n hX 0 rfl (atL dAX5_limbAt_0 3 rfl) ?_
    refine gf_X5_13 hX (v := (u : Int)) (hu) hi (atL dAX5_limbAt_0 4 rfl) ?_
    refine v_icmp_ge hX ⟨by omega, by omega⟩ ⟨by omega, by omega⟩ (tgt := 27) (atL dAX5_limbAt_0 5 rfl) (by decide) (fun h9 => ?_) (fun h9 => ?_)
    · refine v_lconst hX (atL dAX5_limbAt_0 14 rfl) ?_
      show V X _ w _ _ _ (.long (jI (0)) :: _)
      exact v_lret hX (atL dAX5_limbAt_0 15 rfl) (hret _ _ ⟨by rw [if_neg (by omega)], rfl⟩)
    · refine v_iload_n hX 1 rfl (atL dAX5_limbAt_0 6 rfl) ?_
      refine v_bipush hX (by decide +kernel) (atL dAX5_limbAt_0 7 rfl) ?_
      refine v_icmp_ge hX ⟨by omega, by omega⟩ ⟨by omega, by omega⟩ (tgt := 27) (atL dAX5_limbAt_0 8 rfl) (by decide) (fun h15 => absurd h15 (by omega)) (fun h15 => ?_)
      refine v_aload_n hX 0 rfl (atL dAX5_limbAt_0 9 rfl) ?_
      refine gf_X5_9 hX hi (atL dAX5_limbAt_0 10 rfl) ?_
      refine v_iload_n hX 1 rfl (atL dAX5_limbAt_0 11 rfl) ?_
      refine v_lald hX (r := jI (σ 3 i k.toNat)) k.toNat hi2 (fun _ => rfl) (by omega) (by omega) (by decide) (congrArg jI (rfl)) (atL dAX5_limbAt_0 12 rfl) ?_
      refine v_goto hX (tgt := 28) (atL dAX5_limbAt_0 13 rfl) (by decide) ?_
      exact v_lret hX (atL dAX5_limbAt_0 15 rfl) (hret _ _ ⟨by rw [if_pos ⟨by omega, by omega⟩], rfl⟩)

set_option maxHeartbeats 4000000 in
set_option maxRecDepth 100000 in
theorem c_X5_widthOf (l : Launch) (w : Wl) (σ : St) (x : Nat) (hx : x < 268435456) : Cn l yX5_widthOf cX5_widthOf 3 (Option.some Jvm.ClassFile.FieldType.int) 0 0 wI [.long (jI ((x : Int)))] w σ (fun a σ' => a = (blen x : Nat) ∧ σ' = σ) := by
  refine Cn.of (own := RX5) (lv := [(0, .long (jI ((x : Int))))]) (by decide +kernel) rfl (Nat.le_of_ble_eq_true rfl) rfl (fun X hX hxl hR hcl hret => ?_)
  subst hxl
  have loop : ∀ (n : Nat), n ≤ 28 → x < 2 ^ n → V X (0, 0) w 3 [(2, .int (iI (n : Int))), (0, .long (jI (x : Int)))] σ [] := by
    intro n
    induction n with
    | zero =>
      intro hn hx
      refine v_iload_n hX 0 rfl (atL dAX5_widthOf_0 2 rfl) ?_
      refine v_if_le hX ⟨by omega, by omega⟩ (tgt := 25) (atL dAX5_widthOf_0 3 rfl) (by decide) (fun h4 => ?_) (fun h4 => absurd h4 (by omega))
      refine v_iconst hX (atL dAX5_widthOf_0 16 rfl) ?_
      exact v_iret hX (atL dAX5_widthOf_0 17 rfl) (hret _ _ ⟨by rw [show x = 0 by omega]; rfl, rfl⟩)
    | succ n ih =>
      intro hn hx
      have hq : (x : Int) / ((2 ^ n : Nat) : Int) = ((x / 2 ^ n : Nat) : Int) := (Int.natCast_ediv x (2 ^ n)).symm
      have hqle : x / 2 ^ n ≤ x := Nat.div_le_self _ _
      have hq1 : x < 2 ^ n → x / 2 ^ n = 0 := fun h => Nat.div_eq_of_lt h
      have hq2 : 2 ^ n ≤ x → 0 < x / 2 ^ n := fun h => Nat.div_pos h (Nat.two_pow_pos n)
      obtain ⟨q, hqd⟩ : ∃ q, x / 2 ^ n = q := ⟨_, rfl⟩
      rw [hqd] at hq hqle hq1 hq2
      refine v_iload_n hX 0 rfl (atL dAX5_widthOf_0 2 rfl) ?_
      refine v_if_le hX ⟨by omega, by omega⟩ (tgt := 25) (atL dAX5_widthOf_0 3 rfl) (by decide) (fun h4 => absurd h4 (by omega)) (fun h4 => ?_)
      refine v_lload_n hX 1 rfl (atL dAX5_widthOf_0 4 rfl) ?_
      refine v_iload_n hX 0 rfl (atL dAX5_widthOf_0 5 rfl) ?_
      refine v_iconst hX (atL dAX5_widthOf_0 6 rfl) ?_
      refine v_isub hX (iI_sub _ _) (atL dAX5_widthOf_0 7 rfl) ?_
      refine v_lshr hX (by rw [show ((n + 1 : Nat) : Int) - 1 = (n : Int) by omega, jI_shr ⟨by omega, by omega⟩ n (by omega), hq]) (atL dAX5_widthOf_0 8 rfl) ?_
      refine v_lconst hX (atL dAX5_widthOf_0 9 rfl) ?_
      show V X _ w _ _ _ (.long (jI (0)) :: _)
      refine v_lcmp_eq hX ⟨by omega, by omega⟩ ⟨by omega, by omega⟩ (atL dAX5_widthOf_0 10 rfl) (tgt := 19) (atL dAX5_widthOf_0 11 rfl) (by decide) (fun h13 => ?_) (fun h13 => ?_)
      · refine v_iinc hX (lv' := [(2, .int (iI ((((n + 1 : Nat) : Int)) + (-1)))), (0, .long (jI ((x : Int))))]) 0 rfl (iI_add _ _) (Nat.le_of_ble_eq_true rfl) rfl (atL dAX5_widthOf_0 14 rfl) ?_
        refine v_goto hX (tgt := 3) (atL dAX5_widthOf_0 15 rfl) (by decide) ?_
        rw [show ((n + 1 : Nat) : Int) + (-1) = (n : Int) by omega]
        exact ih (by omega) (by rcases Nat.lt_or_ge x (2 ^ n) with h | h; exact h; exact absurd (hq2 h) (by omega))
      · refine v_iload_n hX 0 rfl (atL dAX5_widthOf_0 12 rfl) ?_
        exact v_iret hX (atL dAX5_widthOf_0 13 rfl) (hret _ _ ⟨by rw [blen_of (k := n) (by rcases Nat.lt_or_ge x (2 ^ n) with h | h; exact absurd (hq1 h) (by omega); exact h) hx], rfl⟩)
  refine v_bipush hX (by decide +kernel) (atL dAX5_widthOf_0 0 rfl) ?_
  refine v_istore_n hX (i := 2) rfl (lv' := [(2, .int (iI (28))), (0, .long (jI ((x : Int))))]) (Nat.le_of_ble_eq_true rfl) rfl (atL dAX5_widthOf_0 1 rfl) ?_
  exact loop 28 (by omega) hx

set_option maxHeartbeats 4000000 in
set_option maxRecDepth 100000 in
theorem c_X5_bitLength (l : Launch) (w : Wl) (σ : St) (i v : Nat) (hi : w.2 3 i) (hN : WN σ i v) : Cn l yX5_bitLength cX5_bitLength 1 (Option.some Jvm.ClassFile.FieldType.int) 1 22 wI [.ref (w.1 3 i)] w σ (fun a σ' => a = (blen v : Nat) ∧ σ' = σ) := by
  refine Cn.of (own := RX5) (lv := [(0, .ref (w.1 3 i))]) (by decide +kernel) rfl (Nat.le_of_ble_eq_true rfl) rfl (fun X hX hxl hR hcl hret => ?_)
  subst hxl
  have hi2 : w.2 4 i := hcl 3 i hi (4, i) (by simp [mn, tp])
  obtain ⟨u, hu, hu8, hd, ht, hv⟩ := hN
  refine v_aload_n hX 0 rfl (atL dAX5_bitLength_0 0 rfl) ?_
  refine gf_X5_13 hX (v := (u : Int)) (hu) hi (atL dAX5_bitLength_0 1 rfl) ?_
  refine v_if_ne hX ⟨by omega, by omega⟩ (tgt := 9) (atL dAX5_bitLength_0 2 rfl) (by decide) (fun h4 => ?_) (fun h4 => ?_)
  · refine v_aload_n hX 0 rfl (atL dAX5_bitLength_0 5 rfl) ?_
    refine gf_X5_13 hX (v := (u : Int)) (hu) hi (atL dAX5_bitLength_0 6 rfl) ?_
    refine v_iconst hX (atL dAX5_bitLength_0 7 rfl) ?_
    refine v_isub hX (iI_sub _ _) (atL dAX5_bitLength_0 8 rfl) ?_
    refine v_bipush hX (by decide +kernel) (atL dAX5_bitLength_0 9 rfl) ?_
    refine v_imul hX (iI_mul _ _) (atL dAX5_bitLength_0 10 rfl) ?_
    refine v_aload_n hX 0 rfl (atL dAX5_bitLength_0 11 rfl) ?_
    refine v_aload_n hX 0 rfl (atL dAX5_bitLength_0 12 rfl) ?_
    refine gf_X5_13 hX (v := (u : Int)) (hu) hi (atL dAX5_bitLength_0 13 rfl) ?_
    refine v_iconst hX (atL dAX5_bitLength_0 14 rfl) ?_
    refine v_isub hX (iI_sub _ _) (atL dAX5_bitLength_0 15 rfl) ?_
    refine v_callV hX (As := [.int (iI (((u : Int)) - 1))]) (rest := [.int (iI ((((u : Int)) - 1) * 28))]) (c_X5_limbAt (xl X) w σ i u hi hu hu8 ((u : Int) - 1) ⟨by omega, by omega⟩) lk_X5_17 hi (fun _ => rfl) rfl rfl rfl (by rw [hR]; exact ⟨Nat.le_of_ble_eq_true rfl, Nat.le_of_ble_eq_true rfl⟩) ⟨Nat.zero_le _, Nat.zero_le _⟩ rfl (Nat.le_of_ble_eq_true rfl) (atL dAX5_bitLength_0 16 rfl) (fun r1 s1 h1 => ?_)
    obtain ⟨hr1, hs1⟩ := h1
    rw [hs1]
    rw [if_pos ⟨by omega, by omega⟩, show ((u : Int) - 1).toNat = u - 1 by omega] at hr1
    have hdu := hd (u - 1)
    have hr2 : r1 = (((σ 3 i (u - 1)).toNat : Nat) : Int) := by omega
    subst hr2
    show V X _ w _ _ σ [.long (jI ((((σ 3 i (u - 1)).toNat : Nat) : Int))), .int (iI ((((u : Int)) - 1) * 28))]
    refine v_callS hX (As := [.long (jI ((((σ 3 i (u - 1)).toNat : Nat) : Int)))]) (rest := [.int (iI ((((u : Int)) - 1) * 28))]) (c_X5_widthOf (xl X) w σ (σ 3 i (u - 1)).toNat (by omega)) lk_X5_21 rfl (by rw [hR]; exact ⟨Nat.le_of_ble_eq_true rfl, Nat.le_of_ble_eq_true rfl⟩) ⟨Nat.zero_le _, Nat.zero_le _⟩ rfl (Nat.le_of_ble_eq_true rfl) (atL dAX5_bitLength_0 17 rfl) (fun r3 s3 h3 => ?_)
    obtain ⟨hr3, hs3⟩ := h3
    rw [hs3]
    subst hr3
    show V X _ w _ _ σ [.int (iI ((blen (σ 3 i (u - 1)).toNat : Nat))), .int (iI ((((u : Int)) - 1) * 28))]
    refine v_iadd hX (iI_add _ _) (atL dAX5_bitLength_0 18 rfl) ?_
    exact v_iret hX (atL dAX5_bitLength_0 19 rfl) (hret _ _ ⟨by rw [WN_bl ht hd hv (by omega)]; omega, rfl⟩)
  · refine v_iconst hX (atL dAX5_bitLength_0 3 rfl) ?_
    exact v_iret hX (atL dAX5_bitLength_0 4 rfl) (hret _ _ ⟨by rw [(WN_0 ht hd hv).mp (by omega)]; rfl, rfl⟩)

set_option maxHeartbeats 4000000 in
set_option maxRecDepth 100000 in
theorem c_X5_byteLength (l : Launch) (w : Wl) (σ : St) (i v : Nat) (hi : w.2 3 i) (hN : WN σ i v) : Cn l yX5_byteLength cX5_byteLength 1 (Option.some Jvm.ClassFile.FieldType.int) 2 42 wI [.ref (w.1 3 i)] w σ (fun a σ' => a = ((blen v + 7) / 8 : Nat) ∧ σ' = σ) := by
  refine Cn.of (own := RX5) (lv := [(0, .ref (w.1 3 i))]) (by decide +kernel) rfl (Nat.le_of_ble_eq_true rfl) rfl (fun X hX hxl hR hcl hret => ?_)
  subst hxl
  have hi2 : w.2 4 i := hcl 3 i hi (4, i) (by simp [mn, tp])
  refine v_aload_n hX 0 rfl (atL dAX5_byteLength_0 0 rfl) ?_
  refine v_callV hX (As := []) (rest := []) (c_X5_bitLength (xl X) w σ i v hi hN) lk_X5_25 hi (fun _ => rfl) rfl rfl rfl (by rw [hR]; exact ⟨Nat.le_of_ble_eq_true rfl, Nat.le_of_ble_eq_true rfl⟩) ⟨Nat.zero_le _, Nat.zero_le _⟩ rfl (Nat.le_of_ble_eq_true rfl) (atL dAX5_byteLength_0 1 rfl) (fun r1 s1 h1 => ?_)
  obtain ⟨hr1, hs1⟩ := h1
  rw [hs1]
  subst hr1
  have hbl : blen v ≤ 2240 := blen_le hN.le
  show V X _ w _ _ σ [.int (iI ((blen v : Nat)))]
  refine v_bipush hX (by decide +kernel) (atL dAX5_byteLength_0 2 rfl) ?_
  refine v_iadd hX (iI_add _ _) (atL dAX5_byteLength_0 3 rfl) ?_
  refine v_bipush hX (by decide +kernel) (atL dAX5_byteLength_0 4 rfl) ?_
  refine v_idiv hX (fun e0 => absurd ((iI_eq (b := 0) ⟨by omega, by omega⟩ ⟨by omega, by omega⟩).mp e0) (by omega)) (iI_div (by omega) (by omega) (by omega) (by omega)) (atL dAX5_byteLength_0 5 rfl) ?_
  exact v_iret hX (atL dAX5_byteLength_0 6 rfl) (hret _ _ ⟨by omega, rfl⟩)

set_option maxHeartbeats 4000000 in
set_option maxRecDepth 100000 in
theorem c_X5_hasBit (l : Launch) (w : Wl) (σ : St) (i v : Nat) (hi : w.2 3 i) (hN : WN σ i v) (m : Nat) (hm : m < 100000) : Cn l yX5_hasBit cX5_hasBit 2 (Option.some Jvm.ClassFile.FieldType.boolean) 1 21 wI [.ref (w.1 3 i), .int (iI ((m : Int)))] w σ (fun a σ' => a = (if v / 2 ^ m % 2 = 1 then 1 else 0) ∧ σ' = σ) := by
  refine Cn.of (own := RX5) (lv := [(0, .ref (w.1 3 i)), (1, .int (iI ((m : Int))))]) (by decide +kernel) rfl (Nat.le_of_ble_eq_true rfl) rfl (fun X hX hxl hR hcl hret => ?_)
  subst hxl
  have hi2 : w.2 4 i := hcl 3 i hi (4, i) (by simp [mn, tp])
  obtain ⟨u, hu, hu8, hd, ht, hv⟩ := hN
  refine v_iload_n hX 1 rfl (atL dAX5_hasBit_0 0 rfl) ?_
  refine v_if_lt hX ⟨by omega, by omega⟩ (tgt := 28) (atL dAX5_hasBit_0 1 rfl) (by decide) (fun h1 => absurd h1 (by omega)) (fun h1 => ?_)
  refine v_aload_n hX 0 rfl (atL dAX5_hasBit_0 2 rfl) ?_
  refine v_iload_n hX 1 rfl (atL dAX5_hasBit_0 3 rfl) ?_
  refine v_bipush hX (by decide +kernel) (atL dAX5_hasBit_0 4 rfl) ?_
  refine v_idiv hX (fun e0 => absurd ((iI_eq (b := 0) ⟨by omega, by omega⟩ ⟨by omega, by omega⟩).mp e0) (by omega)) (iI_div (by omega) (by omega) (by omega) (by omega)) (atL dAX5_hasBit_0 5 rfl) ?_
  refine v_callV hX (As := [.int (iI (((m : Int)) / 28))]) (rest := []) (c_X5_limbAt (xl X) w σ i u hi hu hu8 ((m : Int) / 28) ⟨by omega, by omega⟩) lk_X5_17 hi (fun _ => rfl) rfl rfl rfl (by rw [hR]; exact ⟨Nat.le_of_ble_eq_true rfl, Nat.le_of_ble_eq_true rfl⟩) ⟨Nat.zero_le _, Nat.zero_le _⟩ rfl (Nat.le_of_ble_eq_true rfl) (atL dAX5_hasBit_0 6 rfl) (fun r1 s1 h1 => ?_)
  obtain ⟨hr1, hs1⟩ := h1
  rw [hs1]
  have hq := WN_dig hd hv (m / 28)
  have hr2 : r1 = ((v / 268435456 ^ (m / 28) % 268435456 : Nat) : Int) := by rw [← hq, hr1, show ((m : Int) / 28).toNat = m / 28 by omega]; split <;> split <;> first | rfl | omega
  subst hr2
  have hlt : v / 268435456 ^ (m / 28) % 268435456 < 268435456 := Nat.mod_lt _ (by omega)
  have hbd := bit_dig v m
  generalize hg : v / 268435456 ^ (m / 28) % 268435456 = dq at hlt hbd ⊢
  show V X _ w _ _ σ [.long (jI ((dq : Int)))]
  refine v_iload_n hX 1 rfl (atL dAX5_hasBit_0 7 rfl) ?_
  refine v_bipush hX (by decide +kernel) (atL dAX5_hasBit_0 8 rfl) ?_
  refine v_irem hX (fun e0 => absurd ((iI_eq (b := 0) ⟨by omega, by omega⟩ ⟨by omega, by omega⟩).mp e0) (by omega)) (iI_rem (by omega) (by omega) (by omega) (by omega)) (atL dAX5_hasBit_0 9 rfl) ?_
  refine v_lshr hX (by rw [show (m : Int) % 28 = ((m % 28 : Nat) : Int) by omega, jI_shr ⟨by omega, by omega⟩ (m % 28) (by omega), ← Int.natCast_ediv]) (atL dAX5_hasBit_0 10 rfl) ?_
  refine v_lconst hX (atL dAX5_hasBit_0 11 rfl) ?_
  show V X _ w _ _ _ (.long (jI (1)) :: _)
  refine v_land hX (jI_mask _ 1 (by decide) : _ = jI ((((dq / 2 ^ (m % 28) : Nat) : Int)) % 2)) (atL dAX5_hasBit_0 12 rfl) ?_
  refine v_lconst hX (atL dAX5_hasBit_0 13 rfl) ?_
  show V X _ w _ _ _ (.long (jI (1)) :: _)
  have hle2 : dq / 2 ^ (m % 28) ≤ dq := Nat.div_le_self _ _
  refine v_lcmp_ne hX ⟨by omega, by omega⟩ ⟨by omega, by omega⟩ (atL dAX5_hasBit_0 14 rfl) (tgt := 28) (atL dAX5_hasBit_0 15 rfl) (by decide) (fun h20 => ?_) (fun h20 => ?_)
  · refine v_iconst hX (atL dAX5_hasBit_0 18 rfl) ?_
    exact v_zret hX (by decide +kernel) (atL dAX5_hasBit_0 19 rfl) (hret _ _ ⟨by rw [if_neg (by omega)], rfl⟩)
  · refine v_iconst hX (atL dAX5_hasBit_0 16 rfl) ?_
    refine v_goto hX (tgt := 29) (atL dAX5_hasBit_0 17 rfl) (by decide) ?_
    exact v_zret hX (by decide +kernel) (atL dAX5_hasBit_0 19 rfl) (hret _ _ ⟨by rw [if_pos (by omega)], rfl⟩)
