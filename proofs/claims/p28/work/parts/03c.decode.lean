set_option maxRecDepth 100000 in
theorem D_L_cell_0 : decode cL_cell 0 = .ok (.iload_n 1, 1) ∧ decode cL_cell 1 = .ok (.aload_n 0, 1) ∧ decode cL_cell 2 = .ok (.arraylength, 1) ∧ decode cL_cell 3 = .ok (.if_icmp .ge 9, 3) ∧ decode cL_cell 6 = .ok (.aload_n 0, 1) ∧ decode cL_cell 7 = .ok (.iload_n 1, 1) ∧ decode cL_cell 8 = .ok (.iaload, 1) ∧ decode cL_cell 9 = .ok (.goto 9, 3) ∧ decode cL_cell 12 = .ok (.ldc 7, 2) ∧ decode cL_cell 14 = .ok (.iload_n 1, 1) ∧ decode cL_cell 15 = .ok (.iconst 3, 1) ∧ decode cL_cell 16 = .ok (.iadd, 1) ∧ decode cL_cell 17 = .ok (.imul, 1) ∧ decode cL_cell 18 = .ok (.istore_n 2, 1) ∧ decode cL_cell 19 = .ok (.iload_n 2, 1) ∧ decode cL_cell 20 = .ok (.iload_n 2, 1) ∧ decode cL_cell 21 = .ok (.bipush 15, 2) ∧ decode cL_cell 23 = .ok (.iushr, 1) ∧ decode cL_cell 24 = .ok (.ixor, 1) ∧ decode cL_cell 25 = .ok (.ireturn, 1) ∧ True := dq_of (l := (0, .iload_n 1, 1) :: (1, .aload_n 0, 1) :: (2, .arraylength, 1) :: (3, .if_icmp .ge 9, 3) :: (6, .aload_n 0, 1) :: (7, .iload_n 1, 1) :: (8, .iaload, 1) :: (9, .goto 9, 3) :: (12, .ldc 7, 2) :: (14, .iload_n 1, 1) :: (15, .iconst 3, 1) :: (16, .iadd, 1) :: (17, .imul, 1) :: (18, .istore_n 2, 1) :: (19, .iload_n 2, 1) :: (20, .iload_n 2, 1) :: (21, .bipush 15, 2) :: (23, .iushr, 1) :: (24, .ixor, 1) :: (25, .ireturn, 1) :: []) (by decide +kernel)
theorem e_L_cell_0 : decode cL_cell 0 = .ok (.iload_n 1, 1) := D_L_cell_0.1
theorem e_L_cell_1 : decode cL_cell 1 = .ok (.aload_n 0, 1) := D_L_cell_0.2.1
theorem e_L_cell_2 : decode cL_cell 2 = .ok (.arraylength, 1) := D_L_cell_0.2.2.1
theorem e_L_cell_3 : decode cL_cell 3 = .ok (.if_icmp .ge 9, 3) := D_L_cell_0.2.2.2.1
theorem e_L_cell_6 : decode cL_cell 6 = .ok (.aload_n 0, 1) := D_L_cell_0.2.2.2.2.1
theorem e_L_cell_7 : decode cL_cell 7 = .ok (.iload_n 1, 1) := D_L_cell_0.2.2.2.2.2.1
theorem e_L_cell_8 : decode cL_cell 8 = .ok (.iaload, 1) := D_L_cell_0.2.2.2.2.2.2.1
theorem e_L_cell_9 : decode cL_cell 9 = .ok (.goto 9, 3) := D_L_cell_0.2.2.2.2.2.2.2.1
theorem e_L_cell_12 : decode cL_cell 12 = .ok (.ldc 7, 2) := D_L_cell_0.2.2.2.2.2.2.2.2.1
theorem e_L_cell_14 : decode cL_cell 14 = .ok (.iload_n 1, 1) := D_L_cell_0.2.2.2.2.2.2.2.2.2.1
theorem e_L_cell_15 : decode cL_cell 15 = .ok (.iconst 3, 1) := D_L_cell_0.2.2.2.2.2.2.2.2.2.2.1
theorem e_L_cell_16 : decode cL_cell 16 = .ok (.iadd, 1) := D_L_cell_0.2.2.2.2.2.2.2.2.2.2.2.1
theorem e_L_cell_17 : decode cL_cell 17 = .ok (.imul, 1) := D_L_cell_0.2.2.2.2.2.2.2.2.2.2.2.2.1
theorem e_L_cell_18 : decode cL_cell 18 = .ok (.istore_n 2, 1) := D_L_cell_0.2.2.2.2.2.2.2.2.2.2.2.2.2.1
theorem e_L_cell_19 : decode cL_cell 19 = .ok (.iload_n 2, 1) := D_L_cell_0.2.2.2.2.2.2.2.2.2.2.2.2.2.2.1
theorem e_L_cell_20 : decode cL_cell 20 = .ok (.iload_n 2, 1) := D_L_cell_0.2.2.2.2.2.2.2.2.2.2.2.2.2.2.2.1
theorem e_L_cell_21 : decode cL_cell 21 = .ok (.bipush 15, 2) := D_L_cell_0.2.2.2.2.2.2.2.2.2.2.2.2.2.2.2.2.1
theorem e_L_cell_23 : decode cL_cell 23 = .ok (.iushr, 1) := D_L_cell_0.2.2.2.2.2.2.2.2.2.2.2.2.2.2.2.2.2.1
theorem e_L_cell_24 : decode cL_cell 24 = .ok (.ixor, 1) := D_L_cell_0.2.2.2.2.2.2.2.2.2.2.2.2.2.2.2.2.2.2.1
theorem e_L_cell_25 : decode cL_cell 25 = .ok (.ireturn, 1) := D_L_cell_0.2.2.2.2.2.2.2.2.2.2.2.2.2.2.2.2.2.2.2.1
set_option maxRecDepth 100000 in
theorem D_L_low_0 : decode cL_low 0 = .ok (.iload_n 0, 1) ∧ decode cL_low 1 = .ok (.ldc 8, 2) ∧ decode cL_low 3 = .ok (.iand, 1) ∧ decode cL_low 4 = .ok (.iload_n 1, 1) ∧ decode cL_low 5 = .ok (.irem, 1) ∧ decode cL_low 6 = .ok (.ireturn, 1) ∧ True := dq_of (l := (0, .iload_n 0, 1) :: (1, .ldc 8, 2) :: (3, .iand, 1) :: (4, .iload_n 1, 1) :: (5, .irem, 1) :: (6, .ireturn, 1) :: []) (by decide +kernel)
theorem e_L_low_0 : decode cL_low 0 = .ok (.iload_n 0, 1) := D_L_low_0.1
theorem e_L_low_1 : decode cL_low 1 = .ok (.ldc 8, 2) := D_L_low_0.2.1
theorem e_L_low_3 : decode cL_low 3 = .ok (.iand, 1) := D_L_low_0.2.2.1
theorem e_L_low_4 : decode cL_low 4 = .ok (.iload_n 1, 1) := D_L_low_0.2.2.2.1
theorem e_L_low_5 : decode cL_low 5 = .ok (.irem, 1) := D_L_low_0.2.2.2.2.1
theorem e_L_low_6 : decode cL_low 6 = .ok (.ireturn, 1) := D_L_low_0.2.2.2.2.2.1
set_option maxRecDepth 100000 in
theorem D_L_print_0 : decode cL_print 0 = .ok (.ldc2_w 9, 3) ∧ decode cL_print 3 = .ok (.lstore_n 1, 1) ∧ decode cL_print 4 = .ok (.iconst 0, 1) ∧ decode cL_print 5 = .ok (.istore_n 3, 1) ∧ decode cL_print 6 = .ok (.iload_n 3, 1) ∧ decode cL_print 7 = .ok (.bipush 15, 2) ∧ decode cL_print 9 = .ok (.if_icmp .ge 36, 3) ∧ decode cL_print 12 = .ok (.ldc2_w 11, 3) ∧ decode cL_print 15 = .ok (.ldc2_w 11, 3) ∧ decode cL_print 18 = .ok (.lload_n 1, 1) ∧ decode cL_print 19 = .ok (.lmul, 1) ∧ decode cL_print 20 = .ok (.aload_n 0, 1) ∧ decode cL_print 21 = .ok (.iload_n 3, 1) ∧ decode cL_print 22 = .ok (.invokevirtual 13, 3) ∧ decode cL_print 25 = .ok (.i2l, 1) ∧ decode cL_print 26 = .ok (.ladd, 1) ∧ decode cL_print 27 = .ok (.lmul, 1) ∧ decode cL_print 28 = .ok (.aload_n 0, 1) ∧ decode cL_print 29 = .ok (.iload_n 3, 1) ∧ decode cL_print 30 = .ok (.bipush 9, 2) ∧ decode cL_print 32 = .ok (.irem, 1) ∧ decode cL_print 33 = .ok (.invokevirtual 19, 3) ∧ decode cL_print 36 = .ok (.i2l, 1) ∧ decode cL_print 37 = .ok (.ladd, 1) ∧ decode cL_print 38 = .ok (.lstore_n 1, 1) ∧ decode cL_print 39 = .ok (.iinc 3 1, 3) ∧ decode cL_print 42 = .ok (.goto (-36), 3) ∧ decode cL_print 45 = .ok (.iconst 0, 1) ∧ decode cL_print 46 = .ok (.istore_n 3, 1) ∧ decode cL_print 47 = .ok (.iload_n 3, 1) ∧ decode cL_print 48 = .ok (.bipush 10, 2) ∧ decode cL_print 50 = .ok (.if_icmp .ge 67, 3) ∧ decode cL_print 53 = .ok (.aload_n 0, 1) ∧ decode cL_print 54 = .ok (.iload_n 3, 1) ∧ decode cL_print 55 = .ok (.invokevirtual 22, 3) ∧ decode cL_print 58 = .ok (.istore 4, 2) ∧ decode cL_print 60 = .ok (.ldc2_w 11, 3) ∧ decode cL_print 63 = .ok (.lload_n 1, 1) ∧ decode cL_print 64 = .ok (.lmul, 1) ∧ decode cL_print 65 = .ok (.iload 4, 2) ∧ True := dq_of (l := (0, .ldc2_w 9, 3) :: (3, .lstore_n 1, 1) :: (4, .iconst 0, 1) :: (5, .istore_n 3, 1) :: (6, .iload_n 3, 1) :: (7, .bipush 15, 2) :: (9, .if_icmp .ge 36, 3) :: (12, .ldc2_w 11, 3) :: (15, .ldc2_w 11, 3) :: (18, .lload_n 1, 1) :: (19, .lmul, 1) :: (20, .aload_n 0, 1) :: (21, .iload_n 3, 1) :: (22, .invokevirtual 13, 3) :: (25, .i2l, 1) :: (26, .ladd, 1) :: (27, .lmul, 1) :: (28, .aload_n 0, 1) :: (29, .iload_n 3, 1) :: (30, .bipush 9, 2) :: (32, .irem, 1) :: (33, .invokevirtual 19, 3) :: (36, .i2l, 1) :: (37, .ladd, 1) :: (38, .lstore_n 1, 1) :: (39, .iinc 3 1, 3) :: (42, .goto (-36), 3) :: (45, .iconst 0, 1) :: (46, .istore_n 3, 1) :: (47, .iload_n 3, 1) :: (48, .bipush 10, 2) :: (50, .if_icmp .ge 67, 3) :: (53, .aload_n 0, 1) :: (54, .iload_n 3, 1) :: (55, .invokevirtual 22, 3) :: (58, .istore 4, 2) :: (60, .ldc2_w 11, 3) :: (63, .lload_n 1, 1) :: (64, .lmul, 1) :: (65, .iload 4, 2) :: []) (by decide +kernel)
theorem e_L_print_0 : decode cL_print 0 = .ok (.ldc2_w 9, 3) := D_L_print_0.1
theorem e_L_print_3 : decode cL_print 3 = .ok (.lstore_n 1, 1) := D_L_print_0.2.1
theorem e_L_print_4 : decode cL_print 4 = .ok (.iconst 0, 1) := D_L_print_0.2.2.1
theorem e_L_print_5 : decode cL_print 5 = .ok (.istore_n 3, 1) := D_L_print_0.2.2.2.1
theorem e_L_print_6 : decode cL_print 6 = .ok (.iload_n 3, 1) := D_L_print_0.2.2.2.2.1
theorem e_L_print_7 : decode cL_print 7 = .ok (.bipush 15, 2) := D_L_print_0.2.2.2.2.2.1
theorem e_L_print_9 : decode cL_print 9 = .ok (.if_icmp .ge 36, 3) := D_L_print_0.2.2.2.2.2.2.1
theorem e_L_print_12 : decode cL_print 12 = .ok (.ldc2_w 11, 3) := D_L_print_0.2.2.2.2.2.2.2.1
theorem e_L_print_15 : decode cL_print 15 = .ok (.ldc2_w 11, 3) := D_L_print_0.2.2.2.2.2.2.2.2.1
theorem e_L_print_18 : decode cL_print 18 = .ok (.lload_n 1, 1) := D_L_print_0.2.2.2.2.2.2.2.2.2.1
theorem e_L_print_19 : decode cL_print 19 = .ok (.lmul, 1) := D_L_print_0.2.2.2.2.2.2.2.2.2.2.1
theorem e_L_print_20 : decode cL_print 20 = .ok (.aload_n 0, 1) := D_L_print_0.2.2.2.2.2.2.2.2.2.2.2.1
theorem e_L_print_21 : decode cL_print 21 = .ok (.iload_n 3, 1) := D_L_print_0.2.2.2.2.2.2.2.2.2.2.2.2.1
theorem e_L_print_22 : decode cL_print 22 = .ok (.invokevirtual 13, 3) := D_L_print_0.2.2.2.2.2.2.2.2.2.2.2.2.2.1
theorem e_L_print_25 : decode cL_print 25 = .ok (.i2l, 1) := D_L_print_0.2.2.2.2.2.2.2.2.2.2.2.2.2.2.1
theorem e_L_print_26 : decode cL_print 26 = .ok (.ladd, 1) := D_L_print_0.2.2.2.2.2.2.2.2.2.2.2.2.2.2.2.1
theorem e_L_print_27 : decode cL_print 27 = .ok (.lmul, 1) := D_L_print_0.2.2.2.2.2.2.2.2.2.2.2.2.2.2.2.2.1
theorem e_L_print_28 : decode cL_print 28 = .ok (.aload_n 0, 1) := D_L_print_0.2.2.2.2.2.2.2.2.2.2.2.2.2.2.2.2.2.1
theorem e_L_print_29 : decode cL_print 29 = .ok (.iload_n 3, 1) := D_L_print_0.2.2.2.2.2.2.2.2.2.2.2.2.2.2.2.2.2.2.1
theorem e_L_print_30 : decode cL_print 30 = .ok (.bipush 9, 2) := D_L_print_0.2.2.2.2.2.2.2.2.2.2.2.2.2.2.2.2.2.2.2.1
theorem e_L_print_32 : decode cL_print 32 = .ok (.irem, 1) := D_L_print_0.2.2.2.2.2.2.2.2.2.2.2.2.2.2.2.2.2.2.2.2.1
theorem e_L_print_33 : decode cL_print 33 = .ok (.invokevirtual 19, 3) := D_L_print_0.2.2.2.2.2.2.2.2.2.2.2.2.2.2.2.2.2.2.2.2.2.1
theorem e_L_print_36 : decode cL_print 36 = .ok (.i2l, 1) := D_L_print_0.2.2.2.2.2.2.2.2.2.2.2.2.2.2.2.2.2.2.2.2.2.2.1
theorem e_L_print_37 : decode cL_print 37 = .ok (.ladd, 1) := D_L_print_0.2.2.2.2.2.2.2.2.2.2.2.2.2.2.2.2.2.2.2.2.2.2.2.1
theorem e_L_print_38 : decode cL_print 38 = .ok (.lstore_n 1, 1) := D_L_print_0.2.2.2.2.2.2.2.2.2.2.2.2.2.2.2.2.2.2.2.2.2.2.2.2.1
theorem e_L_print_39 : decode cL_print 39 = .ok (.iinc 3 1, 3) := D_L_print_0.2.2.2.2.2.2.2.2.2.2.2.2.2.2.2.2.2.2.2.2.2.2.2.2.2.1
theorem e_L_print_42 : decode cL_print 42 = .ok (.goto (-36), 3) := D_L_print_0.2.2.2.2.2.2.2.2.2.2.2.2.2.2.2.2.2.2.2.2.2.2.2.2.2.2.1
theorem e_L_print_45 : decode cL_print 45 = .ok (.iconst 0, 1) := D_L_print_0.2.2.2.2.2.2.2.2.2.2.2.2.2.2.2.2.2.2.2.2.2.2.2.2.2.2.2.1
theorem e_L_print_46 : decode cL_print 46 = .ok (.istore_n 3, 1) := D_L_print_0.2.2.2.2.2.2.2.2.2.2.2.2.2.2.2.2.2.2.2.2.2.2.2.2.2.2.2.2.1
theorem e_L_print_47 : decode cL_print 47 = .ok (.iload_n 3, 1) := D_L_print_0.2.2.2.2.2.2.2.2.2.2.2.2.2.2.2.2.2.2.2.2.2.2.2.2.2.2.2.2.2.1
theorem e_L_print_48 : decode cL_print 48 = .ok (.bipush 10, 2) := D_L_print_0.2.2.2.2.2.2.2.2.2.2.2.2.2.2.2.2.2.2.2.2.2.2.2.2.2.2.2.2.2.2.1
theorem e_L_print_50 : decode cL_print 50 = .ok (.if_icmp .ge 67, 3) := D_L_print_0.2.2.2.2.2.2.2.2.2.2.2.2.2.2.2.2.2.2.2.2.2.2.2.2.2.2.2.2.2.2.2.1
theorem e_L_print_53 : decode cL_print 53 = .ok (.aload_n 0, 1) := D_L_print_0.2.2.2.2.2.2.2.2.2.2.2.2.2.2.2.2.2.2.2.2.2.2.2.2.2.2.2.2.2.2.2.2.1
theorem e_L_print_54 : decode cL_print 54 = .ok (.iload_n 3, 1) := D_L_print_0.2.2.2.2.2.2.2.2.2.2.2.2.2.2.2.2.2.2.2.2.2.2.2.2.2.2.2.2.2.2.2.2.2.1
theorem e_L_print_55 : decode cL_print 55 = .ok (.invokevirtual 22, 3) := D_L_print_0.2.2.2.2.2.2.2.2.2.2.2.2.2.2.2.2.2.2.2.2.2.2.2.2.2.2.2.2.2.2.2.2.2.2.1
theorem e_L_print_58 : decode cL_print 58 = .ok (.istore 4, 2) := D_L_print_0.2.2.2.2.2.2.2.2.2.2.2.2.2.2.2.2.2.2.2.2.2.2.2.2.2.2.2.2.2.2.2.2.2.2.2.1
theorem e_L_print_60 : decode cL_print 60 = .ok (.ldc2_w 11, 3) := D_L_print_0.2.2.2.2.2.2.2.2.2.2.2.2.2.2.2.2.2.2.2.2.2.2.2.2.2.2.2.2.2.2.2.2.2.2.2.2.1
theorem e_L_print_63 : decode cL_print 63 = .ok (.lload_n 1, 1) := D_L_print_0.2.2.2.2.2.2.2.2.2.2.2.2.2.2.2.2.2.2.2.2.2.2.2.2.2.2.2.2.2.2.2.2.2.2.2.2.2.1
theorem e_L_print_64 : decode cL_print 64 = .ok (.lmul, 1) := D_L_print_0.2.2.2.2.2.2.2.2.2.2.2.2.2.2.2.2.2.2.2.2.2.2.2.2.2.2.2.2.2.2.2.2.2.2.2.2.2.2.1
theorem e_L_print_65 : decode cL_print 65 = .ok (.iload 4, 2) := D_L_print_0.2.2.2.2.2.2.2.2.2.2.2.2.2.2.2.2.2.2.2.2.2.2.2.2.2.2.2.2.2.2.2.2.2.2.2.2.2.2.2.1
set_option maxRecDepth 100000 in
theorem D_L_print_1 : decode cL_print 67 = .ok (.i2l, 1) ∧ decode cL_print 68 = .ok (.ladd, 1) ∧ decode cL_print 69 = .ok (.lstore_n 1, 1) ∧ decode cL_print 70 = .ok (.iconst 0, 1) ∧ decode cL_print 71 = .ok (.istore 5, 2) ∧ decode cL_print 73 = .ok (.iload 5, 2) ∧ decode cL_print 75 = .ok (.bipush 13, 2) ∧ decode cL_print 77 = .ok (.if_icmp .ge 34, 3) ∧ decode cL_print 80 = .ok (.ldc2_w 11, 3) ∧ decode cL_print 83 = .ok (.lload_n 1, 1) ∧ decode cL_print 84 = .ok (.lmul, 1) ∧ decode cL_print 85 = .ok (.aload_n 0, 1) ∧ decode cL_print 86 = .ok (.iload 4, 2) ∧ decode cL_print 88 = .ok (.ifCond .ge 7, 3) ∧ decode cL_print 91 = .ok (.iconst 0, 1) ∧ decode cL_print 92 = .ok (.goto 5, 3) ∧ decode cL_print 95 = .ok (.iload 4, 2) ∧ decode cL_print 97 = .ok (.iload 5, 2) ∧ decode cL_print 99 = .ok (.invokevirtual 25, 3) ∧ decode cL_print 102 = .ok (.i2l, 1) ∧ decode cL_print 103 = .ok (.ladd, 1) ∧ decode cL_print 104 = .ok (.lstore_n 1, 1) ∧ decode cL_print 105 = .ok (.iinc 5 1, 3) ∧ decode cL_print 108 = .ok (.goto (-35), 3) ∧ decode cL_print 111 = .ok (.iinc 3 1, 3) ∧ decode cL_print 114 = .ok (.goto (-67), 3) ∧ decode cL_print 117 = .ok (.iconst 0, 1) ∧ decode cL_print 118 = .ok (.istore_n 3, 1) ∧ decode cL_print 119 = .ok (.iload_n 3, 1) ∧ decode cL_print 120 = .ok (.bipush 16, 2) ∧ decode cL_print 122 = .ok (.if_icmp .ge 55, 3) ∧ decode cL_print 125 = .ok (.ldc2_w 11, 3) ∧ decode cL_print 128 = .ok (.ldc2_w 11, 3) ∧ decode cL_print 131 = .ok (.ldc2_w 11, 3) ∧ decode cL_print 134 = .ok (.lload_n 1, 1) ∧ decode cL_print 135 = .ok (.lmul, 1) ∧ decode cL_print 136 = .ok (.aload_n 0, 1) ∧ decode cL_print 137 = .ok (.iload_n 3, 1) ∧ decode cL_print 138 = .ok (.iconst 4, 1) ∧ decode cL_print 139 = .ok (.idiv, 1) ∧ True := dq_of (l := (67, .i2l, 1) :: (68, .ladd, 1) :: (69, .lstore_n 1, 1) :: (70, .iconst 0, 1) :: (71, .istore 5, 2) :: (73, .iload 5, 2) :: (75, .bipush 13, 2) :: (77, .if_icmp .ge 34, 3) :: (80, .ldc2_w 11, 3) :: (83, .lload_n 1, 1) :: (84, .lmul, 1) :: (85, .aload_n 0, 1) :: (86, .iload 4, 2) :: (88, .ifCond .ge 7, 3) :: (91, .iconst 0, 1) :: (92, .goto 5, 3) :: (95, .iload 4, 2) :: (97, .iload 5, 2) :: (99, .invokevirtual 25, 3) :: (102, .i2l, 1) :: (103, .ladd, 1) :: (104, .lstore_n 1, 1) :: (105, .iinc 5 1, 3) :: (108, .goto (-35), 3) :: (111, .iinc 3 1, 3) :: (114, .goto (-67), 3) :: (117, .iconst 0, 1) :: (118, .istore_n 3, 1) :: (119, .iload_n 3, 1) :: (120, .bipush 16, 2) :: (122, .if_icmp .ge 55, 3) :: (125, .ldc2_w 11, 3) :: (128, .ldc2_w 11, 3) :: (131, .ldc2_w 11, 3) :: (134, .lload_n 1, 1) :: (135, .lmul, 1) :: (136, .aload_n 0, 1) :: (137, .iload_n 3, 1) :: (138, .iconst 4, 1) :: (139, .idiv, 1) :: []) (by decide +kernel)
theorem e_L_print_67 : decode cL_print 67 = .ok (.i2l, 1) := D_L_print_1.1
theorem e_L_print_68 : decode cL_print 68 = .ok (.ladd, 1) := D_L_print_1.2.1
theorem e_L_print_69 : decode cL_print 69 = .ok (.lstore_n 1, 1) := D_L_print_1.2.2.1
theorem e_L_print_70 : decode cL_print 70 = .ok (.iconst 0, 1) := D_L_print_1.2.2.2.1
theorem e_L_print_71 : decode cL_print 71 = .ok (.istore 5, 2) := D_L_print_1.2.2.2.2.1
theorem e_L_print_73 : decode cL_print 73 = .ok (.iload 5, 2) := D_L_print_1.2.2.2.2.2.1
theorem e_L_print_75 : decode cL_print 75 = .ok (.bipush 13, 2) := D_L_print_1.2.2.2.2.2.2.1
theorem e_L_print_77 : decode cL_print 77 = .ok (.if_icmp .ge 34, 3) := D_L_print_1.2.2.2.2.2.2.2.1
theorem e_L_print_80 : decode cL_print 80 = .ok (.ldc2_w 11, 3) := D_L_print_1.2.2.2.2.2.2.2.2.1
theorem e_L_print_83 : decode cL_print 83 = .ok (.lload_n 1, 1) := D_L_print_1.2.2.2.2.2.2.2.2.2.1
theorem e_L_print_84 : decode cL_print 84 = .ok (.lmul, 1) := D_L_print_1.2.2.2.2.2.2.2.2.2.2.1
theorem e_L_print_85 : decode cL_print 85 = .ok (.aload_n 0, 1) := D_L_print_1.2.2.2.2.2.2.2.2.2.2.2.1
theorem e_L_print_86 : decode cL_print 86 = .ok (.iload 4, 2) := D_L_print_1.2.2.2.2.2.2.2.2.2.2.2.2.1
theorem e_L_print_88 : decode cL_print 88 = .ok (.ifCond .ge 7, 3) := D_L_print_1.2.2.2.2.2.2.2.2.2.2.2.2.2.1
theorem e_L_print_91 : decode cL_print 91 = .ok (.iconst 0, 1) := D_L_print_1.2.2.2.2.2.2.2.2.2.2.2.2.2.2.1
theorem e_L_print_92 : decode cL_print 92 = .ok (.goto 5, 3) := D_L_print_1.2.2.2.2.2.2.2.2.2.2.2.2.2.2.2.1
theorem e_L_print_95 : decode cL_print 95 = .ok (.iload 4, 2) := D_L_print_1.2.2.2.2.2.2.2.2.2.2.2.2.2.2.2.2.1
theorem e_L_print_97 : decode cL_print 97 = .ok (.iload 5, 2) := D_L_print_1.2.2.2.2.2.2.2.2.2.2.2.2.2.2.2.2.2.1
theorem e_L_print_99 : decode cL_print 99 = .ok (.invokevirtual 25, 3) := D_L_print_1.2.2.2.2.2.2.2.2.2.2.2.2.2.2.2.2.2.2.1
theorem e_L_print_102 : decode cL_print 102 = .ok (.i2l, 1) := D_L_print_1.2.2.2.2.2.2.2.2.2.2.2.2.2.2.2.2.2.2.2.1
theorem e_L_print_103 : decode cL_print 103 = .ok (.ladd, 1) := D_L_print_1.2.2.2.2.2.2.2.2.2.2.2.2.2.2.2.2.2.2.2.2.1
theorem e_L_print_104 : decode cL_print 104 = .ok (.lstore_n 1, 1) := D_L_print_1.2.2.2.2.2.2.2.2.2.2.2.2.2.2.2.2.2.2.2.2.2.1
theorem e_L_print_105 : decode cL_print 105 = .ok (.iinc 5 1, 3) := D_L_print_1.2.2.2.2.2.2.2.2.2.2.2.2.2.2.2.2.2.2.2.2.2.2.1
theorem e_L_print_108 : decode cL_print 108 = .ok (.goto (-35), 3) := D_L_print_1.2.2.2.2.2.2.2.2.2.2.2.2.2.2.2.2.2.2.2.2.2.2.2.1
theorem e_L_print_111 : decode cL_print 111 = .ok (.iinc 3 1, 3) := D_L_print_1.2.2.2.2.2.2.2.2.2.2.2.2.2.2.2.2.2.2.2.2.2.2.2.2.1
theorem e_L_print_114 : decode cL_print 114 = .ok (.goto (-67), 3) := D_L_print_1.2.2.2.2.2.2.2.2.2.2.2.2.2.2.2.2.2.2.2.2.2.2.2.2.2.1
theorem e_L_print_117 : decode cL_print 117 = .ok (.iconst 0, 1) := D_L_print_1.2.2.2.2.2.2.2.2.2.2.2.2.2.2.2.2.2.2.2.2.2.2.2.2.2.2.1
theorem e_L_print_118 : decode cL_print 118 = .ok (.istore_n 3, 1) := D_L_print_1.2.2.2.2.2.2.2.2.2.2.2.2.2.2.2.2.2.2.2.2.2.2.2.2.2.2.2.1
theorem e_L_print_119 : decode cL_print 119 = .ok (.iload_n 3, 1) := D_L_print_1.2.2.2.2.2.2.2.2.2.2.2.2.2.2.2.2.2.2.2.2.2.2.2.2.2.2.2.2.1
theorem e_L_print_120 : decode cL_print 120 = .ok (.bipush 16, 2) := D_L_print_1.2.2.2.2.2.2.2.2.2.2.2.2.2.2.2.2.2.2.2.2.2.2.2.2.2.2.2.2.2.1
theorem e_L_print_122 : decode cL_print 122 = .ok (.if_icmp .ge 55, 3) := D_L_print_1.2.2.2.2.2.2.2.2.2.2.2.2.2.2.2.2.2.2.2.2.2.2.2.2.2.2.2.2.2.2.1
theorem e_L_print_125 : decode cL_print 125 = .ok (.ldc2_w 11, 3) := D_L_print_1.2.2.2.2.2.2.2.2.2.2.2.2.2.2.2.2.2.2.2.2.2.2.2.2.2.2.2.2.2.2.2.1
theorem e_L_print_128 : decode cL_print 128 = .ok (.ldc2_w 11, 3) := D_L_print_1.2.2.2.2.2.2.2.2.2.2.2.2.2.2.2.2.2.2.2.2.2.2.2.2.2.2.2.2.2.2.2.2.1
theorem e_L_print_131 : decode cL_print 131 = .ok (.ldc2_w 11, 3) := D_L_print_1.2.2.2.2.2.2.2.2.2.2.2.2.2.2.2.2.2.2.2.2.2.2.2.2.2.2.2.2.2.2.2.2.2.1
theorem e_L_print_134 : decode cL_print 134 = .ok (.lload_n 1, 1) := D_L_print_1.2.2.2.2.2.2.2.2.2.2.2.2.2.2.2.2.2.2.2.2.2.2.2.2.2.2.2.2.2.2.2.2.2.2.1
theorem e_L_print_135 : decode cL_print 135 = .ok (.lmul, 1) := D_L_print_1.2.2.2.2.2.2.2.2.2.2.2.2.2.2.2.2.2.2.2.2.2.2.2.2.2.2.2.2.2.2.2.2.2.2.2.1
theorem e_L_print_136 : decode cL_print 136 = .ok (.aload_n 0, 1) := D_L_print_1.2.2.2.2.2.2.2.2.2.2.2.2.2.2.2.2.2.2.2.2.2.2.2.2.2.2.2.2.2.2.2.2.2.2.2.2.1
theorem e_L_print_137 : decode cL_print 137 = .ok (.iload_n 3, 1) := D_L_print_1.2.2.2.2.2.2.2.2.2.2.2.2.2.2.2.2.2.2.2.2.2.2.2.2.2.2.2.2.2.2.2.2.2.2.2.2.2.1
theorem e_L_print_138 : decode cL_print 138 = .ok (.iconst 4, 1) := D_L_print_1.2.2.2.2.2.2.2.2.2.2.2.2.2.2.2.2.2.2.2.2.2.2.2.2.2.2.2.2.2.2.2.2.2.2.2.2.2.2.1
theorem e_L_print_139 : decode cL_print 139 = .ok (.idiv, 1) := D_L_print_1.2.2.2.2.2.2.2.2.2.2.2.2.2.2.2.2.2.2.2.2.2.2.2.2.2.2.2.2.2.2.2.2.2.2.2.2.2.2.2.1
set_option maxRecDepth 100000 in
theorem D_L_print_2 : decode cL_print 140 = .ok (.iload_n 3, 1) ∧ decode cL_print 141 = .ok (.iconst 4, 1) ∧ decode cL_print 142 = .ok (.irem, 1) ∧ decode cL_print 143 = .ok (.invokevirtual 29, 3) ∧ decode cL_print 146 = .ok (.i2l, 1) ∧ decode cL_print 147 = .ok (.ladd, 1) ∧ decode cL_print 148 = .ok (.lmul, 1) ∧ decode cL_print 149 = .ok (.aload_n 0, 1) ∧ decode cL_print 150 = .ok (.iload_n 3, 1) ∧ decode cL_print 151 = .ok (.iconst 4, 1) ∧ decode cL_print 152 = .ok (.idiv, 1) ∧ decode cL_print 153 = .ok (.iload_n 3, 1) ∧ decode cL_print 154 = .ok (.iconst 4, 1) ∧ decode cL_print 155 = .ok (.irem, 1) ∧ decode cL_print 156 = .ok (.invokevirtual 32, 3) ∧ decode cL_print 159 = .ok (.i2l, 1) ∧ decode cL_print 160 = .ok (.ladd, 1) ∧ decode cL_print 161 = .ok (.lmul, 1) ∧ decode cL_print 162 = .ok (.aload_n 0, 1) ∧ decode cL_print 163 = .ok (.iload_n 3, 1) ∧ decode cL_print 164 = .ok (.iconst 2, 1) ∧ decode cL_print 165 = .ok (.invokevirtual 35, 3) ∧ decode cL_print 168 = .ok (.i2l, 1) ∧ decode cL_print 169 = .ok (.ladd, 1) ∧ decode cL_print 170 = .ok (.lstore_n 1, 1) ∧ decode cL_print 171 = .ok (.iinc 3 1, 3) ∧ decode cL_print 174 = .ok (.goto (-55), 3) ∧ decode cL_print 177 = .ok (.ldc2_w 11, 3) ∧ decode cL_print 180 = .ok (.lload_n 1, 1) ∧ decode cL_print 181 = .ok (.lmul, 1) ∧ decode cL_print 182 = .ok (.aload_n 0, 1) ∧ decode cL_print 183 = .ok (.invokevirtual 38, 3) ∧ decode cL_print 186 = .ok (.i2l, 1) ∧ decode cL_print 187 = .ok (.ladd, 1) ∧ decode cL_print 188 = .ok (.lreturn, 1) ∧ True := dq_of (l := (140, .iload_n 3, 1) :: (141, .iconst 4, 1) :: (142, .irem, 1) :: (143, .invokevirtual 29, 3) :: (146, .i2l, 1) :: (147, .ladd, 1) :: (148, .lmul, 1) :: (149, .aload_n 0, 1) :: (150, .iload_n 3, 1) :: (151, .iconst 4, 1) :: (152, .idiv, 1) :: (153, .iload_n 3, 1) :: (154, .iconst 4, 1) :: (155, .irem, 1) :: (156, .invokevirtual 32, 3) :: (159, .i2l, 1) :: (160, .ladd, 1) :: (161, .lmul, 1) :: (162, .aload_n 0, 1) :: (163, .iload_n 3, 1) :: (164, .iconst 2, 1) :: (165, .invokevirtual 35, 3) :: (168, .i2l, 1) :: (169, .ladd, 1) :: (170, .lstore_n 1, 1) :: (171, .iinc 3 1, 3) :: (174, .goto (-55), 3) :: (177, .ldc2_w 11, 3) :: (180, .lload_n 1, 1) :: (181, .lmul, 1) :: (182, .aload_n 0, 1) :: (183, .invokevirtual 38, 3) :: (186, .i2l, 1) :: (187, .ladd, 1) :: (188, .lreturn, 1) :: []) (by decide +kernel)
theorem e_L_print_140 : decode cL_print 140 = .ok (.iload_n 3, 1) := D_L_print_2.1
theorem e_L_print_141 : decode cL_print 141 = .ok (.iconst 4, 1) := D_L_print_2.2.1
theorem e_L_print_142 : decode cL_print 142 = .ok (.irem, 1) := D_L_print_2.2.2.1
theorem e_L_print_143 : decode cL_print 143 = .ok (.invokevirtual 29, 3) := D_L_print_2.2.2.2.1
theorem e_L_print_146 : decode cL_print 146 = .ok (.i2l, 1) := D_L_print_2.2.2.2.2.1
theorem e_L_print_147 : decode cL_print 147 = .ok (.ladd, 1) := D_L_print_2.2.2.2.2.2.1
theorem e_L_print_148 : decode cL_print 148 = .ok (.lmul, 1) := D_L_print_2.2.2.2.2.2.2.1
theorem e_L_print_149 : decode cL_print 149 = .ok (.aload_n 0, 1) := D_L_print_2.2.2.2.2.2.2.2.1
theorem e_L_print_150 : decode cL_print 150 = .ok (.iload_n 3, 1) := D_L_print_2.2.2.2.2.2.2.2.2.1
theorem e_L_print_151 : decode cL_print 151 = .ok (.iconst 4, 1) := D_L_print_2.2.2.2.2.2.2.2.2.2.1
theorem e_L_print_152 : decode cL_print 152 = .ok (.idiv, 1) := D_L_print_2.2.2.2.2.2.2.2.2.2.2.1
theorem e_L_print_153 : decode cL_print 153 = .ok (.iload_n 3, 1) := D_L_print_2.2.2.2.2.2.2.2.2.2.2.2.1
theorem e_L_print_154 : decode cL_print 154 = .ok (.iconst 4, 1) := D_L_print_2.2.2.2.2.2.2.2.2.2.2.2.2.1
theorem e_L_print_155 : decode cL_print 155 = .ok (.irem, 1) := D_L_print_2.2.2.2.2.2.2.2.2.2.2.2.2.2.1
theorem e_L_print_156 : decode cL_print 156 = .ok (.invokevirtual 32, 3) := D_L_print_2.2.2.2.2.2.2.2.2.2.2.2.2.2.2.1
theorem e_L_print_159 : decode cL_print 159 = .ok (.i2l, 1) := D_L_print_2.2.2.2.2.2.2.2.2.2.2.2.2.2.2.2.1
theorem e_L_print_160 : decode cL_print 160 = .ok (.ladd, 1) := D_L_print_2.2.2.2.2.2.2.2.2.2.2.2.2.2.2.2.2.1
theorem e_L_print_161 : decode cL_print 161 = .ok (.lmul, 1) := D_L_print_2.2.2.2.2.2.2.2.2.2.2.2.2.2.2.2.2.2.1
theorem e_L_print_162 : decode cL_print 162 = .ok (.aload_n 0, 1) := D_L_print_2.2.2.2.2.2.2.2.2.2.2.2.2.2.2.2.2.2.2.1
theorem e_L_print_163 : decode cL_print 163 = .ok (.iload_n 3, 1) := D_L_print_2.2.2.2.2.2.2.2.2.2.2.2.2.2.2.2.2.2.2.2.1
theorem e_L_print_164 : decode cL_print 164 = .ok (.iconst 2, 1) := D_L_print_2.2.2.2.2.2.2.2.2.2.2.2.2.2.2.2.2.2.2.2.2.1
theorem e_L_print_165 : decode cL_print 165 = .ok (.invokevirtual 35, 3) := D_L_print_2.2.2.2.2.2.2.2.2.2.2.2.2.2.2.2.2.2.2.2.2.2.1
theorem e_L_print_168 : decode cL_print 168 = .ok (.i2l, 1) := D_L_print_2.2.2.2.2.2.2.2.2.2.2.2.2.2.2.2.2.2.2.2.2.2.2.1
theorem e_L_print_169 : decode cL_print 169 = .ok (.ladd, 1) := D_L_print_2.2.2.2.2.2.2.2.2.2.2.2.2.2.2.2.2.2.2.2.2.2.2.2.1
theorem e_L_print_170 : decode cL_print 170 = .ok (.lstore_n 1, 1) := D_L_print_2.2.2.2.2.2.2.2.2.2.2.2.2.2.2.2.2.2.2.2.2.2.2.2.2.1
theorem e_L_print_171 : decode cL_print 171 = .ok (.iinc 3 1, 3) := D_L_print_2.2.2.2.2.2.2.2.2.2.2.2.2.2.2.2.2.2.2.2.2.2.2.2.2.2.1
theorem e_L_print_174 : decode cL_print 174 = .ok (.goto (-55), 3) := D_L_print_2.2.2.2.2.2.2.2.2.2.2.2.2.2.2.2.2.2.2.2.2.2.2.2.2.2.2.1
theorem e_L_print_177 : decode cL_print 177 = .ok (.ldc2_w 11, 3) := D_L_print_2.2.2.2.2.2.2.2.2.2.2.2.2.2.2.2.2.2.2.2.2.2.2.2.2.2.2.2.1
theorem e_L_print_180 : decode cL_print 180 = .ok (.lload_n 1, 1) := D_L_print_2.2.2.2.2.2.2.2.2.2.2.2.2.2.2.2.2.2.2.2.2.2.2.2.2.2.2.2.2.1
theorem e_L_print_181 : decode cL_print 181 = .ok (.lmul, 1) := D_L_print_2.2.2.2.2.2.2.2.2.2.2.2.2.2.2.2.2.2.2.2.2.2.2.2.2.2.2.2.2.2.1
theorem e_L_print_182 : decode cL_print 182 = .ok (.aload_n 0, 1) := D_L_print_2.2.2.2.2.2.2.2.2.2.2.2.2.2.2.2.2.2.2.2.2.2.2.2.2.2.2.2.2.2.2.1
theorem e_L_print_183 : decode cL_print 183 = .ok (.invokevirtual 38, 3) := D_L_print_2.2.2.2.2.2.2.2.2.2.2.2.2.2.2.2.2.2.2.2.2.2.2.2.2.2.2.2.2.2.2.2.1
theorem e_L_print_186 : decode cL_print 186 = .ok (.i2l, 1) := D_L_print_2.2.2.2.2.2.2.2.2.2.2.2.2.2.2.2.2.2.2.2.2.2.2.2.2.2.2.2.2.2.2.2.2.1
theorem e_L_print_187 : decode cL_print 187 = .ok (.ladd, 1) := D_L_print_2.2.2.2.2.2.2.2.2.2.2.2.2.2.2.2.2.2.2.2.2.2.2.2.2.2.2.2.2.2.2.2.2.2.1
theorem e_L_print_188 : decode cL_print 188 = .ok (.lreturn, 1) := D_L_print_2.2.2.2.2.2.2.2.2.2.2.2.2.2.2.2.2.2.2.2.2.2.2.2.2.2.2.2.2.2.2.2.2.2.2.1
set_option maxRecDepth 100000 in
theorem D_L_refused_0 : decode cL_refused 0 = .ok (.aload_n 0, 1) ∧ decode cL_refused 1 = .ok (.invokestatic 42, 3) ∧ decode cL_refused 4 = .ok (.lstore_n 1, 1) ∧ decode cL_refused 5 = .ok (.aload_n 0, 1) ∧ decode cL_refused 6 = .ok (.bipush 15, 2) ∧ decode cL_refused 8 = .ok (.invokevirtual 13, 3) ∧ decode cL_refused 11 = .ok (.istore_n 3, 1) ∧ decode cL_refused 12 = .ok (.aload_n 0, 1) ∧ decode cL_refused 13 = .ok (.iconst 2, 1) ∧ decode cL_refused 14 = .ok (.invokevirtual 13, 3) ∧ decode cL_refused 17 = .ok (.istore 4, 2) ∧ decode cL_refused 19 = .ok (.aload_n 0, 1) ∧ decode cL_refused 20 = .ok (.iconst (-1), 1) ∧ decode cL_refused 21 = .ok (.iconst 5, 1) ∧ decode cL_refused 22 = .ok (.invokevirtual 48, 3) ∧ decode cL_refused 25 = .ok (.iconst (-1), 1) ∧ decode cL_refused 26 = .ok (.if_icmp .ne 177, 3) ∧ decode cL_refused 29 = .ok (.aload_n 0, 1) ∧ decode cL_refused 30 = .ok (.iconst 0, 1) ∧ decode cL_refused 31 = .ok (.sipush 501, 3) ∧ decode cL_refused 34 = .ok (.invokevirtual 48, 3) ∧ decode cL_refused 37 = .ok (.iconst (-1), 1) ∧ decode cL_refused 38 = .ok (.if_icmp .ne 165, 3) ∧ decode cL_refused 41 = .ok (.aload_n 0, 1) ∧ decode cL_refused 42 = .ok (.iconst 0, 1) ∧ decode cL_refused 43 = .ok (.iconst 0, 1) ∧ decode cL_refused 44 = .ok (.iconst 4, 1) ∧ decode cL_refused 45 = .ok (.invokevirtual 51, 3) ∧ decode cL_refused 48 = .ok (.iconst (-1), 1) ∧ decode cL_refused 49 = .ok (.if_icmp .ne 154, 3) ∧ decode cL_refused 52 = .ok (.aload_n 0, 1) ∧ decode cL_refused 53 = .ok (.iconst 0, 1) ∧ decode cL_refused 54 = .ok (.iconst (-1), 1) ∧ decode cL_refused 55 = .ok (.invokevirtual 29, 3) ∧ decode cL_refused 58 = .ok (.iconst (-1), 1) ∧ decode cL_refused 59 = .ok (.if_icmp .ne 144, 3) ∧ decode cL_refused 62 = .ok (.aload_n 0, 1) ∧ decode cL_refused 63 = .ok (.iconst (-1), 1) ∧ decode cL_refused 64 = .ok (.invokevirtual 55, 3) ∧ decode cL_refused 67 = .ok (.iconst (-1), 1) ∧ True := dq_of (l := (0, .aload_n 0, 1) :: (1, .invokestatic 42, 3) :: (4, .lstore_n 1, 1) :: (5, .aload_n 0, 1) :: (6, .bipush 15, 2) :: (8, .invokevirtual 13, 3) :: (11, .istore_n 3, 1) :: (12, .aload_n 0, 1) :: (13, .iconst 2, 1) :: (14, .invokevirtual 13, 3) :: (17, .istore 4, 2) :: (19, .aload_n 0, 1) :: (20, .iconst (-1), 1) :: (21, .iconst 5, 1) :: (22, .invokevirtual 48, 3) :: (25, .iconst (-1), 1) :: (26, .if_icmp .ne 177, 3) :: (29, .aload_n 0, 1) :: (30, .iconst 0, 1) :: (31, .sipush 501, 3) :: (34, .invokevirtual 48, 3) :: (37, .iconst (-1), 1) :: (38, .if_icmp .ne 165, 3) :: (41, .aload_n 0, 1) :: (42, .iconst 0, 1) :: (43, .iconst 0, 1) :: (44, .iconst 4, 1) :: (45, .invokevirtual 51, 3) :: (48, .iconst (-1), 1) :: (49, .if_icmp .ne 154, 3) :: (52, .aload_n 0, 1) :: (53, .iconst 0, 1) :: (54, .iconst (-1), 1) :: (55, .invokevirtual 29, 3) :: (58, .iconst (-1), 1) :: (59, .if_icmp .ne 144, 3) :: (62, .aload_n 0, 1) :: (63, .iconst (-1), 1) :: (64, .invokevirtual 55, 3) :: (67, .iconst (-1), 1) :: []) (by decide +kernel)
theorem e_L_refused_0 : decode cL_refused 0 = .ok (.aload_n 0, 1) := D_L_refused_0.1
theorem e_L_refused_1 : decode cL_refused 1 = .ok (.invokestatic 42, 3) := D_L_refused_0.2.1
theorem e_L_refused_4 : decode cL_refused 4 = .ok (.lstore_n 1, 1) := D_L_refused_0.2.2.1
theorem e_L_refused_5 : decode cL_refused 5 = .ok (.aload_n 0, 1) := D_L_refused_0.2.2.2.1
theorem e_L_refused_6 : decode cL_refused 6 = .ok (.bipush 15, 2) := D_L_refused_0.2.2.2.2.1
theorem e_L_refused_8 : decode cL_refused 8 = .ok (.invokevirtual 13, 3) := D_L_refused_0.2.2.2.2.2.1
theorem e_L_refused_11 : decode cL_refused 11 = .ok (.istore_n 3, 1) := D_L_refused_0.2.2.2.2.2.2.1
theorem e_L_refused_12 : decode cL_refused 12 = .ok (.aload_n 0, 1) := D_L_refused_0.2.2.2.2.2.2.2.1
theorem e_L_refused_13 : decode cL_refused 13 = .ok (.iconst 2, 1) := D_L_refused_0.2.2.2.2.2.2.2.2.1
theorem e_L_refused_14 : decode cL_refused 14 = .ok (.invokevirtual 13, 3) := D_L_refused_0.2.2.2.2.2.2.2.2.2.1
theorem e_L_refused_17 : decode cL_refused 17 = .ok (.istore 4, 2) := D_L_refused_0.2.2.2.2.2.2.2.2.2.2.1
theorem e_L_refused_19 : decode cL_refused 19 = .ok (.aload_n 0, 1) := D_L_refused_0.2.2.2.2.2.2.2.2.2.2.2.1
theorem e_L_refused_20 : decode cL_refused 20 = .ok (.iconst (-1), 1) := D_L_refused_0.2.2.2.2.2.2.2.2.2.2.2.2.1
theorem e_L_refused_21 : decode cL_refused 21 = .ok (.iconst 5, 1) := D_L_refused_0.2.2.2.2.2.2.2.2.2.2.2.2.2.1
theorem e_L_refused_22 : decode cL_refused 22 = .ok (.invokevirtual 48, 3) := D_L_refused_0.2.2.2.2.2.2.2.2.2.2.2.2.2.2.1
theorem e_L_refused_25 : decode cL_refused 25 = .ok (.iconst (-1), 1) := D_L_refused_0.2.2.2.2.2.2.2.2.2.2.2.2.2.2.2.1
theorem e_L_refused_26 : decode cL_refused 26 = .ok (.if_icmp .ne 177, 3) := D_L_refused_0.2.2.2.2.2.2.2.2.2.2.2.2.2.2.2.2.1
theorem e_L_refused_29 : decode cL_refused 29 = .ok (.aload_n 0, 1) := D_L_refused_0.2.2.2.2.2.2.2.2.2.2.2.2.2.2.2.2.2.1
theorem e_L_refused_30 : decode cL_refused 30 = .ok (.iconst 0, 1) := D_L_refused_0.2.2.2.2.2.2.2.2.2.2.2.2.2.2.2.2.2.2.1
theorem e_L_refused_31 : decode cL_refused 31 = .ok (.sipush 501, 3) := D_L_refused_0.2.2.2.2.2.2.2.2.2.2.2.2.2.2.2.2.2.2.2.1
theorem e_L_refused_34 : decode cL_refused 34 = .ok (.invokevirtual 48, 3) := D_L_refused_0.2.2.2.2.2.2.2.2.2.2.2.2.2.2.2.2.2.2.2.2.1
theorem e_L_refused_37 : decode cL_refused 37 = .ok (.iconst (-1), 1) := D_L_refused_0.2.2.2.2.2.2.2.2.2.2.2.2.2.2.2.2.2.2.2.2.2.1
theorem e_L_refused_38 : decode cL_refused 38 = .ok (.if_icmp .ne 165, 3) := D_L_refused_0.2.2.2.2.2.2.2.2.2.2.2.2.2.2.2.2.2.2.2.2.2.2.1
theorem e_L_refused_41 : decode cL_refused 41 = .ok (.aload_n 0, 1) := D_L_refused_0.2.2.2.2.2.2.2.2.2.2.2.2.2.2.2.2.2.2.2.2.2.2.2.1
theorem e_L_refused_42 : decode cL_refused 42 = .ok (.iconst 0, 1) := D_L_refused_0.2.2.2.2.2.2.2.2.2.2.2.2.2.2.2.2.2.2.2.2.2.2.2.2.1
theorem e_L_refused_43 : decode cL_refused 43 = .ok (.iconst 0, 1) := D_L_refused_0.2.2.2.2.2.2.2.2.2.2.2.2.2.2.2.2.2.2.2.2.2.2.2.2.2.1
theorem e_L_refused_44 : decode cL_refused 44 = .ok (.iconst 4, 1) := D_L_refused_0.2.2.2.2.2.2.2.2.2.2.2.2.2.2.2.2.2.2.2.2.2.2.2.2.2.2.1
theorem e_L_refused_45 : decode cL_refused 45 = .ok (.invokevirtual 51, 3) := D_L_refused_0.2.2.2.2.2.2.2.2.2.2.2.2.2.2.2.2.2.2.2.2.2.2.2.2.2.2.2.1
theorem e_L_refused_48 : decode cL_refused 48 = .ok (.iconst (-1), 1) := D_L_refused_0.2.2.2.2.2.2.2.2.2.2.2.2.2.2.2.2.2.2.2.2.2.2.2.2.2.2.2.2.1
theorem e_L_refused_49 : decode cL_refused 49 = .ok (.if_icmp .ne 154, 3) := D_L_refused_0.2.2.2.2.2.2.2.2.2.2.2.2.2.2.2.2.2.2.2.2.2.2.2.2.2.2.2.2.2.1
theorem e_L_refused_52 : decode cL_refused 52 = .ok (.aload_n 0, 1) := D_L_refused_0.2.2.2.2.2.2.2.2.2.2.2.2.2.2.2.2.2.2.2.2.2.2.2.2.2.2.2.2.2.2.1
theorem e_L_refused_53 : decode cL_refused 53 = .ok (.iconst 0, 1) := D_L_refused_0.2.2.2.2.2.2.2.2.2.2.2.2.2.2.2.2.2.2.2.2.2.2.2.2.2.2.2.2.2.2.2.1
theorem e_L_refused_54 : decode cL_refused 54 = .ok (.iconst (-1), 1) := D_L_refused_0.2.2.2.2.2.2.2.2.2.2.2.2.2.2.2.2.2.2.2.2.2.2.2.2.2.2.2.2.2.2.2.2.1
theorem e_L_refused_55 : decode cL_refused 55 = .ok (.invokevirtual 29, 3) := D_L_refused_0.2.2.2.2.2.2.2.2.2.2.2.2.2.2.2.2.2.2.2.2.2.2.2.2.2.2.2.2.2.2.2.2.2.1
theorem e_L_refused_58 : decode cL_refused 58 = .ok (.iconst (-1), 1) := D_L_refused_0.2.2.2.2.2.2.2.2.2.2.2.2.2.2.2.2.2.2.2.2.2.2.2.2.2.2.2.2.2.2.2.2.2.2.1
theorem e_L_refused_59 : decode cL_refused 59 = .ok (.if_icmp .ne 144, 3) := D_L_refused_0.2.2.2.2.2.2.2.2.2.2.2.2.2.2.2.2.2.2.2.2.2.2.2.2.2.2.2.2.2.2.2.2.2.2.2.1
theorem e_L_refused_62 : decode cL_refused 62 = .ok (.aload_n 0, 1) := D_L_refused_0.2.2.2.2.2.2.2.2.2.2.2.2.2.2.2.2.2.2.2.2.2.2.2.2.2.2.2.2.2.2.2.2.2.2.2.2.1
theorem e_L_refused_63 : decode cL_refused 63 = .ok (.iconst (-1), 1) := D_L_refused_0.2.2.2.2.2.2.2.2.2.2.2.2.2.2.2.2.2.2.2.2.2.2.2.2.2.2.2.2.2.2.2.2.2.2.2.2.2.1
theorem e_L_refused_64 : decode cL_refused 64 = .ok (.invokevirtual 55, 3) := D_L_refused_0.2.2.2.2.2.2.2.2.2.2.2.2.2.2.2.2.2.2.2.2.2.2.2.2.2.2.2.2.2.2.2.2.2.2.2.2.2.2.1
theorem e_L_refused_67 : decode cL_refused 67 = .ok (.iconst (-1), 1) := D_L_refused_0.2.2.2.2.2.2.2.2.2.2.2.2.2.2.2.2.2.2.2.2.2.2.2.2.2.2.2.2.2.2.2.2.2.2.2.2.2.2.2.1
set_option maxRecDepth 100000 in
theorem D_L_refused_1 : decode cL_refused 68 = .ok (.if_icmp .ne 135, 3) ∧ decode cL_refused 71 = .ok (.aload_n 0, 1) ∧ decode cL_refused 72 = .ok (.iconst (-1), 1) ∧ decode cL_refused 73 = .ok (.iconst 5, 1) ∧ decode cL_refused 74 = .ok (.invokevirtual 58, 3) ∧ decode cL_refused 77 = .ok (.iconst (-1), 1) ∧ decode cL_refused 78 = .ok (.if_icmp .ne 125, 3) ∧ decode cL_refused 81 = .ok (.aload_n 0, 1) ∧ decode cL_refused 82 = .ok (.iconst 5, 1) ∧ decode cL_refused 83 = .ok (.sipush 1001, 3) ∧ decode cL_refused 86 = .ok (.invokevirtual 58, 3) ∧ decode cL_refused 89 = .ok (.iconst (-1), 1) ∧ decode cL_refused 90 = .ok (.if_icmp .ne 113, 3) ∧ decode cL_refused 93 = .ok (.aload_n 0, 1) ∧ decode cL_refused 94 = .ok (.iconst 0, 1) ∧ decode cL_refused 95 = .ok (.iconst 1, 1) ∧ decode cL_refused 96 = .ok (.iconst 0, 1) ∧ decode cL_refused 97 = .ok (.iconst 0, 1) ∧ decode cL_refused 98 = .ok (.iconst 0, 1) ∧ decode cL_refused 99 = .ok (.invokevirtual 61, 3) ∧ decode cL_refused 102 = .ok (.iconst (-1), 1) ∧ decode cL_refused 103 = .ok (.if_icmp .ne 100, 3) ∧ decode cL_refused 106 = .ok (.aload_n 0, 1) ∧ decode cL_refused 107 = .ok (.iconst 1, 1) ∧ decode cL_refused 108 = .ok (.iconst 0, 1) ∧ decode cL_refused 109 = .ok (.iconst 0, 1) ∧ decode cL_refused 110 = .ok (.iconst 0, 1) ∧ decode cL_refused 111 = .ok (.iconst 0, 1) ∧ decode cL_refused 112 = .ok (.invokevirtual 61, 3) ∧ decode cL_refused 115 = .ok (.iconst (-1), 1) ∧ decode cL_refused 116 = .ok (.if_icmp .ne 87, 3) ∧ decode cL_refused 119 = .ok (.aload_n 0, 1) ∧ decode cL_refused 120 = .ok (.iconst 1, 1) ∧ decode cL_refused 121 = .ok (.iconst 1, 1) ∧ decode cL_refused 122 = .ok (.iconst 0, 1) ∧ decode cL_refused 123 = .ok (.iconst 0, 1) ∧ decode cL_refused 124 = .ok (.bipush 13, 2) ∧ decode cL_refused 126 = .ok (.invokevirtual 61, 3) ∧ decode cL_refused 129 = .ok (.iconst (-1), 1) ∧ decode cL_refused 130 = .ok (.if_icmp .ne 73, 3) ∧ True := dq_of (l := (68, .if_icmp .ne 135, 3) :: (71, .aload_n 0, 1) :: (72, .iconst (-1), 1) :: (73, .iconst 5, 1) :: (74, .invokevirtual 58, 3) :: (77, .iconst (-1), 1) :: (78, .if_icmp .ne 125, 3) :: (81, .aload_n 0, 1) :: (82, .iconst 5, 1) :: (83, .sipush 1001, 3) :: (86, .invokevirtual 58, 3) :: (89, .iconst (-1), 1) :: (90, .if_icmp .ne 113, 3) :: (93, .aload_n 0, 1) :: (94, .iconst 0, 1) :: (95, .iconst 1, 1) :: (96, .iconst 0, 1) :: (97, .iconst 0, 1) :: (98, .iconst 0, 1) :: (99, .invokevirtual 61, 3) :: (102, .iconst (-1), 1) :: (103, .if_icmp .ne 100, 3) :: (106, .aload_n 0, 1) :: (107, .iconst 1, 1) :: (108, .iconst 0, 1) :: (109, .iconst 0, 1) :: (110, .iconst 0, 1) :: (111, .iconst 0, 1) :: (112, .invokevirtual 61, 3) :: (115, .iconst (-1), 1) :: (116, .if_icmp .ne 87, 3) :: (119, .aload_n 0, 1) :: (120, .iconst 1, 1) :: (121, .iconst 1, 1) :: (122, .iconst 0, 1) :: (123, .iconst 0, 1) :: (124, .bipush 13, 2) :: (126, .invokevirtual 61, 3) :: (129, .iconst (-1), 1) :: (130, .if_icmp .ne 73, 3) :: []) (by decide +kernel)
theorem e_L_refused_68 : decode cL_refused 68 = .ok (.if_icmp .ne 135, 3) := D_L_refused_1.1
theorem e_L_refused_71 : decode cL_refused 71 = .ok (.aload_n 0, 1) := D_L_refused_1.2.1
theorem e_L_refused_72 : decode cL_refused 72 = .ok (.iconst (-1), 1) := D_L_refused_1.2.2.1
theorem e_L_refused_73 : decode cL_refused 73 = .ok (.iconst 5, 1) := D_L_refused_1.2.2.2.1
theorem e_L_refused_74 : decode cL_refused 74 = .ok (.invokevirtual 58, 3) := D_L_refused_1.2.2.2.2.1
theorem e_L_refused_77 : decode cL_refused 77 = .ok (.iconst (-1), 1) := D_L_refused_1.2.2.2.2.2.1
theorem e_L_refused_78 : decode cL_refused 78 = .ok (.if_icmp .ne 125, 3) := D_L_refused_1.2.2.2.2.2.2.1
theorem e_L_refused_81 : decode cL_refused 81 = .ok (.aload_n 0, 1) := D_L_refused_1.2.2.2.2.2.2.2.1
theorem e_L_refused_82 : decode cL_refused 82 = .ok (.iconst 5, 1) := D_L_refused_1.2.2.2.2.2.2.2.2.1
theorem e_L_refused_83 : decode cL_refused 83 = .ok (.sipush 1001, 3) := D_L_refused_1.2.2.2.2.2.2.2.2.2.1
theorem e_L_refused_86 : decode cL_refused 86 = .ok (.invokevirtual 58, 3) := D_L_refused_1.2.2.2.2.2.2.2.2.2.2.1
theorem e_L_refused_89 : decode cL_refused 89 = .ok (.iconst (-1), 1) := D_L_refused_1.2.2.2.2.2.2.2.2.2.2.2.1
theorem e_L_refused_90 : decode cL_refused 90 = .ok (.if_icmp .ne 113, 3) := D_L_refused_1.2.2.2.2.2.2.2.2.2.2.2.2.1
theorem e_L_refused_93 : decode cL_refused 93 = .ok (.aload_n 0, 1) := D_L_refused_1.2.2.2.2.2.2.2.2.2.2.2.2.2.1
theorem e_L_refused_94 : decode cL_refused 94 = .ok (.iconst 0, 1) := D_L_refused_1.2.2.2.2.2.2.2.2.2.2.2.2.2.2.1
theorem e_L_refused_95 : decode cL_refused 95 = .ok (.iconst 1, 1) := D_L_refused_1.2.2.2.2.2.2.2.2.2.2.2.2.2.2.2.1
theorem e_L_refused_96 : decode cL_refused 96 = .ok (.iconst 0, 1) := D_L_refused_1.2.2.2.2.2.2.2.2.2.2.2.2.2.2.2.2.1
theorem e_L_refused_97 : decode cL_refused 97 = .ok (.iconst 0, 1) := D_L_refused_1.2.2.2.2.2.2.2.2.2.2.2.2.2.2.2.2.2.1
theorem e_L_refused_98 : decode cL_refused 98 = .ok (.iconst 0, 1) := D_L_refused_1.2.2.2.2.2.2.2.2.2.2.2.2.2.2.2.2.2.2.1
theorem e_L_refused_99 : decode cL_refused 99 = .ok (.invokevirtual 61, 3) := D_L_refused_1.2.2.2.2.2.2.2.2.2.2.2.2.2.2.2.2.2.2.2.1
theorem e_L_refused_102 : decode cL_refused 102 = .ok (.iconst (-1), 1) := D_L_refused_1.2.2.2.2.2.2.2.2.2.2.2.2.2.2.2.2.2.2.2.2.1
theorem e_L_refused_103 : decode cL_refused 103 = .ok (.if_icmp .ne 100, 3) := D_L_refused_1.2.2.2.2.2.2.2.2.2.2.2.2.2.2.2.2.2.2.2.2.2.1
theorem e_L_refused_106 : decode cL_refused 106 = .ok (.aload_n 0, 1) := D_L_refused_1.2.2.2.2.2.2.2.2.2.2.2.2.2.2.2.2.2.2.2.2.2.2.1
theorem e_L_refused_107 : decode cL_refused 107 = .ok (.iconst 1, 1) := D_L_refused_1.2.2.2.2.2.2.2.2.2.2.2.2.2.2.2.2.2.2.2.2.2.2.2.1
theorem e_L_refused_108 : decode cL_refused 108 = .ok (.iconst 0, 1) := D_L_refused_1.2.2.2.2.2.2.2.2.2.2.2.2.2.2.2.2.2.2.2.2.2.2.2.2.1
theorem e_L_refused_109 : decode cL_refused 109 = .ok (.iconst 0, 1) := D_L_refused_1.2.2.2.2.2.2.2.2.2.2.2.2.2.2.2.2.2.2.2.2.2.2.2.2.2.1
theorem e_L_refused_110 : decode cL_refused 110 = .ok (.iconst 0, 1) := D_L_refused_1.2.2.2.2.2.2.2.2.2.2.2.2.2.2.2.2.2.2.2.2.2.2.2.2.2.2.1
theorem e_L_refused_111 : decode cL_refused 111 = .ok (.iconst 0, 1) := D_L_refused_1.2.2.2.2.2.2.2.2.2.2.2.2.2.2.2.2.2.2.2.2.2.2.2.2.2.2.2.1
theorem e_L_refused_112 : decode cL_refused 112 = .ok (.invokevirtual 61, 3) := D_L_refused_1.2.2.2.2.2.2.2.2.2.2.2.2.2.2.2.2.2.2.2.2.2.2.2.2.2.2.2.2.1
theorem e_L_refused_115 : decode cL_refused 115 = .ok (.iconst (-1), 1) := D_L_refused_1.2.2.2.2.2.2.2.2.2.2.2.2.2.2.2.2.2.2.2.2.2.2.2.2.2.2.2.2.2.1
theorem e_L_refused_116 : decode cL_refused 116 = .ok (.if_icmp .ne 87, 3) := D_L_refused_1.2.2.2.2.2.2.2.2.2.2.2.2.2.2.2.2.2.2.2.2.2.2.2.2.2.2.2.2.2.2.1
theorem e_L_refused_119 : decode cL_refused 119 = .ok (.aload_n 0, 1) := D_L_refused_1.2.2.2.2.2.2.2.2.2.2.2.2.2.2.2.2.2.2.2.2.2.2.2.2.2.2.2.2.2.2.2.1
theorem e_L_refused_120 : decode cL_refused 120 = .ok (.iconst 1, 1) := D_L_refused_1.2.2.2.2.2.2.2.2.2.2.2.2.2.2.2.2.2.2.2.2.2.2.2.2.2.2.2.2.2.2.2.2.1
theorem e_L_refused_121 : decode cL_refused 121 = .ok (.iconst 1, 1) := D_L_refused_1.2.2.2.2.2.2.2.2.2.2.2.2.2.2.2.2.2.2.2.2.2.2.2.2.2.2.2.2.2.2.2.2.2.1
theorem e_L_refused_122 : decode cL_refused 122 = .ok (.iconst 0, 1) := D_L_refused_1.2.2.2.2.2.2.2.2.2.2.2.2.2.2.2.2.2.2.2.2.2.2.2.2.2.2.2.2.2.2.2.2.2.2.1
theorem e_L_refused_123 : decode cL_refused 123 = .ok (.iconst 0, 1) := D_L_refused_1.2.2.2.2.2.2.2.2.2.2.2.2.2.2.2.2.2.2.2.2.2.2.2.2.2.2.2.2.2.2.2.2.2.2.2.1
theorem e_L_refused_124 : decode cL_refused 124 = .ok (.bipush 13, 2) := D_L_refused_1.2.2.2.2.2.2.2.2.2.2.2.2.2.2.2.2.2.2.2.2.2.2.2.2.2.2.2.2.2.2.2.2.2.2.2.2.1
theorem e_L_refused_126 : decode cL_refused 126 = .ok (.invokevirtual 61, 3) := D_L_refused_1.2.2.2.2.2.2.2.2.2.2.2.2.2.2.2.2.2.2.2.2.2.2.2.2.2.2.2.2.2.2.2.2.2.2.2.2.2.1
theorem e_L_refused_129 : decode cL_refused 129 = .ok (.iconst (-1), 1) := D_L_refused_1.2.2.2.2.2.2.2.2.2.2.2.2.2.2.2.2.2.2.2.2.2.2.2.2.2.2.2.2.2.2.2.2.2.2.2.2.2.2.1
theorem e_L_refused_130 : decode cL_refused 130 = .ok (.if_icmp .ne 73, 3) := D_L_refused_1.2.2.2.2.2.2.2.2.2.2.2.2.2.2.2.2.2.2.2.2.2.2.2.2.2.2.2.2.2.2.2.2.2.2.2.2.2.2.2.1
set_option maxRecDepth 100000 in
theorem D_L_refused_2 : decode cL_refused 133 = .ok (.aload_n 0, 1) ∧ decode cL_refused 134 = .ok (.iconst 1, 1) ∧ decode cL_refused 135 = .ok (.iconst 1, 1) ∧ decode cL_refused 136 = .ok (.iconst 0, 1) ∧ decode cL_refused 137 = .ok (.iconst 0, 1) ∧ decode cL_refused 138 = .ok (.iconst 4, 1) ∧ decode cL_refused 139 = .ok (.invokevirtual 61, 3) ∧ decode cL_refused 142 = .ok (.bipush (-2), 2) ∧ decode cL_refused 144 = .ok (.if_icmp .ne 59, 3) ∧ decode cL_refused 147 = .ok (.aload_n 0, 1) ∧ decode cL_refused 148 = .ok (.invokevirtual 65, 3) ∧ decode cL_refused 151 = .ok (.iconst 1, 1) ∧ decode cL_refused 152 = .ok (.if_icmp .ne 51, 3) ∧ decode cL_refused 155 = .ok (.aload_n 0, 1) ∧ decode cL_refused 156 = .ok (.iload 4, 2) ∧ decode cL_refused 158 = .ok (.iconst 0, 1) ∧ decode cL_refused 159 = .ok (.invokevirtual 68, 3) ∧ decode cL_refused 162 = .ok (.bipush (-4), 2) ∧ decode cL_refused 164 = .ok (.if_icmp .ne 39, 3) ∧ decode cL_refused 167 = .ok (.aload_n 0, 1) ∧ decode cL_refused 168 = .ok (.iconst 0, 1) ∧ decode cL_refused 169 = .ok (.iconst 2, 1) ∧ decode cL_refused 170 = .ok (.invokevirtual 68, 3) ∧ decode cL_refused 173 = .ok (.iconst (-1), 1) ∧ decode cL_refused 174 = .ok (.if_icmp .ne 29, 3) ∧ decode cL_refused 177 = .ok (.aload_n 0, 1) ∧ decode cL_refused 178 = .ok (.iload 4, 2) ∧ decode cL_refused 180 = .ok (.invokevirtual 71, 3) ∧ decode cL_refused 183 = .ok (.bipush (-4), 2) ∧ decode cL_refused 185 = .ok (.if_icmp .ne 18, 3) ∧ decode cL_refused 188 = .ok (.aload_n 0, 1) ∧ decode cL_refused 189 = .ok (.bipush (-2), 2) ∧ decode cL_refused 191 = .ok (.iconst 3, 1) ∧ decode cL_refused 192 = .ok (.invokevirtual 74, 3) ∧ decode cL_refused 195 = .ok (.iconst (-1), 1) ∧ decode cL_refused 196 = .ok (.if_icmp .ne 7, 3) ∧ decode cL_refused 199 = .ok (.iconst 1, 1) ∧ decode cL_refused 200 = .ok (.goto 4, 3) ∧ decode cL_refused 203 = .ok (.iconst 0, 1) ∧ decode cL_refused 204 = .ok (.istore 5, 2) ∧ True := dq_of (l := (133, .aload_n 0, 1) :: (134, .iconst 1, 1) :: (135, .iconst 1, 1) :: (136, .iconst 0, 1) :: (137, .iconst 0, 1) :: (138, .iconst 4, 1) :: (139, .invokevirtual 61, 3) :: (142, .bipush (-2), 2) :: (144, .if_icmp .ne 59, 3) :: (147, .aload_n 0, 1) :: (148, .invokevirtual 65, 3) :: (151, .iconst 1, 1) :: (152, .if_icmp .ne 51, 3) :: (155, .aload_n 0, 1) :: (156, .iload 4, 2) :: (158, .iconst 0, 1) :: (159, .invokevirtual 68, 3) :: (162, .bipush (-4), 2) :: (164, .if_icmp .ne 39, 3) :: (167, .aload_n 0, 1) :: (168, .iconst 0, 1) :: (169, .iconst 2, 1) :: (170, .invokevirtual 68, 3) :: (173, .iconst (-1), 1) :: (174, .if_icmp .ne 29, 3) :: (177, .aload_n 0, 1) :: (178, .iload 4, 2) :: (180, .invokevirtual 71, 3) :: (183, .bipush (-4), 2) :: (185, .if_icmp .ne 18, 3) :: (188, .aload_n 0, 1) :: (189, .bipush (-2), 2) :: (191, .iconst 3, 1) :: (192, .invokevirtual 74, 3) :: (195, .iconst (-1), 1) :: (196, .if_icmp .ne 7, 3) :: (199, .iconst 1, 1) :: (200, .goto 4, 3) :: (203, .iconst 0, 1) :: (204, .istore 5, 2) :: []) (by decide +kernel)
theorem e_L_refused_133 : decode cL_refused 133 = .ok (.aload_n 0, 1) := D_L_refused_2.1
theorem e_L_refused_134 : decode cL_refused 134 = .ok (.iconst 1, 1) := D_L_refused_2.2.1
theorem e_L_refused_135 : decode cL_refused 135 = .ok (.iconst 1, 1) := D_L_refused_2.2.2.1
theorem e_L_refused_136 : decode cL_refused 136 = .ok (.iconst 0, 1) := D_L_refused_2.2.2.2.1
theorem e_L_refused_137 : decode cL_refused 137 = .ok (.iconst 0, 1) := D_L_refused_2.2.2.2.2.1
theorem e_L_refused_138 : decode cL_refused 138 = .ok (.iconst 4, 1) := D_L_refused_2.2.2.2.2.2.1
theorem e_L_refused_139 : decode cL_refused 139 = .ok (.invokevirtual 61, 3) := D_L_refused_2.2.2.2.2.2.2.1
theorem e_L_refused_142 : decode cL_refused 142 = .ok (.bipush (-2), 2) := D_L_refused_2.2.2.2.2.2.2.2.1
theorem e_L_refused_144 : decode cL_refused 144 = .ok (.if_icmp .ne 59, 3) := D_L_refused_2.2.2.2.2.2.2.2.2.1
theorem e_L_refused_147 : decode cL_refused 147 = .ok (.aload_n 0, 1) := D_L_refused_2.2.2.2.2.2.2.2.2.2.1
theorem e_L_refused_148 : decode cL_refused 148 = .ok (.invokevirtual 65, 3) := D_L_refused_2.2.2.2.2.2.2.2.2.2.2.1
theorem e_L_refused_151 : decode cL_refused 151 = .ok (.iconst 1, 1) := D_L_refused_2.2.2.2.2.2.2.2.2.2.2.2.1
theorem e_L_refused_152 : decode cL_refused 152 = .ok (.if_icmp .ne 51, 3) := D_L_refused_2.2.2.2.2.2.2.2.2.2.2.2.2.1
theorem e_L_refused_155 : decode cL_refused 155 = .ok (.aload_n 0, 1) := D_L_refused_2.2.2.2.2.2.2.2.2.2.2.2.2.2.1
theorem e_L_refused_156 : decode cL_refused 156 = .ok (.iload 4, 2) := D_L_refused_2.2.2.2.2.2.2.2.2.2.2.2.2.2.2.1
theorem e_L_refused_158 : decode cL_refused 158 = .ok (.iconst 0, 1) := D_L_refused_2.2.2.2.2.2.2.2.2.2.2.2.2.2.2.2.1
theorem e_L_refused_159 : decode cL_refused 159 = .ok (.invokevirtual 68, 3) := D_L_refused_2.2.2.2.2.2.2.2.2.2.2.2.2.2.2.2.2.1
theorem e_L_refused_162 : decode cL_refused 162 = .ok (.bipush (-4), 2) := D_L_refused_2.2.2.2.2.2.2.2.2.2.2.2.2.2.2.2.2.2.1
theorem e_L_refused_164 : decode cL_refused 164 = .ok (.if_icmp .ne 39, 3) := D_L_refused_2.2.2.2.2.2.2.2.2.2.2.2.2.2.2.2.2.2.2.1
theorem e_L_refused_167 : decode cL_refused 167 = .ok (.aload_n 0, 1) := D_L_refused_2.2.2.2.2.2.2.2.2.2.2.2.2.2.2.2.2.2.2.2.1
theorem e_L_refused_168 : decode cL_refused 168 = .ok (.iconst 0, 1) := D_L_refused_2.2.2.2.2.2.2.2.2.2.2.2.2.2.2.2.2.2.2.2.2.1
theorem e_L_refused_169 : decode cL_refused 169 = .ok (.iconst 2, 1) := D_L_refused_2.2.2.2.2.2.2.2.2.2.2.2.2.2.2.2.2.2.2.2.2.2.1
theorem e_L_refused_170 : decode cL_refused 170 = .ok (.invokevirtual 68, 3) := D_L_refused_2.2.2.2.2.2.2.2.2.2.2.2.2.2.2.2.2.2.2.2.2.2.2.1
theorem e_L_refused_173 : decode cL_refused 173 = .ok (.iconst (-1), 1) := D_L_refused_2.2.2.2.2.2.2.2.2.2.2.2.2.2.2.2.2.2.2.2.2.2.2.2.1
theorem e_L_refused_174 : decode cL_refused 174 = .ok (.if_icmp .ne 29, 3) := D_L_refused_2.2.2.2.2.2.2.2.2.2.2.2.2.2.2.2.2.2.2.2.2.2.2.2.2.1
theorem e_L_refused_177 : decode cL_refused 177 = .ok (.aload_n 0, 1) := D_L_refused_2.2.2.2.2.2.2.2.2.2.2.2.2.2.2.2.2.2.2.2.2.2.2.2.2.2.1
theorem e_L_refused_178 : decode cL_refused 178 = .ok (.iload 4, 2) := D_L_refused_2.2.2.2.2.2.2.2.2.2.2.2.2.2.2.2.2.2.2.2.2.2.2.2.2.2.2.1
theorem e_L_refused_180 : decode cL_refused 180 = .ok (.invokevirtual 71, 3) := D_L_refused_2.2.2.2.2.2.2.2.2.2.2.2.2.2.2.2.2.2.2.2.2.2.2.2.2.2.2.2.1
theorem e_L_refused_183 : decode cL_refused 183 = .ok (.bipush (-4), 2) := D_L_refused_2.2.2.2.2.2.2.2.2.2.2.2.2.2.2.2.2.2.2.2.2.2.2.2.2.2.2.2.2.1
theorem e_L_refused_185 : decode cL_refused 185 = .ok (.if_icmp .ne 18, 3) := D_L_refused_2.2.2.2.2.2.2.2.2.2.2.2.2.2.2.2.2.2.2.2.2.2.2.2.2.2.2.2.2.2.1
theorem e_L_refused_188 : decode cL_refused 188 = .ok (.aload_n 0, 1) := D_L_refused_2.2.2.2.2.2.2.2.2.2.2.2.2.2.2.2.2.2.2.2.2.2.2.2.2.2.2.2.2.2.2.1
theorem e_L_refused_189 : decode cL_refused 189 = .ok (.bipush (-2), 2) := D_L_refused_2.2.2.2.2.2.2.2.2.2.2.2.2.2.2.2.2.2.2.2.2.2.2.2.2.2.2.2.2.2.2.2.1
theorem e_L_refused_191 : decode cL_refused 191 = .ok (.iconst 3, 1) := D_L_refused_2.2.2.2.2.2.2.2.2.2.2.2.2.2.2.2.2.2.2.2.2.2.2.2.2.2.2.2.2.2.2.2.2.1
theorem e_L_refused_192 : decode cL_refused 192 = .ok (.invokevirtual 74, 3) := D_L_refused_2.2.2.2.2.2.2.2.2.2.2.2.2.2.2.2.2.2.2.2.2.2.2.2.2.2.2.2.2.2.2.2.2.2.1
theorem e_L_refused_195 : decode cL_refused 195 = .ok (.iconst (-1), 1) := D_L_refused_2.2.2.2.2.2.2.2.2.2.2.2.2.2.2.2.2.2.2.2.2.2.2.2.2.2.2.2.2.2.2.2.2.2.2.1
theorem e_L_refused_196 : decode cL_refused 196 = .ok (.if_icmp .ne 7, 3) := D_L_refused_2.2.2.2.2.2.2.2.2.2.2.2.2.2.2.2.2.2.2.2.2.2.2.2.2.2.2.2.2.2.2.2.2.2.2.2.1
theorem e_L_refused_199 : decode cL_refused 199 = .ok (.iconst 1, 1) := D_L_refused_2.2.2.2.2.2.2.2.2.2.2.2.2.2.2.2.2.2.2.2.2.2.2.2.2.2.2.2.2.2.2.2.2.2.2.2.2.1
theorem e_L_refused_200 : decode cL_refused 200 = .ok (.goto 4, 3) := D_L_refused_2.2.2.2.2.2.2.2.2.2.2.2.2.2.2.2.2.2.2.2.2.2.2.2.2.2.2.2.2.2.2.2.2.2.2.2.2.2.1
theorem e_L_refused_203 : decode cL_refused 203 = .ok (.iconst 0, 1) := D_L_refused_2.2.2.2.2.2.2.2.2.2.2.2.2.2.2.2.2.2.2.2.2.2.2.2.2.2.2.2.2.2.2.2.2.2.2.2.2.2.2.1
theorem e_L_refused_204 : decode cL_refused 204 = .ok (.istore 5, 2) := D_L_refused_2.2.2.2.2.2.2.2.2.2.2.2.2.2.2.2.2.2.2.2.2.2.2.2.2.2.2.2.2.2.2.2.2.2.2.2.2.2.2.2.1
set_option maxRecDepth 100000 in
theorem D_L_refused_3 : decode cL_refused 206 = .ok (.iload 5, 2) ∧ decode cL_refused 208 = .ok (.ifCond .eq 177, 3) ∧ decode cL_refused 211 = .ok (.aload_n 0, 1) ∧ decode cL_refused 212 = .ok (.iload 4, 2) ∧ decode cL_refused 214 = .ok (.iconst 3, 1) ∧ decode cL_refused 215 = .ok (.invokevirtual 74, 3) ∧ decode cL_refused 218 = .ok (.bipush (-4), 2) ∧ decode cL_refused 220 = .ok (.if_icmp .ne 165, 3) ∧ decode cL_refused 223 = .ok (.aload_n 0, 1) ∧ decode cL_refused 224 = .ok (.iload 4, 2) ∧ decode cL_refused 226 = .ok (.iconst 0, 1) ∧ decode cL_refused 227 = .ok (.invokevirtual 25, 3) ∧ decode cL_refused 230 = .ok (.bipush (-4), 2) ∧ decode cL_refused 232 = .ok (.if_icmp .ne 153, 3) ∧ decode cL_refused 235 = .ok (.aload_n 0, 1) ∧ decode cL_refused 236 = .ok (.iconst 0, 1) ∧ decode cL_refused 237 = .ok (.iconst (-1), 1) ∧ decode cL_refused 238 = .ok (.invokevirtual 25, 3) ∧ decode cL_refused 241 = .ok (.iconst (-1), 1) ∧ decode cL_refused 242 = .ok (.if_icmp .ne 143, 3) ∧ decode cL_refused 245 = .ok (.aload_n 0, 1) ∧ decode cL_refused 246 = .ok (.iconst (-1), 1) ∧ decode cL_refused 247 = .ok (.invokevirtual 22, 3) ∧ decode cL_refused 250 = .ok (.iconst (-1), 1) ∧ decode cL_refused 251 = .ok (.if_icmp .ne 134, 3) ∧ decode cL_refused 254 = .ok (.aload_n 0, 1) ∧ decode cL_refused 255 = .ok (.bipush 10, 2) ∧ decode cL_refused 257 = .ok (.invokevirtual 22, 3) ∧ decode cL_refused 260 = .ok (.bipush (-4), 2) ∧ decode cL_refused 262 = .ok (.if_icmp .ne 123, 3) ∧ decode cL_refused 265 = .ok (.aload_n 0, 1) ∧ decode cL_refused 266 = .ok (.iconst (-1), 1) ∧ decode cL_refused 267 = .ok (.invokevirtual 77, 3) ∧ decode cL_refused 270 = .ok (.iconst (-1), 1) ∧ decode cL_refused 271 = .ok (.if_icmp .ne 114, 3) ∧ decode cL_refused 274 = .ok (.aload_n 0, 1) ∧ decode cL_refused 275 = .ok (.bipush 17, 2) ∧ decode cL_refused 277 = .ok (.invokevirtual 13, 3) ∧ decode cL_refused 280 = .ok (.iconst (-1), 1) ∧ decode cL_refused 281 = .ok (.if_icmp .ne 104, 3) ∧ True := dq_of (l := (206, .iload 5, 2) :: (208, .ifCond .eq 177, 3) :: (211, .aload_n 0, 1) :: (212, .iload 4, 2) :: (214, .iconst 3, 1) :: (215, .invokevirtual 74, 3) :: (218, .bipush (-4), 2) :: (220, .if_icmp .ne 165, 3) :: (223, .aload_n 0, 1) :: (224, .iload 4, 2) :: (226, .iconst 0, 1) :: (227, .invokevirtual 25, 3) :: (230, .bipush (-4), 2) :: (232, .if_icmp .ne 153, 3) :: (235, .aload_n 0, 1) :: (236, .iconst 0, 1) :: (237, .iconst (-1), 1) :: (238, .invokevirtual 25, 3) :: (241, .iconst (-1), 1) :: (242, .if_icmp .ne 143, 3) :: (245, .aload_n 0, 1) :: (246, .iconst (-1), 1) :: (247, .invokevirtual 22, 3) :: (250, .iconst (-1), 1) :: (251, .if_icmp .ne 134, 3) :: (254, .aload_n 0, 1) :: (255, .bipush 10, 2) :: (257, .invokevirtual 22, 3) :: (260, .bipush (-4), 2) :: (262, .if_icmp .ne 123, 3) :: (265, .aload_n 0, 1) :: (266, .iconst (-1), 1) :: (267, .invokevirtual 77, 3) :: (270, .iconst (-1), 1) :: (271, .if_icmp .ne 114, 3) :: (274, .aload_n 0, 1) :: (275, .bipush 17, 2) :: (277, .invokevirtual 13, 3) :: (280, .iconst (-1), 1) :: (281, .if_icmp .ne 104, 3) :: []) (by decide +kernel)
theorem e_L_refused_206 : decode cL_refused 206 = .ok (.iload 5, 2) := D_L_refused_3.1
theorem e_L_refused_208 : decode cL_refused 208 = .ok (.ifCond .eq 177, 3) := D_L_refused_3.2.1
theorem e_L_refused_211 : decode cL_refused 211 = .ok (.aload_n 0, 1) := D_L_refused_3.2.2.1
theorem e_L_refused_212 : decode cL_refused 212 = .ok (.iload 4, 2) := D_L_refused_3.2.2.2.1
theorem e_L_refused_214 : decode cL_refused 214 = .ok (.iconst 3, 1) := D_L_refused_3.2.2.2.2.1
theorem e_L_refused_215 : decode cL_refused 215 = .ok (.invokevirtual 74, 3) := D_L_refused_3.2.2.2.2.2.1
theorem e_L_refused_218 : decode cL_refused 218 = .ok (.bipush (-4), 2) := D_L_refused_3.2.2.2.2.2.2.1
theorem e_L_refused_220 : decode cL_refused 220 = .ok (.if_icmp .ne 165, 3) := D_L_refused_3.2.2.2.2.2.2.2.1
theorem e_L_refused_223 : decode cL_refused 223 = .ok (.aload_n 0, 1) := D_L_refused_3.2.2.2.2.2.2.2.2.1
theorem e_L_refused_224 : decode cL_refused 224 = .ok (.iload 4, 2) := D_L_refused_3.2.2.2.2.2.2.2.2.2.1
theorem e_L_refused_226 : decode cL_refused 226 = .ok (.iconst 0, 1) := D_L_refused_3.2.2.2.2.2.2.2.2.2.2.1
theorem e_L_refused_227 : decode cL_refused 227 = .ok (.invokevirtual 25, 3) := D_L_refused_3.2.2.2.2.2.2.2.2.2.2.2.1
theorem e_L_refused_230 : decode cL_refused 230 = .ok (.bipush (-4), 2) := D_L_refused_3.2.2.2.2.2.2.2.2.2.2.2.2.1
theorem e_L_refused_232 : decode cL_refused 232 = .ok (.if_icmp .ne 153, 3) := D_L_refused_3.2.2.2.2.2.2.2.2.2.2.2.2.2.1
theorem e_L_refused_235 : decode cL_refused 235 = .ok (.aload_n 0, 1) := D_L_refused_3.2.2.2.2.2.2.2.2.2.2.2.2.2.2.1
theorem e_L_refused_236 : decode cL_refused 236 = .ok (.iconst 0, 1) := D_L_refused_3.2.2.2.2.2.2.2.2.2.2.2.2.2.2.2.1
theorem e_L_refused_237 : decode cL_refused 237 = .ok (.iconst (-1), 1) := D_L_refused_3.2.2.2.2.2.2.2.2.2.2.2.2.2.2.2.2.1
theorem e_L_refused_238 : decode cL_refused 238 = .ok (.invokevirtual 25, 3) := D_L_refused_3.2.2.2.2.2.2.2.2.2.2.2.2.2.2.2.2.2.1
theorem e_L_refused_241 : decode cL_refused 241 = .ok (.iconst (-1), 1) := D_L_refused_3.2.2.2.2.2.2.2.2.2.2.2.2.2.2.2.2.2.2.1
theorem e_L_refused_242 : decode cL_refused 242 = .ok (.if_icmp .ne 143, 3) := D_L_refused_3.2.2.2.2.2.2.2.2.2.2.2.2.2.2.2.2.2.2.2.1
theorem e_L_refused_245 : decode cL_refused 245 = .ok (.aload_n 0, 1) := D_L_refused_3.2.2.2.2.2.2.2.2.2.2.2.2.2.2.2.2.2.2.2.2.1
theorem e_L_refused_246 : decode cL_refused 246 = .ok (.iconst (-1), 1) := D_L_refused_3.2.2.2.2.2.2.2.2.2.2.2.2.2.2.2.2.2.2.2.2.2.1
theorem e_L_refused_247 : decode cL_refused 247 = .ok (.invokevirtual 22, 3) := D_L_refused_3.2.2.2.2.2.2.2.2.2.2.2.2.2.2.2.2.2.2.2.2.2.2.1
theorem e_L_refused_250 : decode cL_refused 250 = .ok (.iconst (-1), 1) := D_L_refused_3.2.2.2.2.2.2.2.2.2.2.2.2.2.2.2.2.2.2.2.2.2.2.2.1
theorem e_L_refused_251 : decode cL_refused 251 = .ok (.if_icmp .ne 134, 3) := D_L_refused_3.2.2.2.2.2.2.2.2.2.2.2.2.2.2.2.2.2.2.2.2.2.2.2.2.1
theorem e_L_refused_254 : decode cL_refused 254 = .ok (.aload_n 0, 1) := D_L_refused_3.2.2.2.2.2.2.2.2.2.2.2.2.2.2.2.2.2.2.2.2.2.2.2.2.2.1
theorem e_L_refused_255 : decode cL_refused 255 = .ok (.bipush 10, 2) := D_L_refused_3.2.2.2.2.2.2.2.2.2.2.2.2.2.2.2.2.2.2.2.2.2.2.2.2.2.2.1
theorem e_L_refused_257 : decode cL_refused 257 = .ok (.invokevirtual 22, 3) := D_L_refused_3.2.2.2.2.2.2.2.2.2.2.2.2.2.2.2.2.2.2.2.2.2.2.2.2.2.2.2.1
theorem e_L_refused_260 : decode cL_refused 260 = .ok (.bipush (-4), 2) := D_L_refused_3.2.2.2.2.2.2.2.2.2.2.2.2.2.2.2.2.2.2.2.2.2.2.2.2.2.2.2.2.1
theorem e_L_refused_262 : decode cL_refused 262 = .ok (.if_icmp .ne 123, 3) := D_L_refused_3.2.2.2.2.2.2.2.2.2.2.2.2.2.2.2.2.2.2.2.2.2.2.2.2.2.2.2.2.2.1
theorem e_L_refused_265 : decode cL_refused 265 = .ok (.aload_n 0, 1) := D_L_refused_3.2.2.2.2.2.2.2.2.2.2.2.2.2.2.2.2.2.2.2.2.2.2.2.2.2.2.2.2.2.2.1
theorem e_L_refused_266 : decode cL_refused 266 = .ok (.iconst (-1), 1) := D_L_refused_3.2.2.2.2.2.2.2.2.2.2.2.2.2.2.2.2.2.2.2.2.2.2.2.2.2.2.2.2.2.2.2.1
theorem e_L_refused_267 : decode cL_refused 267 = .ok (.invokevirtual 77, 3) := D_L_refused_3.2.2.2.2.2.2.2.2.2.2.2.2.2.2.2.2.2.2.2.2.2.2.2.2.2.2.2.2.2.2.2.2.1
theorem e_L_refused_270 : decode cL_refused 270 = .ok (.iconst (-1), 1) := D_L_refused_3.2.2.2.2.2.2.2.2.2.2.2.2.2.2.2.2.2.2.2.2.2.2.2.2.2.2.2.2.2.2.2.2.2.1
theorem e_L_refused_271 : decode cL_refused 271 = .ok (.if_icmp .ne 114, 3) := D_L_refused_3.2.2.2.2.2.2.2.2.2.2.2.2.2.2.2.2.2.2.2.2.2.2.2.2.2.2.2.2.2.2.2.2.2.2.1
theorem e_L_refused_274 : decode cL_refused 274 = .ok (.aload_n 0, 1) := D_L_refused_3.2.2.2.2.2.2.2.2.2.2.2.2.2.2.2.2.2.2.2.2.2.2.2.2.2.2.2.2.2.2.2.2.2.2.2.1
theorem e_L_refused_275 : decode cL_refused 275 = .ok (.bipush 17, 2) := D_L_refused_3.2.2.2.2.2.2.2.2.2.2.2.2.2.2.2.2.2.2.2.2.2.2.2.2.2.2.2.2.2.2.2.2.2.2.2.2.1
theorem e_L_refused_277 : decode cL_refused 277 = .ok (.invokevirtual 13, 3) := D_L_refused_3.2.2.2.2.2.2.2.2.2.2.2.2.2.2.2.2.2.2.2.2.2.2.2.2.2.2.2.2.2.2.2.2.2.2.2.2.2.1
theorem e_L_refused_280 : decode cL_refused 280 = .ok (.iconst (-1), 1) := D_L_refused_3.2.2.2.2.2.2.2.2.2.2.2.2.2.2.2.2.2.2.2.2.2.2.2.2.2.2.2.2.2.2.2.2.2.2.2.2.2.2.1
theorem e_L_refused_281 : decode cL_refused 281 = .ok (.if_icmp .ne 104, 3) := D_L_refused_3.2.2.2.2.2.2.2.2.2.2.2.2.2.2.2.2.2.2.2.2.2.2.2.2.2.2.2.2.2.2.2.2.2.2.2.2.2.2.2.1
set_option maxRecDepth 100000 in
theorem D_L_refused_4 : decode cL_refused 284 = .ok (.aload_n 0, 1) ∧ decode cL_refused 285 = .ok (.bipush 9, 2) ∧ decode cL_refused 287 = .ok (.invokevirtual 19, 3) ∧ decode cL_refused 290 = .ok (.iconst (-1), 1) ∧ decode cL_refused 291 = .ok (.if_icmp .ne 94, 3) ∧ decode cL_refused 294 = .ok (.aload_n 0, 1) ∧ decode cL_refused 295 = .ok (.iconst (-1), 1) ∧ decode cL_refused 296 = .ok (.iconst 2, 1) ∧ decode cL_refused 297 = .ok (.invokevirtual 35, 3) ∧ decode cL_refused 300 = .ok (.iconst (-1), 1) ∧ decode cL_refused 301 = .ok (.if_icmp .ne 84, 3) ∧ decode cL_refused 304 = .ok (.aload_n 0, 1) ∧ decode cL_refused 305 = .ok (.bipush 16, 2) ∧ decode cL_refused 307 = .ok (.iconst 0, 1) ∧ decode cL_refused 308 = .ok (.invokevirtual 35, 3) ∧ decode cL_refused 311 = .ok (.bipush (-4), 2) ∧ decode cL_refused 313 = .ok (.if_icmp .ne 72, 3) ∧ decode cL_refused 316 = .ok (.aload_n 0, 1) ∧ decode cL_refused 317 = .ok (.iconst (-1), 1) ∧ decode cL_refused 318 = .ok (.iconst 0, 1) ∧ decode cL_refused 319 = .ok (.invokevirtual 32, 3) ∧ decode cL_refused 322 = .ok (.iconst (-1), 1) ∧ decode cL_refused 323 = .ok (.if_icmp .ne 62, 3) ∧ decode cL_refused 326 = .ok (.aload_n 0, 1) ∧ decode cL_refused 327 = .ok (.iload 4, 2) ∧ decode cL_refused 329 = .ok (.invokevirtual 80, 3) ∧ decode cL_refused 332 = .ok (.bipush (-4), 2) ∧ decode cL_refused 334 = .ok (.if_icmp .ne 51, 3) ∧ decode cL_refused 337 = .ok (.aload_n 0, 1) ∧ decode cL_refused 338 = .ok (.sipush 200, 3) ∧ decode cL_refused 341 = .ok (.invokevirtual 83, 3) ∧ decode cL_refused 344 = .ok (.iconst (-1), 1) ∧ decode cL_refused 345 = .ok (.if_icmp .ne 40, 3) ∧ decode cL_refused 348 = .ok (.aload_n 0, 1) ∧ decode cL_refused 349 = .ok (.iconst (-1), 1) ∧ decode cL_refused 350 = .ok (.invokevirtual 86, 3) ∧ decode cL_refused 353 = .ok (.iconst (-1), 1) ∧ decode cL_refused 354 = .ok (.if_icmp .ne 31, 3) ∧ decode cL_refused 357 = .ok (.aload_n 0, 1) ∧ decode cL_refused 358 = .ok (.iconst 0, 1) ∧ True := dq_of (l := (284, .aload_n 0, 1) :: (285, .bipush 9, 2) :: (287, .invokevirtual 19, 3) :: (290, .iconst (-1), 1) :: (291, .if_icmp .ne 94, 3) :: (294, .aload_n 0, 1) :: (295, .iconst (-1), 1) :: (296, .iconst 2, 1) :: (297, .invokevirtual 35, 3) :: (300, .iconst (-1), 1) :: (301, .if_icmp .ne 84, 3) :: (304, .aload_n 0, 1) :: (305, .bipush 16, 2) :: (307, .iconst 0, 1) :: (308, .invokevirtual 35, 3) :: (311, .bipush (-4), 2) :: (313, .if_icmp .ne 72, 3) :: (316, .aload_n 0, 1) :: (317, .iconst (-1), 1) :: (318, .iconst 0, 1) :: (319, .invokevirtual 32, 3) :: (322, .iconst (-1), 1) :: (323, .if_icmp .ne 62, 3) :: (326, .aload_n 0, 1) :: (327, .iload 4, 2) :: (329, .invokevirtual 80, 3) :: (332, .bipush (-4), 2) :: (334, .if_icmp .ne 51, 3) :: (337, .aload_n 0, 1) :: (338, .sipush 200, 3) :: (341, .invokevirtual 83, 3) :: (344, .iconst (-1), 1) :: (345, .if_icmp .ne 40, 3) :: (348, .aload_n 0, 1) :: (349, .iconst (-1), 1) :: (350, .invokevirtual 86, 3) :: (353, .iconst (-1), 1) :: (354, .if_icmp .ne 31, 3) :: (357, .aload_n 0, 1) :: (358, .iconst 0, 1) :: []) (by decide +kernel)
theorem e_L_refused_284 : decode cL_refused 284 = .ok (.aload_n 0, 1) := D_L_refused_4.1
theorem e_L_refused_285 : decode cL_refused 285 = .ok (.bipush 9, 2) := D_L_refused_4.2.1
theorem e_L_refused_287 : decode cL_refused 287 = .ok (.invokevirtual 19, 3) := D_L_refused_4.2.2.1
theorem e_L_refused_290 : decode cL_refused 290 = .ok (.iconst (-1), 1) := D_L_refused_4.2.2.2.1
theorem e_L_refused_291 : decode cL_refused 291 = .ok (.if_icmp .ne 94, 3) := D_L_refused_4.2.2.2.2.1
theorem e_L_refused_294 : decode cL_refused 294 = .ok (.aload_n 0, 1) := D_L_refused_4.2.2.2.2.2.1
theorem e_L_refused_295 : decode cL_refused 295 = .ok (.iconst (-1), 1) := D_L_refused_4.2.2.2.2.2.2.1
theorem e_L_refused_296 : decode cL_refused 296 = .ok (.iconst 2, 1) := D_L_refused_4.2.2.2.2.2.2.2.1
theorem e_L_refused_297 : decode cL_refused 297 = .ok (.invokevirtual 35, 3) := D_L_refused_4.2.2.2.2.2.2.2.2.1
theorem e_L_refused_300 : decode cL_refused 300 = .ok (.iconst (-1), 1) := D_L_refused_4.2.2.2.2.2.2.2.2.2.1
theorem e_L_refused_301 : decode cL_refused 301 = .ok (.if_icmp .ne 84, 3) := D_L_refused_4.2.2.2.2.2.2.2.2.2.2.1
theorem e_L_refused_304 : decode cL_refused 304 = .ok (.aload_n 0, 1) := D_L_refused_4.2.2.2.2.2.2.2.2.2.2.2.1
theorem e_L_refused_305 : decode cL_refused 305 = .ok (.bipush 16, 2) := D_L_refused_4.2.2.2.2.2.2.2.2.2.2.2.2.1
theorem e_L_refused_307 : decode cL_refused 307 = .ok (.iconst 0, 1) := D_L_refused_4.2.2.2.2.2.2.2.2.2.2.2.2.2.1
theorem e_L_refused_308 : decode cL_refused 308 = .ok (.invokevirtual 35, 3) := D_L_refused_4.2.2.2.2.2.2.2.2.2.2.2.2.2.2.1
theorem e_L_refused_311 : decode cL_refused 311 = .ok (.bipush (-4), 2) := D_L_refused_4.2.2.2.2.2.2.2.2.2.2.2.2.2.2.2.1
theorem e_L_refused_313 : decode cL_refused 313 = .ok (.if_icmp .ne 72, 3) := D_L_refused_4.2.2.2.2.2.2.2.2.2.2.2.2.2.2.2.2.1
theorem e_L_refused_316 : decode cL_refused 316 = .ok (.aload_n 0, 1) := D_L_refused_4.2.2.2.2.2.2.2.2.2.2.2.2.2.2.2.2.2.1
theorem e_L_refused_317 : decode cL_refused 317 = .ok (.iconst (-1), 1) := D_L_refused_4.2.2.2.2.2.2.2.2.2.2.2.2.2.2.2.2.2.2.1
theorem e_L_refused_318 : decode cL_refused 318 = .ok (.iconst 0, 1) := D_L_refused_4.2.2.2.2.2.2.2.2.2.2.2.2.2.2.2.2.2.2.2.1
theorem e_L_refused_319 : decode cL_refused 319 = .ok (.invokevirtual 32, 3) := D_L_refused_4.2.2.2.2.2.2.2.2.2.2.2.2.2.2.2.2.2.2.2.2.1
theorem e_L_refused_322 : decode cL_refused 322 = .ok (.iconst (-1), 1) := D_L_refused_4.2.2.2.2.2.2.2.2.2.2.2.2.2.2.2.2.2.2.2.2.2.1
theorem e_L_refused_323 : decode cL_refused 323 = .ok (.if_icmp .ne 62, 3) := D_L_refused_4.2.2.2.2.2.2.2.2.2.2.2.2.2.2.2.2.2.2.2.2.2.2.1
theorem e_L_refused_326 : decode cL_refused 326 = .ok (.aload_n 0, 1) := D_L_refused_4.2.2.2.2.2.2.2.2.2.2.2.2.2.2.2.2.2.2.2.2.2.2.2.1
theorem e_L_refused_327 : decode cL_refused 327 = .ok (.iload 4, 2) := D_L_refused_4.2.2.2.2.2.2.2.2.2.2.2.2.2.2.2.2.2.2.2.2.2.2.2.2.1
theorem e_L_refused_329 : decode cL_refused 329 = .ok (.invokevirtual 80, 3) := D_L_refused_4.2.2.2.2.2.2.2.2.2.2.2.2.2.2.2.2.2.2.2.2.2.2.2.2.2.1
theorem e_L_refused_332 : decode cL_refused 332 = .ok (.bipush (-4), 2) := D_L_refused_4.2.2.2.2.2.2.2.2.2.2.2.2.2.2.2.2.2.2.2.2.2.2.2.2.2.2.1
theorem e_L_refused_334 : decode cL_refused 334 = .ok (.if_icmp .ne 51, 3) := D_L_refused_4.2.2.2.2.2.2.2.2.2.2.2.2.2.2.2.2.2.2.2.2.2.2.2.2.2.2.2.1
theorem e_L_refused_337 : decode cL_refused 337 = .ok (.aload_n 0, 1) := D_L_refused_4.2.2.2.2.2.2.2.2.2.2.2.2.2.2.2.2.2.2.2.2.2.2.2.2.2.2.2.2.1
theorem e_L_refused_338 : decode cL_refused 338 = .ok (.sipush 200, 3) := D_L_refused_4.2.2.2.2.2.2.2.2.2.2.2.2.2.2.2.2.2.2.2.2.2.2.2.2.2.2.2.2.2.1
theorem e_L_refused_341 : decode cL_refused 341 = .ok (.invokevirtual 83, 3) := D_L_refused_4.2.2.2.2.2.2.2.2.2.2.2.2.2.2.2.2.2.2.2.2.2.2.2.2.2.2.2.2.2.2.1
theorem e_L_refused_344 : decode cL_refused 344 = .ok (.iconst (-1), 1) := D_L_refused_4.2.2.2.2.2.2.2.2.2.2.2.2.2.2.2.2.2.2.2.2.2.2.2.2.2.2.2.2.2.2.2.1
theorem e_L_refused_345 : decode cL_refused 345 = .ok (.if_icmp .ne 40, 3) := D_L_refused_4.2.2.2.2.2.2.2.2.2.2.2.2.2.2.2.2.2.2.2.2.2.2.2.2.2.2.2.2.2.2.2.2.1
theorem e_L_refused_348 : decode cL_refused 348 = .ok (.aload_n 0, 1) := D_L_refused_4.2.2.2.2.2.2.2.2.2.2.2.2.2.2.2.2.2.2.2.2.2.2.2.2.2.2.2.2.2.2.2.2.2.1
theorem e_L_refused_349 : decode cL_refused 349 = .ok (.iconst (-1), 1) := D_L_refused_4.2.2.2.2.2.2.2.2.2.2.2.2.2.2.2.2.2.2.2.2.2.2.2.2.2.2.2.2.2.2.2.2.2.2.1
theorem e_L_refused_350 : decode cL_refused 350 = .ok (.invokevirtual 86, 3) := D_L_refused_4.2.2.2.2.2.2.2.2.2.2.2.2.2.2.2.2.2.2.2.2.2.2.2.2.2.2.2.2.2.2.2.2.2.2.2.1
theorem e_L_refused_353 : decode cL_refused 353 = .ok (.iconst (-1), 1) := D_L_refused_4.2.2.2.2.2.2.2.2.2.2.2.2.2.2.2.2.2.2.2.2.2.2.2.2.2.2.2.2.2.2.2.2.2.2.2.2.1
theorem e_L_refused_354 : decode cL_refused 354 = .ok (.if_icmp .ne 31, 3) := D_L_refused_4.2.2.2.2.2.2.2.2.2.2.2.2.2.2.2.2.2.2.2.2.2.2.2.2.2.2.2.2.2.2.2.2.2.2.2.2.2.1
theorem e_L_refused_357 : decode cL_refused 357 = .ok (.aload_n 0, 1) := D_L_refused_4.2.2.2.2.2.2.2.2.2.2.2.2.2.2.2.2.2.2.2.2.2.2.2.2.2.2.2.2.2.2.2.2.2.2.2.2.2.2.1
theorem e_L_refused_358 : decode cL_refused 358 = .ok (.iconst 0, 1) := D_L_refused_4.2.2.2.2.2.2.2.2.2.2.2.2.2.2.2.2.2.2.2.2.2.2.2.2.2.2.2.2.2.2.2.2.2.2.2.2.2.2.2.1
set_option maxRecDepth 100000 in
theorem D_L_refused_5 : decode cL_refused 359 = .ok (.invokevirtual 13, 3) ∧ decode cL_refused 362 = .ok (.bipush 10, 2) ∧ decode cL_refused 364 = .ok (.if_icmp .lt 17, 3) ∧ decode cL_refused 367 = .ok (.aload_n 0, 1) ∧ decode cL_refused 368 = .ok (.iconst 1, 1) ∧ decode cL_refused 369 = .ok (.iconst 1, 1) ∧ decode cL_refused 370 = .ok (.iconst 0, 1) ∧ decode cL_refused 371 = .ok (.iconst 0, 1) ∧ decode cL_refused 372 = .ok (.iconst 0, 1) ∧ decode cL_refused 373 = .ok (.invokevirtual 61, 3) ∧ decode cL_refused 376 = .ok (.bipush (-3), 2) ∧ decode cL_refused 378 = .ok (.if_icmp .ne 7, 3) ∧ decode cL_refused 381 = .ok (.iconst 1, 1) ∧ decode cL_refused 382 = .ok (.goto 4, 3) ∧ decode cL_refused 385 = .ok (.iconst 0, 1) ∧ decode cL_refused 386 = .ok (.istore 5, 2) ∧ decode cL_refused 388 = .ok (.iload 5, 2) ∧ decode cL_refused 390 = .ok (.ifCond .eq 26, 3) ∧ decode cL_refused 393 = .ok (.aload_n 0, 1) ∧ decode cL_refused 394 = .ok (.invokestatic 42, 3) ∧ decode cL_refused 397 = .ok (.lload_n 1, 1) ∧ decode cL_refused 398 = .ok (.lcmp, 1) ∧ decode cL_refused 399 = .ok (.ifCond .ne 17, 3) ∧ decode cL_refused 402 = .ok (.aload_n 0, 1) ∧ decode cL_refused 403 = .ok (.bipush 15, 2) ∧ decode cL_refused 405 = .ok (.invokevirtual 13, 3) ∧ decode cL_refused 408 = .ok (.iload_n 3, 1) ∧ decode cL_refused 409 = .ok (.if_icmp .ne 7, 3) ∧ decode cL_refused 412 = .ok (.iconst 1, 1) ∧ decode cL_refused 413 = .ok (.goto 4, 3) ∧ decode cL_refused 416 = .ok (.iconst 0, 1) ∧ decode cL_refused 417 = .ok (.ireturn, 1) ∧ True := dq_of (l := (359, .invokevirtual 13, 3) :: (362, .bipush 10, 2) :: (364, .if_icmp .lt 17, 3) :: (367, .aload_n 0, 1) :: (368, .iconst 1, 1) :: (369, .iconst 1, 1) :: (370, .iconst 0, 1) :: (371, .iconst 0, 1) :: (372, .iconst 0, 1) :: (373, .invokevirtual 61, 3) :: (376, .bipush (-3), 2) :: (378, .if_icmp .ne 7, 3) :: (381, .iconst 1, 1) :: (382, .goto 4, 3) :: (385, .iconst 0, 1) :: (386, .istore 5, 2) :: (388, .iload 5, 2) :: (390, .ifCond .eq 26, 3) :: (393, .aload_n 0, 1) :: (394, .invokestatic 42, 3) :: (397, .lload_n 1, 1) :: (398, .lcmp, 1) :: (399, .ifCond .ne 17, 3) :: (402, .aload_n 0, 1) :: (403, .bipush 15, 2) :: (405, .invokevirtual 13, 3) :: (408, .iload_n 3, 1) :: (409, .if_icmp .ne 7, 3) :: (412, .iconst 1, 1) :: (413, .goto 4, 3) :: (416, .iconst 0, 1) :: (417, .ireturn, 1) :: []) (by decide +kernel)
theorem e_L_refused_359 : decode cL_refused 359 = .ok (.invokevirtual 13, 3) := D_L_refused_5.1
theorem e_L_refused_362 : decode cL_refused 362 = .ok (.bipush 10, 2) := D_L_refused_5.2.1
theorem e_L_refused_364 : decode cL_refused 364 = .ok (.if_icmp .lt 17, 3) := D_L_refused_5.2.2.1
theorem e_L_refused_367 : decode cL_refused 367 = .ok (.aload_n 0, 1) := D_L_refused_5.2.2.2.1
theorem e_L_refused_368 : decode cL_refused 368 = .ok (.iconst 1, 1) := D_L_refused_5.2.2.2.2.1
theorem e_L_refused_369 : decode cL_refused 369 = .ok (.iconst 1, 1) := D_L_refused_5.2.2.2.2.2.1
theorem e_L_refused_370 : decode cL_refused 370 = .ok (.iconst 0, 1) := D_L_refused_5.2.2.2.2.2.2.1
theorem e_L_refused_371 : decode cL_refused 371 = .ok (.iconst 0, 1) := D_L_refused_5.2.2.2.2.2.2.2.1
theorem e_L_refused_372 : decode cL_refused 372 = .ok (.iconst 0, 1) := D_L_refused_5.2.2.2.2.2.2.2.2.1
theorem e_L_refused_373 : decode cL_refused 373 = .ok (.invokevirtual 61, 3) := D_L_refused_5.2.2.2.2.2.2.2.2.2.1
theorem e_L_refused_376 : decode cL_refused 376 = .ok (.bipush (-3), 2) := D_L_refused_5.2.2.2.2.2.2.2.2.2.2.1
theorem e_L_refused_378 : decode cL_refused 378 = .ok (.if_icmp .ne 7, 3) := D_L_refused_5.2.2.2.2.2.2.2.2.2.2.2.1
theorem e_L_refused_381 : decode cL_refused 381 = .ok (.iconst 1, 1) := D_L_refused_5.2.2.2.2.2.2.2.2.2.2.2.2.1
theorem e_L_refused_382 : decode cL_refused 382 = .ok (.goto 4, 3) := D_L_refused_5.2.2.2.2.2.2.2.2.2.2.2.2.2.1
theorem e_L_refused_385 : decode cL_refused 385 = .ok (.iconst 0, 1) := D_L_refused_5.2.2.2.2.2.2.2.2.2.2.2.2.2.2.1
theorem e_L_refused_386 : decode cL_refused 386 = .ok (.istore 5, 2) := D_L_refused_5.2.2.2.2.2.2.2.2.2.2.2.2.2.2.2.1
theorem e_L_refused_388 : decode cL_refused 388 = .ok (.iload 5, 2) := D_L_refused_5.2.2.2.2.2.2.2.2.2.2.2.2.2.2.2.2.1
theorem e_L_refused_390 : decode cL_refused 390 = .ok (.ifCond .eq 26, 3) := D_L_refused_5.2.2.2.2.2.2.2.2.2.2.2.2.2.2.2.2.2.1
theorem e_L_refused_393 : decode cL_refused 393 = .ok (.aload_n 0, 1) := D_L_refused_5.2.2.2.2.2.2.2.2.2.2.2.2.2.2.2.2.2.2.1
theorem e_L_refused_394 : decode cL_refused 394 = .ok (.invokestatic 42, 3) := D_L_refused_5.2.2.2.2.2.2.2.2.2.2.2.2.2.2.2.2.2.2.2.1
theorem e_L_refused_397 : decode cL_refused 397 = .ok (.lload_n 1, 1) := D_L_refused_5.2.2.2.2.2.2.2.2.2.2.2.2.2.2.2.2.2.2.2.2.1
theorem e_L_refused_398 : decode cL_refused 398 = .ok (.lcmp, 1) := D_L_refused_5.2.2.2.2.2.2.2.2.2.2.2.2.2.2.2.2.2.2.2.2.2.1
theorem e_L_refused_399 : decode cL_refused 399 = .ok (.ifCond .ne 17, 3) := D_L_refused_5.2.2.2.2.2.2.2.2.2.2.2.2.2.2.2.2.2.2.2.2.2.2.1
theorem e_L_refused_402 : decode cL_refused 402 = .ok (.aload_n 0, 1) := D_L_refused_5.2.2.2.2.2.2.2.2.2.2.2.2.2.2.2.2.2.2.2.2.2.2.2.1
theorem e_L_refused_403 : decode cL_refused 403 = .ok (.bipush 15, 2) := D_L_refused_5.2.2.2.2.2.2.2.2.2.2.2.2.2.2.2.2.2.2.2.2.2.2.2.2.1
theorem e_L_refused_405 : decode cL_refused 405 = .ok (.invokevirtual 13, 3) := D_L_refused_5.2.2.2.2.2.2.2.2.2.2.2.2.2.2.2.2.2.2.2.2.2.2.2.2.2.1
theorem e_L_refused_408 : decode cL_refused 408 = .ok (.iload_n 3, 1) := D_L_refused_5.2.2.2.2.2.2.2.2.2.2.2.2.2.2.2.2.2.2.2.2.2.2.2.2.2.2.1
theorem e_L_refused_409 : decode cL_refused 409 = .ok (.if_icmp .ne 7, 3) := D_L_refused_5.2.2.2.2.2.2.2.2.2.2.2.2.2.2.2.2.2.2.2.2.2.2.2.2.2.2.2.1
theorem e_L_refused_412 : decode cL_refused 412 = .ok (.iconst 1, 1) := D_L_refused_5.2.2.2.2.2.2.2.2.2.2.2.2.2.2.2.2.2.2.2.2.2.2.2.2.2.2.2.2.1
theorem e_L_refused_413 : decode cL_refused 413 = .ok (.goto 4, 3) := D_L_refused_5.2.2.2.2.2.2.2.2.2.2.2.2.2.2.2.2.2.2.2.2.2.2.2.2.2.2.2.2.2.1
theorem e_L_refused_416 : decode cL_refused 416 = .ok (.iconst 0, 1) := D_L_refused_5.2.2.2.2.2.2.2.2.2.2.2.2.2.2.2.2.2.2.2.2.2.2.2.2.2.2.2.2.2.2.1
theorem e_L_refused_417 : decode cL_refused 417 = .ok (.ireturn, 1) := D_L_refused_5.2.2.2.2.2.2.2.2.2.2.2.2.2.2.2.2.2.2.2.2.2.2.2.2.2.2.2.2.2.2.2.1
set_option maxRecDepth 100000 in
theorem D_L_areSheets_0 : decode cL_areSheets 0 = .ok (.aload_n 0, 1) ∧ decode cL_areSheets 1 = .ok (.bipush 6, 2) ∧ decode cL_areSheets 3 = .ok (.invokevirtual 13, 3) ∧ decode cL_areSheets 6 = .ok (.iconst 1, 1) ∧ decode cL_areSheets 7 = .ok (.if_icmp .ne 7, 3) ∧ decode cL_areSheets 10 = .ok (.iconst 1, 1) ∧ decode cL_areSheets 11 = .ok (.goto 4, 3) ∧ decode cL_areSheets 14 = .ok (.iconst 0, 1) ∧ decode cL_areSheets 15 = .ok (.istore_n 1, 1) ∧ decode cL_areSheets 16 = .ok (.iconst 0, 1) ∧ decode cL_areSheets 17 = .ok (.istore_n 2, 1) ∧ decode cL_areSheets 18 = .ok (.aload_n 0, 1) ∧ decode cL_areSheets 19 = .ok (.iconst 0, 1) ∧ decode cL_areSheets 20 = .ok (.invokevirtual 19, 3) ∧ decode cL_areSheets 23 = .ok (.aload_n 0, 1) ∧ decode cL_areSheets 24 = .ok (.iconst 1, 1) ∧ decode cL_areSheets 25 = .ok (.invokevirtual 19, 3) ∧ decode cL_areSheets 28 = .ok (.aload_n 0, 1) ∧ decode cL_areSheets 29 = .ok (.iconst 2, 1) ∧ decode cL_areSheets 30 = .ok (.invokevirtual 19, 3) ∧ decode cL_areSheets 33 = .ok (.iadd, 1) ∧ decode cL_areSheets 34 = .ok (.iload_n 1, 1) ∧ decode cL_areSheets 35 = .ok (.iadd, 1) ∧ decode cL_areSheets 36 = .ok (.if_icmp .ne 132, 3) ∧ decode cL_areSheets 39 = .ok (.aload_n 0, 1) ∧ decode cL_areSheets 40 = .ok (.iconst 3, 1) ∧ decode cL_areSheets 41 = .ok (.invokevirtual 19, 3) ∧ decode cL_areSheets 44 = .ok (.aload_n 0, 1) ∧ decode cL_areSheets 45 = .ok (.iconst 1, 1) ∧ decode cL_areSheets 46 = .ok (.invokevirtual 19, 3) ∧ decode cL_areSheets 49 = .ok (.if_icmp .lt 119, 3) ∧ decode cL_areSheets 52 = .ok (.aload_n 0, 1) ∧ decode cL_areSheets 53 = .ok (.iconst 3, 1) ∧ decode cL_areSheets 54 = .ok (.invokevirtual 19, 3) ∧ decode cL_areSheets 57 = .ok (.iconst 2, 1) ∧ decode cL_areSheets 58 = .ok (.aload_n 0, 1) ∧ decode cL_areSheets 59 = .ok (.iconst 1, 1) ∧ decode cL_areSheets 60 = .ok (.invokevirtual 19, 3) ∧ decode cL_areSheets 63 = .ok (.imul, 1) ∧ decode cL_areSheets 64 = .ok (.if_icmp .gt 104, 3) ∧ True := dq_of (l := (0, .aload_n 0, 1) :: (1, .bipush 6, 2) :: (3, .invokevirtual 13, 3) :: (6, .iconst 1, 1) :: (7, .if_icmp .ne 7, 3) :: (10, .iconst 1, 1) :: (11, .goto 4, 3) :: (14, .iconst 0, 1) :: (15, .istore_n 1, 1) :: (16, .iconst 0, 1) :: (17, .istore_n 2, 1) :: (18, .aload_n 0, 1) :: (19, .iconst 0, 1) :: (20, .invokevirtual 19, 3) :: (23, .aload_n 0, 1) :: (24, .iconst 1, 1) :: (25, .invokevirtual 19, 3) :: (28, .aload_n 0, 1) :: (29, .iconst 2, 1) :: (30, .invokevirtual 19, 3) :: (33, .iadd, 1) :: (34, .iload_n 1, 1) :: (35, .iadd, 1) :: (36, .if_icmp .ne 132, 3) :: (39, .aload_n 0, 1) :: (40, .iconst 3, 1) :: (41, .invokevirtual 19, 3) :: (44, .aload_n 0, 1) :: (45, .iconst 1, 1) :: (46, .invokevirtual 19, 3) :: (49, .if_icmp .lt 119, 3) :: (52, .aload_n 0, 1) :: (53, .iconst 3, 1) :: (54, .invokevirtual 19, 3) :: (57, .iconst 2, 1) :: (58, .aload_n 0, 1) :: (59, .iconst 1, 1) :: (60, .invokevirtual 19, 3) :: (63, .imul, 1) :: (64, .if_icmp .gt 104, 3) :: []) (by decide +kernel)
theorem e_L_areSheets_0 : decode cL_areSheets 0 = .ok (.aload_n 0, 1) := D_L_areSheets_0.1
theorem e_L_areSheets_1 : decode cL_areSheets 1 = .ok (.bipush 6, 2) := D_L_areSheets_0.2.1
theorem e_L_areSheets_3 : decode cL_areSheets 3 = .ok (.invokevirtual 13, 3) := D_L_areSheets_0.2.2.1
theorem e_L_areSheets_6 : decode cL_areSheets 6 = .ok (.iconst 1, 1) := D_L_areSheets_0.2.2.2.1
theorem e_L_areSheets_7 : decode cL_areSheets 7 = .ok (.if_icmp .ne 7, 3) := D_L_areSheets_0.2.2.2.2.1
theorem e_L_areSheets_10 : decode cL_areSheets 10 = .ok (.iconst 1, 1) := D_L_areSheets_0.2.2.2.2.2.1
theorem e_L_areSheets_11 : decode cL_areSheets 11 = .ok (.goto 4, 3) := D_L_areSheets_0.2.2.2.2.2.2.1
theorem e_L_areSheets_14 : decode cL_areSheets 14 = .ok (.iconst 0, 1) := D_L_areSheets_0.2.2.2.2.2.2.2.1
theorem e_L_areSheets_15 : decode cL_areSheets 15 = .ok (.istore_n 1, 1) := D_L_areSheets_0.2.2.2.2.2.2.2.2.1
theorem e_L_areSheets_16 : decode cL_areSheets 16 = .ok (.iconst 0, 1) := D_L_areSheets_0.2.2.2.2.2.2.2.2.2.1
theorem e_L_areSheets_17 : decode cL_areSheets 17 = .ok (.istore_n 2, 1) := D_L_areSheets_0.2.2.2.2.2.2.2.2.2.2.1
theorem e_L_areSheets_18 : decode cL_areSheets 18 = .ok (.aload_n 0, 1) := D_L_areSheets_0.2.2.2.2.2.2.2.2.2.2.2.1
theorem e_L_areSheets_19 : decode cL_areSheets 19 = .ok (.iconst 0, 1) := D_L_areSheets_0.2.2.2.2.2.2.2.2.2.2.2.2.1
theorem e_L_areSheets_20 : decode cL_areSheets 20 = .ok (.invokevirtual 19, 3) := D_L_areSheets_0.2.2.2.2.2.2.2.2.2.2.2.2.2.1
theorem e_L_areSheets_23 : decode cL_areSheets 23 = .ok (.aload_n 0, 1) := D_L_areSheets_0.2.2.2.2.2.2.2.2.2.2.2.2.2.2.1
theorem e_L_areSheets_24 : decode cL_areSheets 24 = .ok (.iconst 1, 1) := D_L_areSheets_0.2.2.2.2.2.2.2.2.2.2.2.2.2.2.2.1
theorem e_L_areSheets_25 : decode cL_areSheets 25 = .ok (.invokevirtual 19, 3) := D_L_areSheets_0.2.2.2.2.2.2.2.2.2.2.2.2.2.2.2.2.1
theorem e_L_areSheets_28 : decode cL_areSheets 28 = .ok (.aload_n 0, 1) := D_L_areSheets_0.2.2.2.2.2.2.2.2.2.2.2.2.2.2.2.2.2.1
theorem e_L_areSheets_29 : decode cL_areSheets 29 = .ok (.iconst 2, 1) := D_L_areSheets_0.2.2.2.2.2.2.2.2.2.2.2.2.2.2.2.2.2.2.1
theorem e_L_areSheets_30 : decode cL_areSheets 30 = .ok (.invokevirtual 19, 3) := D_L_areSheets_0.2.2.2.2.2.2.2.2.2.2.2.2.2.2.2.2.2.2.2.1
theorem e_L_areSheets_33 : decode cL_areSheets 33 = .ok (.iadd, 1) := D_L_areSheets_0.2.2.2.2.2.2.2.2.2.2.2.2.2.2.2.2.2.2.2.2.1
theorem e_L_areSheets_34 : decode cL_areSheets 34 = .ok (.iload_n 1, 1) := D_L_areSheets_0.2.2.2.2.2.2.2.2.2.2.2.2.2.2.2.2.2.2.2.2.2.1
theorem e_L_areSheets_35 : decode cL_areSheets 35 = .ok (.iadd, 1) := D_L_areSheets_0.2.2.2.2.2.2.2.2.2.2.2.2.2.2.2.2.2.2.2.2.2.2.1
theorem e_L_areSheets_36 : decode cL_areSheets 36 = .ok (.if_icmp .ne 132, 3) := D_L_areSheets_0.2.2.2.2.2.2.2.2.2.2.2.2.2.2.2.2.2.2.2.2.2.2.2.1
theorem e_L_areSheets_39 : decode cL_areSheets 39 = .ok (.aload_n 0, 1) := D_L_areSheets_0.2.2.2.2.2.2.2.2.2.2.2.2.2.2.2.2.2.2.2.2.2.2.2.2.1
theorem e_L_areSheets_40 : decode cL_areSheets 40 = .ok (.iconst 3, 1) := D_L_areSheets_0.2.2.2.2.2.2.2.2.2.2.2.2.2.2.2.2.2.2.2.2.2.2.2.2.2.1
theorem e_L_areSheets_41 : decode cL_areSheets 41 = .ok (.invokevirtual 19, 3) := D_L_areSheets_0.2.2.2.2.2.2.2.2.2.2.2.2.2.2.2.2.2.2.2.2.2.2.2.2.2.2.1
theorem e_L_areSheets_44 : decode cL_areSheets 44 = .ok (.aload_n 0, 1) := D_L_areSheets_0.2.2.2.2.2.2.2.2.2.2.2.2.2.2.2.2.2.2.2.2.2.2.2.2.2.2.2.1
theorem e_L_areSheets_45 : decode cL_areSheets 45 = .ok (.iconst 1, 1) := D_L_areSheets_0.2.2.2.2.2.2.2.2.2.2.2.2.2.2.2.2.2.2.2.2.2.2.2.2.2.2.2.2.1
theorem e_L_areSheets_46 : decode cL_areSheets 46 = .ok (.invokevirtual 19, 3) := D_L_areSheets_0.2.2.2.2.2.2.2.2.2.2.2.2.2.2.2.2.2.2.2.2.2.2.2.2.2.2.2.2.2.1
theorem e_L_areSheets_49 : decode cL_areSheets 49 = .ok (.if_icmp .lt 119, 3) := D_L_areSheets_0.2.2.2.2.2.2.2.2.2.2.2.2.2.2.2.2.2.2.2.2.2.2.2.2.2.2.2.2.2.2.1
theorem e_L_areSheets_52 : decode cL_areSheets 52 = .ok (.aload_n 0, 1) := D_L_areSheets_0.2.2.2.2.2.2.2.2.2.2.2.2.2.2.2.2.2.2.2.2.2.2.2.2.2.2.2.2.2.2.2.1
theorem e_L_areSheets_53 : decode cL_areSheets 53 = .ok (.iconst 3, 1) := D_L_areSheets_0.2.2.2.2.2.2.2.2.2.2.2.2.2.2.2.2.2.2.2.2.2.2.2.2.2.2.2.2.2.2.2.2.1
theorem e_L_areSheets_54 : decode cL_areSheets 54 = .ok (.invokevirtual 19, 3) := D_L_areSheets_0.2.2.2.2.2.2.2.2.2.2.2.2.2.2.2.2.2.2.2.2.2.2.2.2.2.2.2.2.2.2.2.2.2.1
theorem e_L_areSheets_57 : decode cL_areSheets 57 = .ok (.iconst 2, 1) := D_L_areSheets_0.2.2.2.2.2.2.2.2.2.2.2.2.2.2.2.2.2.2.2.2.2.2.2.2.2.2.2.2.2.2.2.2.2.2.1
theorem e_L_areSheets_58 : decode cL_areSheets 58 = .ok (.aload_n 0, 1) := D_L_areSheets_0.2.2.2.2.2.2.2.2.2.2.2.2.2.2.2.2.2.2.2.2.2.2.2.2.2.2.2.2.2.2.2.2.2.2.2.1
theorem e_L_areSheets_59 : decode cL_areSheets 59 = .ok (.iconst 1, 1) := D_L_areSheets_0.2.2.2.2.2.2.2.2.2.2.2.2.2.2.2.2.2.2.2.2.2.2.2.2.2.2.2.2.2.2.2.2.2.2.2.2.1
theorem e_L_areSheets_60 : decode cL_areSheets 60 = .ok (.invokevirtual 19, 3) := D_L_areSheets_0.2.2.2.2.2.2.2.2.2.2.2.2.2.2.2.2.2.2.2.2.2.2.2.2.2.2.2.2.2.2.2.2.2.2.2.2.2.1
theorem e_L_areSheets_63 : decode cL_areSheets 63 = .ok (.imul, 1) := D_L_areSheets_0.2.2.2.2.2.2.2.2.2.2.2.2.2.2.2.2.2.2.2.2.2.2.2.2.2.2.2.2.2.2.2.2.2.2.2.2.2.2.1
theorem e_L_areSheets_64 : decode cL_areSheets 64 = .ok (.if_icmp .gt 104, 3) := D_L_areSheets_0.2.2.2.2.2.2.2.2.2.2.2.2.2.2.2.2.2.2.2.2.2.2.2.2.2.2.2.2.2.2.2.2.2.2.2.2.2.2.2.1
set_option maxRecDepth 100000 in
theorem D_L_areSheets_1 : decode cL_areSheets 67 = .ok (.aload_n 0, 1) ∧ decode cL_areSheets 68 = .ok (.iconst 3, 1) ∧ decode cL_areSheets 69 = .ok (.invokevirtual 13, 3) ∧ decode cL_areSheets 72 = .ok (.aload_n 0, 1) ∧ decode cL_areSheets 73 = .ok (.iconst 1, 1) ∧ decode cL_areSheets 74 = .ok (.invokevirtual 19, 3) ∧ decode cL_areSheets 77 = .ok (.if_icmp .gt 91, 3) ∧ decode cL_areSheets 80 = .ok (.aload_n 0, 1) ∧ decode cL_areSheets 81 = .ok (.bipush 7, 2) ∧ decode cL_areSheets 83 = .ok (.invokevirtual 19, 3) ∧ decode cL_areSheets 86 = .ok (.aload_n 0, 1) ∧ decode cL_areSheets 87 = .ok (.bipush 8, 2) ∧ decode cL_areSheets 89 = .ok (.invokevirtual 19, 3) ∧ decode cL_areSheets 92 = .ok (.if_icmp .gt 76, 3) ∧ decode cL_areSheets 95 = .ok (.aload_n 0, 1) ∧ decode cL_areSheets 96 = .ok (.iconst 4, 1) ∧ decode cL_areSheets 97 = .ok (.invokevirtual 13, 3) ∧ decode cL_areSheets 100 = .ok (.ifCond .lt 68, 3) ∧ decode cL_areSheets 103 = .ok (.aload_n 0, 1) ∧ decode cL_areSheets 104 = .ok (.iconst 5, 1) ∧ decode cL_areSheets 105 = .ok (.invokevirtual 13, 3) ∧ decode cL_areSheets 108 = .ok (.ifCond .le 7, 3) ∧ decode cL_areSheets 111 = .ok (.iconst 1, 1) ∧ decode cL_areSheets 112 = .ok (.goto 4, 3) ∧ decode cL_areSheets 115 = .ok (.iconst 0, 1) ∧ decode cL_areSheets 116 = .ok (.aload_n 0, 1) ∧ decode cL_areSheets 117 = .ok (.bipush 6, 2) ∧ decode cL_areSheets 119 = .ok (.invokevirtual 13, 3) ∧ decode cL_areSheets 122 = .ok (.ifCond .le 7, 3) ∧ decode cL_areSheets 125 = .ok (.iconst 1, 1) ∧ decode cL_areSheets 126 = .ok (.goto 4, 3) ∧ decode cL_areSheets 129 = .ok (.iconst 0, 1) ∧ decode cL_areSheets 130 = .ok (.if_icmp .ne 38, 3) ∧ decode cL_areSheets 133 = .ok (.aload_n 0, 1) ∧ decode cL_areSheets 134 = .ok (.bipush 6, 2) ∧ decode cL_areSheets 136 = .ok (.invokevirtual 13, 3) ∧ decode cL_areSheets 139 = .ok (.ifCond .le 7, 3) ∧ decode cL_areSheets 142 = .ok (.iconst 1, 1) ∧ decode cL_areSheets 143 = .ok (.goto 4, 3) ∧ decode cL_areSheets 146 = .ok (.iconst 0, 1) ∧ True := dq_of (l := (67, .aload_n 0, 1) :: (68, .iconst 3, 1) :: (69, .invokevirtual 13, 3) :: (72, .aload_n 0, 1) :: (73, .iconst 1, 1) :: (74, .invokevirtual 19, 3) :: (77, .if_icmp .gt 91, 3) :: (80, .aload_n 0, 1) :: (81, .bipush 7, 2) :: (83, .invokevirtual 19, 3) :: (86, .aload_n 0, 1) :: (87, .bipush 8, 2) :: (89, .invokevirtual 19, 3) :: (92, .if_icmp .gt 76, 3) :: (95, .aload_n 0, 1) :: (96, .iconst 4, 1) :: (97, .invokevirtual 13, 3) :: (100, .ifCond .lt 68, 3) :: (103, .aload_n 0, 1) :: (104, .iconst 5, 1) :: (105, .invokevirtual 13, 3) :: (108, .ifCond .le 7, 3) :: (111, .iconst 1, 1) :: (112, .goto 4, 3) :: (115, .iconst 0, 1) :: (116, .aload_n 0, 1) :: (117, .bipush 6, 2) :: (119, .invokevirtual 13, 3) :: (122, .ifCond .le 7, 3) :: (125, .iconst 1, 1) :: (126, .goto 4, 3) :: (129, .iconst 0, 1) :: (130, .if_icmp .ne 38, 3) :: (133, .aload_n 0, 1) :: (134, .bipush 6, 2) :: (136, .invokevirtual 13, 3) :: (139, .ifCond .le 7, 3) :: (142, .iconst 1, 1) :: (143, .goto 4, 3) :: (146, .iconst 0, 1) :: []) (by decide +kernel)
theorem e_L_areSheets_67 : decode cL_areSheets 67 = .ok (.aload_n 0, 1) := D_L_areSheets_1.1
theorem e_L_areSheets_68 : decode cL_areSheets 68 = .ok (.iconst 3, 1) := D_L_areSheets_1.2.1
theorem e_L_areSheets_69 : decode cL_areSheets 69 = .ok (.invokevirtual 13, 3) := D_L_areSheets_1.2.2.1
theorem e_L_areSheets_72 : decode cL_areSheets 72 = .ok (.aload_n 0, 1) := D_L_areSheets_1.2.2.2.1
theorem e_L_areSheets_73 : decode cL_areSheets 73 = .ok (.iconst 1, 1) := D_L_areSheets_1.2.2.2.2.1
theorem e_L_areSheets_74 : decode cL_areSheets 74 = .ok (.invokevirtual 19, 3) := D_L_areSheets_1.2.2.2.2.2.1
theorem e_L_areSheets_77 : decode cL_areSheets 77 = .ok (.if_icmp .gt 91, 3) := D_L_areSheets_1.2.2.2.2.2.2.1
theorem e_L_areSheets_80 : decode cL_areSheets 80 = .ok (.aload_n 0, 1) := D_L_areSheets_1.2.2.2.2.2.2.2.1
theorem e_L_areSheets_81 : decode cL_areSheets 81 = .ok (.bipush 7, 2) := D_L_areSheets_1.2.2.2.2.2.2.2.2.1
theorem e_L_areSheets_83 : decode cL_areSheets 83 = .ok (.invokevirtual 19, 3) := D_L_areSheets_1.2.2.2.2.2.2.2.2.2.1
theorem e_L_areSheets_86 : decode cL_areSheets 86 = .ok (.aload_n 0, 1) := D_L_areSheets_1.2.2.2.2.2.2.2.2.2.2.1
theorem e_L_areSheets_87 : decode cL_areSheets 87 = .ok (.bipush 8, 2) := D_L_areSheets_1.2.2.2.2.2.2.2.2.2.2.2.1
theorem e_L_areSheets_89 : decode cL_areSheets 89 = .ok (.invokevirtual 19, 3) := D_L_areSheets_1.2.2.2.2.2.2.2.2.2.2.2.2.1
theorem e_L_areSheets_92 : decode cL_areSheets 92 = .ok (.if_icmp .gt 76, 3) := D_L_areSheets_1.2.2.2.2.2.2.2.2.2.2.2.2.2.1
theorem e_L_areSheets_95 : decode cL_areSheets 95 = .ok (.aload_n 0, 1) := D_L_areSheets_1.2.2.2.2.2.2.2.2.2.2.2.2.2.2.1
theorem e_L_areSheets_96 : decode cL_areSheets 96 = .ok (.iconst 4, 1) := D_L_areSheets_1.2.2.2.2.2.2.2.2.2.2.2.2.2.2.2.1
theorem e_L_areSheets_97 : decode cL_areSheets 97 = .ok (.invokevirtual 13, 3) := D_L_areSheets_1.2.2.2.2.2.2.2.2.2.2.2.2.2.2.2.2.1
theorem e_L_areSheets_100 : decode cL_areSheets 100 = .ok (.ifCond .lt 68, 3) := D_L_areSheets_1.2.2.2.2.2.2.2.2.2.2.2.2.2.2.2.2.2.1
theorem e_L_areSheets_103 : decode cL_areSheets 103 = .ok (.aload_n 0, 1) := D_L_areSheets_1.2.2.2.2.2.2.2.2.2.2.2.2.2.2.2.2.2.2.1
theorem e_L_areSheets_104 : decode cL_areSheets 104 = .ok (.iconst 5, 1) := D_L_areSheets_1.2.2.2.2.2.2.2.2.2.2.2.2.2.2.2.2.2.2.2.1
theorem e_L_areSheets_105 : decode cL_areSheets 105 = .ok (.invokevirtual 13, 3) := D_L_areSheets_1.2.2.2.2.2.2.2.2.2.2.2.2.2.2.2.2.2.2.2.2.1
theorem e_L_areSheets_108 : decode cL_areSheets 108 = .ok (.ifCond .le 7, 3) := D_L_areSheets_1.2.2.2.2.2.2.2.2.2.2.2.2.2.2.2.2.2.2.2.2.2.1
theorem e_L_areSheets_111 : decode cL_areSheets 111 = .ok (.iconst 1, 1) := D_L_areSheets_1.2.2.2.2.2.2.2.2.2.2.2.2.2.2.2.2.2.2.2.2.2.2.1
theorem e_L_areSheets_112 : decode cL_areSheets 112 = .ok (.goto 4, 3) := D_L_areSheets_1.2.2.2.2.2.2.2.2.2.2.2.2.2.2.2.2.2.2.2.2.2.2.2.1
theorem e_L_areSheets_115 : decode cL_areSheets 115 = .ok (.iconst 0, 1) := D_L_areSheets_1.2.2.2.2.2.2.2.2.2.2.2.2.2.2.2.2.2.2.2.2.2.2.2.2.1
theorem e_L_areSheets_116 : decode cL_areSheets 116 = .ok (.aload_n 0, 1) := D_L_areSheets_1.2.2.2.2.2.2.2.2.2.2.2.2.2.2.2.2.2.2.2.2.2.2.2.2.2.1
theorem e_L_areSheets_117 : decode cL_areSheets 117 = .ok (.bipush 6, 2) := D_L_areSheets_1.2.2.2.2.2.2.2.2.2.2.2.2.2.2.2.2.2.2.2.2.2.2.2.2.2.2.1
theorem e_L_areSheets_119 : decode cL_areSheets 119 = .ok (.invokevirtual 13, 3) := D_L_areSheets_1.2.2.2.2.2.2.2.2.2.2.2.2.2.2.2.2.2.2.2.2.2.2.2.2.2.2.2.1
theorem e_L_areSheets_122 : decode cL_areSheets 122 = .ok (.ifCond .le 7, 3) := D_L_areSheets_1.2.2.2.2.2.2.2.2.2.2.2.2.2.2.2.2.2.2.2.2.2.2.2.2.2.2.2.2.1
theorem e_L_areSheets_125 : decode cL_areSheets 125 = .ok (.iconst 1, 1) := D_L_areSheets_1.2.2.2.2.2.2.2.2.2.2.2.2.2.2.2.2.2.2.2.2.2.2.2.2.2.2.2.2.2.1
theorem e_L_areSheets_126 : decode cL_areSheets 126 = .ok (.goto 4, 3) := D_L_areSheets_1.2.2.2.2.2.2.2.2.2.2.2.2.2.2.2.2.2.2.2.2.2.2.2.2.2.2.2.2.2.2.1
theorem e_L_areSheets_129 : decode cL_areSheets 129 = .ok (.iconst 0, 1) := D_L_areSheets_1.2.2.2.2.2.2.2.2.2.2.2.2.2.2.2.2.2.2.2.2.2.2.2.2.2.2.2.2.2.2.2.1
theorem e_L_areSheets_130 : decode cL_areSheets 130 = .ok (.if_icmp .ne 38, 3) := D_L_areSheets_1.2.2.2.2.2.2.2.2.2.2.2.2.2.2.2.2.2.2.2.2.2.2.2.2.2.2.2.2.2.2.2.2.1
theorem e_L_areSheets_133 : decode cL_areSheets 133 = .ok (.aload_n 0, 1) := D_L_areSheets_1.2.2.2.2.2.2.2.2.2.2.2.2.2.2.2.2.2.2.2.2.2.2.2.2.2.2.2.2.2.2.2.2.2.1
theorem e_L_areSheets_134 : decode cL_areSheets 134 = .ok (.bipush 6, 2) := D_L_areSheets_1.2.2.2.2.2.2.2.2.2.2.2.2.2.2.2.2.2.2.2.2.2.2.2.2.2.2.2.2.2.2.2.2.2.2.1
theorem e_L_areSheets_136 : decode cL_areSheets 136 = .ok (.invokevirtual 13, 3) := D_L_areSheets_1.2.2.2.2.2.2.2.2.2.2.2.2.2.2.2.2.2.2.2.2.2.2.2.2.2.2.2.2.2.2.2.2.2.2.2.1
theorem e_L_areSheets_139 : decode cL_areSheets 139 = .ok (.ifCond .le 7, 3) := D_L_areSheets_1.2.2.2.2.2.2.2.2.2.2.2.2.2.2.2.2.2.2.2.2.2.2.2.2.2.2.2.2.2.2.2.2.2.2.2.2.1
theorem e_L_areSheets_142 : decode cL_areSheets 142 = .ok (.iconst 1, 1) := D_L_areSheets_1.2.2.2.2.2.2.2.2.2.2.2.2.2.2.2.2.2.2.2.2.2.2.2.2.2.2.2.2.2.2.2.2.2.2.2.2.2.1
theorem e_L_areSheets_143 : decode cL_areSheets 143 = .ok (.goto 4, 3) := D_L_areSheets_1.2.2.2.2.2.2.2.2.2.2.2.2.2.2.2.2.2.2.2.2.2.2.2.2.2.2.2.2.2.2.2.2.2.2.2.2.2.2.1
theorem e_L_areSheets_146 : decode cL_areSheets 146 = .ok (.iconst 0, 1) := D_L_areSheets_1.2.2.2.2.2.2.2.2.2.2.2.2.2.2.2.2.2.2.2.2.2.2.2.2.2.2.2.2.2.2.2.2.2.2.2.2.2.2.2.1
set_option maxRecDepth 100000 in
theorem D_L_areSheets_2 : decode cL_areSheets 147 = .ok (.aload_n 0, 1) ∧ decode cL_areSheets 148 = .ok (.bipush 7, 2) ∧ decode cL_areSheets 150 = .ok (.invokevirtual 13, 3) ∧ decode cL_areSheets 153 = .ok (.ifCond .lt 7, 3) ∧ decode cL_areSheets 156 = .ok (.iconst 1, 1) ∧ decode cL_areSheets 157 = .ok (.goto 4, 3) ∧ decode cL_areSheets 160 = .ok (.iconst 0, 1) ∧ decode cL_areSheets 161 = .ok (.if_icmp .ne 7, 3) ∧ decode cL_areSheets 164 = .ok (.iconst 1, 1) ∧ decode cL_areSheets 165 = .ok (.goto 4, 3) ∧ decode cL_areSheets 168 = .ok (.iconst 0, 1) ∧ decode cL_areSheets 169 = .ok (.istore_n 3, 1) ∧ decode cL_areSheets 170 = .ok (.iconst 0, 1) ∧ decode cL_areSheets 171 = .ok (.istore 4, 2) ∧ decode cL_areSheets 173 = .ok (.iload 4, 2) ∧ decode cL_areSheets 175 = .ok (.aload_n 0, 1) ∧ decode cL_areSheets 176 = .ok (.bipush 14, 2) ∧ decode cL_areSheets 178 = .ok (.invokevirtual 13, 3) ∧ decode cL_areSheets 181 = .ok (.if_icmp .ge 119, 3) ∧ decode cL_areSheets 184 = .ok (.iload_n 3, 1) ∧ decode cL_areSheets 185 = .ok (.ifCond .eq 115, 3) ∧ decode cL_areSheets 188 = .ok (.aload_n 0, 1) ∧ decode cL_areSheets 189 = .ok (.iload 4, 2) ∧ decode cL_areSheets 191 = .ok (.iconst 2, 1) ∧ decode cL_areSheets 192 = .ok (.invokevirtual 35, 3) ∧ decode cL_areSheets 195 = .ok (.istore 5, 2) ∧ decode cL_areSheets 197 = .ok (.iload_n 2, 1) ∧ decode cL_areSheets 198 = .ok (.iload 5, 2) ∧ decode cL_areSheets 200 = .ok (.iadd, 1) ∧ decode cL_areSheets 201 = .ok (.istore_n 2, 1) ∧ decode cL_areSheets 202 = .ok (.iload 5, 2) ∧ decode cL_areSheets 204 = .ok (.ifCond .le 28, 3) ∧ decode cL_areSheets 207 = .ok (.aload_n 0, 1) ∧ decode cL_areSheets 208 = .ok (.iload 4, 2) ∧ decode cL_areSheets 210 = .ok (.iconst 0, 1) ∧ decode cL_areSheets 211 = .ok (.invokevirtual 35, 3) ∧ decode cL_areSheets 214 = .ok (.ifCond .lt 18, 3) ∧ decode cL_areSheets 217 = .ok (.aload_n 0, 1) ∧ decode cL_areSheets 218 = .ok (.iload 4, 2) ∧ decode cL_areSheets 220 = .ok (.iconst 1, 1) ∧ True := dq_of (l := (147, .aload_n 0, 1) :: (148, .bipush 7, 2) :: (150, .invokevirtual 13, 3) :: (153, .ifCond .lt 7, 3) :: (156, .iconst 1, 1) :: (157, .goto 4, 3) :: (160, .iconst 0, 1) :: (161, .if_icmp .ne 7, 3) :: (164, .iconst 1, 1) :: (165, .goto 4, 3) :: (168, .iconst 0, 1) :: (169, .istore_n 3, 1) :: (170, .iconst 0, 1) :: (171, .istore 4, 2) :: (173, .iload 4, 2) :: (175, .aload_n 0, 1) :: (176, .bipush 14, 2) :: (178, .invokevirtual 13, 3) :: (181, .if_icmp .ge 119, 3) :: (184, .iload_n 3, 1) :: (185, .ifCond .eq 115, 3) :: (188, .aload_n 0, 1) :: (189, .iload 4, 2) :: (191, .iconst 2, 1) :: (192, .invokevirtual 35, 3) :: (195, .istore 5, 2) :: (197, .iload_n 2, 1) :: (198, .iload 5, 2) :: (200, .iadd, 1) :: (201, .istore_n 2, 1) :: (202, .iload 5, 2) :: (204, .ifCond .le 28, 3) :: (207, .aload_n 0, 1) :: (208, .iload 4, 2) :: (210, .iconst 0, 1) :: (211, .invokevirtual 35, 3) :: (214, .ifCond .lt 18, 3) :: (217, .aload_n 0, 1) :: (218, .iload 4, 2) :: (220, .iconst 1, 1) :: []) (by decide +kernel)
theorem e_L_areSheets_147 : decode cL_areSheets 147 = .ok (.aload_n 0, 1) := D_L_areSheets_2.1
theorem e_L_areSheets_148 : decode cL_areSheets 148 = .ok (.bipush 7, 2) := D_L_areSheets_2.2.1
theorem e_L_areSheets_150 : decode cL_areSheets 150 = .ok (.invokevirtual 13, 3) := D_L_areSheets_2.2.2.1
theorem e_L_areSheets_153 : decode cL_areSheets 153 = .ok (.ifCond .lt 7, 3) := D_L_areSheets_2.2.2.2.1
theorem e_L_areSheets_156 : decode cL_areSheets 156 = .ok (.iconst 1, 1) := D_L_areSheets_2.2.2.2.2.1
theorem e_L_areSheets_157 : decode cL_areSheets 157 = .ok (.goto 4, 3) := D_L_areSheets_2.2.2.2.2.2.1
theorem e_L_areSheets_160 : decode cL_areSheets 160 = .ok (.iconst 0, 1) := D_L_areSheets_2.2.2.2.2.2.2.1
theorem e_L_areSheets_161 : decode cL_areSheets 161 = .ok (.if_icmp .ne 7, 3) := D_L_areSheets_2.2.2.2.2.2.2.2.1
theorem e_L_areSheets_164 : decode cL_areSheets 164 = .ok (.iconst 1, 1) := D_L_areSheets_2.2.2.2.2.2.2.2.2.1
theorem e_L_areSheets_165 : decode cL_areSheets 165 = .ok (.goto 4, 3) := D_L_areSheets_2.2.2.2.2.2.2.2.2.2.1
theorem e_L_areSheets_168 : decode cL_areSheets 168 = .ok (.iconst 0, 1) := D_L_areSheets_2.2.2.2.2.2.2.2.2.2.2.1
theorem e_L_areSheets_169 : decode cL_areSheets 169 = .ok (.istore_n 3, 1) := D_L_areSheets_2.2.2.2.2.2.2.2.2.2.2.2.1
theorem e_L_areSheets_170 : decode cL_areSheets 170 = .ok (.iconst 0, 1) := D_L_areSheets_2.2.2.2.2.2.2.2.2.2.2.2.2.1
theorem e_L_areSheets_171 : decode cL_areSheets 171 = .ok (.istore 4, 2) := D_L_areSheets_2.2.2.2.2.2.2.2.2.2.2.2.2.2.1
theorem e_L_areSheets_173 : decode cL_areSheets 173 = .ok (.iload 4, 2) := D_L_areSheets_2.2.2.2.2.2.2.2.2.2.2.2.2.2.2.1
theorem e_L_areSheets_175 : decode cL_areSheets 175 = .ok (.aload_n 0, 1) := D_L_areSheets_2.2.2.2.2.2.2.2.2.2.2.2.2.2.2.2.1
theorem e_L_areSheets_176 : decode cL_areSheets 176 = .ok (.bipush 14, 2) := D_L_areSheets_2.2.2.2.2.2.2.2.2.2.2.2.2.2.2.2.2.1
theorem e_L_areSheets_178 : decode cL_areSheets 178 = .ok (.invokevirtual 13, 3) := D_L_areSheets_2.2.2.2.2.2.2.2.2.2.2.2.2.2.2.2.2.2.1
theorem e_L_areSheets_181 : decode cL_areSheets 181 = .ok (.if_icmp .ge 119, 3) := D_L_areSheets_2.2.2.2.2.2.2.2.2.2.2.2.2.2.2.2.2.2.2.1
theorem e_L_areSheets_184 : decode cL_areSheets 184 = .ok (.iload_n 3, 1) := D_L_areSheets_2.2.2.2.2.2.2.2.2.2.2.2.2.2.2.2.2.2.2.2.1
theorem e_L_areSheets_185 : decode cL_areSheets 185 = .ok (.ifCond .eq 115, 3) := D_L_areSheets_2.2.2.2.2.2.2.2.2.2.2.2.2.2.2.2.2.2.2.2.2.1
theorem e_L_areSheets_188 : decode cL_areSheets 188 = .ok (.aload_n 0, 1) := D_L_areSheets_2.2.2.2.2.2.2.2.2.2.2.2.2.2.2.2.2.2.2.2.2.2.1
theorem e_L_areSheets_189 : decode cL_areSheets 189 = .ok (.iload 4, 2) := D_L_areSheets_2.2.2.2.2.2.2.2.2.2.2.2.2.2.2.2.2.2.2.2.2.2.2.1
theorem e_L_areSheets_191 : decode cL_areSheets 191 = .ok (.iconst 2, 1) := D_L_areSheets_2.2.2.2.2.2.2.2.2.2.2.2.2.2.2.2.2.2.2.2.2.2.2.2.1
theorem e_L_areSheets_192 : decode cL_areSheets 192 = .ok (.invokevirtual 35, 3) := D_L_areSheets_2.2.2.2.2.2.2.2.2.2.2.2.2.2.2.2.2.2.2.2.2.2.2.2.2.1
theorem e_L_areSheets_195 : decode cL_areSheets 195 = .ok (.istore 5, 2) := D_L_areSheets_2.2.2.2.2.2.2.2.2.2.2.2.2.2.2.2.2.2.2.2.2.2.2.2.2.2.1
theorem e_L_areSheets_197 : decode cL_areSheets 197 = .ok (.iload_n 2, 1) := D_L_areSheets_2.2.2.2.2.2.2.2.2.2.2.2.2.2.2.2.2.2.2.2.2.2.2.2.2.2.2.1
theorem e_L_areSheets_198 : decode cL_areSheets 198 = .ok (.iload 5, 2) := D_L_areSheets_2.2.2.2.2.2.2.2.2.2.2.2.2.2.2.2.2.2.2.2.2.2.2.2.2.2.2.2.1
theorem e_L_areSheets_200 : decode cL_areSheets 200 = .ok (.iadd, 1) := D_L_areSheets_2.2.2.2.2.2.2.2.2.2.2.2.2.2.2.2.2.2.2.2.2.2.2.2.2.2.2.2.2.1
theorem e_L_areSheets_201 : decode cL_areSheets 201 = .ok (.istore_n 2, 1) := D_L_areSheets_2.2.2.2.2.2.2.2.2.2.2.2.2.2.2.2.2.2.2.2.2.2.2.2.2.2.2.2.2.2.1
theorem e_L_areSheets_202 : decode cL_areSheets 202 = .ok (.iload 5, 2) := D_L_areSheets_2.2.2.2.2.2.2.2.2.2.2.2.2.2.2.2.2.2.2.2.2.2.2.2.2.2.2.2.2.2.2.1
theorem e_L_areSheets_204 : decode cL_areSheets 204 = .ok (.ifCond .le 28, 3) := D_L_areSheets_2.2.2.2.2.2.2.2.2.2.2.2.2.2.2.2.2.2.2.2.2.2.2.2.2.2.2.2.2.2.2.2.1
theorem e_L_areSheets_207 : decode cL_areSheets 207 = .ok (.aload_n 0, 1) := D_L_areSheets_2.2.2.2.2.2.2.2.2.2.2.2.2.2.2.2.2.2.2.2.2.2.2.2.2.2.2.2.2.2.2.2.2.1
theorem e_L_areSheets_208 : decode cL_areSheets 208 = .ok (.iload 4, 2) := D_L_areSheets_2.2.2.2.2.2.2.2.2.2.2.2.2.2.2.2.2.2.2.2.2.2.2.2.2.2.2.2.2.2.2.2.2.2.1
theorem e_L_areSheets_210 : decode cL_areSheets 210 = .ok (.iconst 0, 1) := D_L_areSheets_2.2.2.2.2.2.2.2.2.2.2.2.2.2.2.2.2.2.2.2.2.2.2.2.2.2.2.2.2.2.2.2.2.2.2.1
theorem e_L_areSheets_211 : decode cL_areSheets 211 = .ok (.invokevirtual 35, 3) := D_L_areSheets_2.2.2.2.2.2.2.2.2.2.2.2.2.2.2.2.2.2.2.2.2.2.2.2.2.2.2.2.2.2.2.2.2.2.2.2.1
theorem e_L_areSheets_214 : decode cL_areSheets 214 = .ok (.ifCond .lt 18, 3) := D_L_areSheets_2.2.2.2.2.2.2.2.2.2.2.2.2.2.2.2.2.2.2.2.2.2.2.2.2.2.2.2.2.2.2.2.2.2.2.2.2.1
theorem e_L_areSheets_217 : decode cL_areSheets 217 = .ok (.aload_n 0, 1) := D_L_areSheets_2.2.2.2.2.2.2.2.2.2.2.2.2.2.2.2.2.2.2.2.2.2.2.2.2.2.2.2.2.2.2.2.2.2.2.2.2.2.1
theorem e_L_areSheets_218 : decode cL_areSheets 218 = .ok (.iload 4, 2) := D_L_areSheets_2.2.2.2.2.2.2.2.2.2.2.2.2.2.2.2.2.2.2.2.2.2.2.2.2.2.2.2.2.2.2.2.2.2.2.2.2.2.2.1
theorem e_L_areSheets_220 : decode cL_areSheets 220 = .ok (.iconst 1, 1) := D_L_areSheets_2.2.2.2.2.2.2.2.2.2.2.2.2.2.2.2.2.2.2.2.2.2.2.2.2.2.2.2.2.2.2.2.2.2.2.2.2.2.2.2.1
set_option maxRecDepth 100000 in
theorem D_L_areSheets_3 : decode cL_areSheets 221 = .ok (.invokevirtual 35, 3) ∧ decode cL_areSheets 224 = .ok (.iconst 4, 1) ∧ decode cL_areSheets 225 = .ok (.if_icmp .ge 7, 3) ∧ decode cL_areSheets 228 = .ok (.iconst 1, 1) ∧ decode cL_areSheets 229 = .ok (.goto 4, 3) ∧ decode cL_areSheets 232 = .ok (.iconst 0, 1) ∧ decode cL_areSheets 233 = .ok (.istore_n 3, 1) ∧ decode cL_areSheets 234 = .ok (.iconst 0, 1) ∧ decode cL_areSheets 235 = .ok (.istore 6, 2) ∧ decode cL_areSheets 237 = .ok (.iload 6, 2) ∧ decode cL_areSheets 239 = .ok (.iload 4, 2) ∧ decode cL_areSheets 241 = .ok (.if_icmp .ge 53, 3) ∧ decode cL_areSheets 244 = .ok (.iload_n 3, 1) ∧ decode cL_areSheets 245 = .ok (.ifCond .eq 41, 3) ∧ decode cL_areSheets 248 = .ok (.aload_n 0, 1) ∧ decode cL_areSheets 249 = .ok (.iload 6, 2) ∧ decode cL_areSheets 251 = .ok (.iconst 0, 1) ∧ decode cL_areSheets 252 = .ok (.invokevirtual 35, 3) ∧ decode cL_areSheets 255 = .ok (.aload_n 0, 1) ∧ decode cL_areSheets 256 = .ok (.iload 4, 2) ∧ decode cL_areSheets 258 = .ok (.iconst 0, 1) ∧ decode cL_areSheets 259 = .ok (.invokevirtual 35, 3) ∧ decode cL_areSheets 262 = .ok (.if_icmp .ne 20, 3) ∧ decode cL_areSheets 265 = .ok (.aload_n 0, 1) ∧ decode cL_areSheets 266 = .ok (.iload 6, 2) ∧ decode cL_areSheets 268 = .ok (.iconst 1, 1) ∧ decode cL_areSheets 269 = .ok (.invokevirtual 35, 3) ∧ decode cL_areSheets 272 = .ok (.aload_n 0, 1) ∧ decode cL_areSheets 273 = .ok (.iload 4, 2) ∧ decode cL_areSheets 275 = .ok (.iconst 1, 1) ∧ decode cL_areSheets 276 = .ok (.invokevirtual 35, 3) ∧ decode cL_areSheets 279 = .ok (.if_icmp .eq 7, 3) ∧ decode cL_areSheets 282 = .ok (.iconst 1, 1) ∧ decode cL_areSheets 283 = .ok (.goto 4, 3) ∧ decode cL_areSheets 286 = .ok (.iconst 0, 1) ∧ decode cL_areSheets 287 = .ok (.istore_n 3, 1) ∧ decode cL_areSheets 288 = .ok (.iinc 6 1, 3) ∧ decode cL_areSheets 291 = .ok (.goto (-54), 3) ∧ decode cL_areSheets 294 = .ok (.iinc 4 1, 3) ∧ decode cL_areSheets 297 = .ok (.goto (-124), 3) ∧ True := dq_of (l := (221, .invokevirtual 35, 3) :: (224, .iconst 4, 1) :: (225, .if_icmp .ge 7, 3) :: (228, .iconst 1, 1) :: (229, .goto 4, 3) :: (232, .iconst 0, 1) :: (233, .istore_n 3, 1) :: (234, .iconst 0, 1) :: (235, .istore 6, 2) :: (237, .iload 6, 2) :: (239, .iload 4, 2) :: (241, .if_icmp .ge 53, 3) :: (244, .iload_n 3, 1) :: (245, .ifCond .eq 41, 3) :: (248, .aload_n 0, 1) :: (249, .iload 6, 2) :: (251, .iconst 0, 1) :: (252, .invokevirtual 35, 3) :: (255, .aload_n 0, 1) :: (256, .iload 4, 2) :: (258, .iconst 0, 1) :: (259, .invokevirtual 35, 3) :: (262, .if_icmp .ne 20, 3) :: (265, .aload_n 0, 1) :: (266, .iload 6, 2) :: (268, .iconst 1, 1) :: (269, .invokevirtual 35, 3) :: (272, .aload_n 0, 1) :: (273, .iload 4, 2) :: (275, .iconst 1, 1) :: (276, .invokevirtual 35, 3) :: (279, .if_icmp .eq 7, 3) :: (282, .iconst 1, 1) :: (283, .goto 4, 3) :: (286, .iconst 0, 1) :: (287, .istore_n 3, 1) :: (288, .iinc 6 1, 3) :: (291, .goto (-54), 3) :: (294, .iinc 4 1, 3) :: (297, .goto (-124), 3) :: []) (by decide +kernel)
theorem e_L_areSheets_221 : decode cL_areSheets 221 = .ok (.invokevirtual 35, 3) := D_L_areSheets_3.1
theorem e_L_areSheets_224 : decode cL_areSheets 224 = .ok (.iconst 4, 1) := D_L_areSheets_3.2.1
theorem e_L_areSheets_225 : decode cL_areSheets 225 = .ok (.if_icmp .ge 7, 3) := D_L_areSheets_3.2.2.1
theorem e_L_areSheets_228 : decode cL_areSheets 228 = .ok (.iconst 1, 1) := D_L_areSheets_3.2.2.2.1
theorem e_L_areSheets_229 : decode cL_areSheets 229 = .ok (.goto 4, 3) := D_L_areSheets_3.2.2.2.2.1
theorem e_L_areSheets_232 : decode cL_areSheets 232 = .ok (.iconst 0, 1) := D_L_areSheets_3.2.2.2.2.2.1
theorem e_L_areSheets_233 : decode cL_areSheets 233 = .ok (.istore_n 3, 1) := D_L_areSheets_3.2.2.2.2.2.2.1
theorem e_L_areSheets_234 : decode cL_areSheets 234 = .ok (.iconst 0, 1) := D_L_areSheets_3.2.2.2.2.2.2.2.1
theorem e_L_areSheets_235 : decode cL_areSheets 235 = .ok (.istore 6, 2) := D_L_areSheets_3.2.2.2.2.2.2.2.2.1
theorem e_L_areSheets_237 : decode cL_areSheets 237 = .ok (.iload 6, 2) := D_L_areSheets_3.2.2.2.2.2.2.2.2.2.1
theorem e_L_areSheets_239 : decode cL_areSheets 239 = .ok (.iload 4, 2) := D_L_areSheets_3.2.2.2.2.2.2.2.2.2.2.1
theorem e_L_areSheets_241 : decode cL_areSheets 241 = .ok (.if_icmp .ge 53, 3) := D_L_areSheets_3.2.2.2.2.2.2.2.2.2.2.2.1
theorem e_L_areSheets_244 : decode cL_areSheets 244 = .ok (.iload_n 3, 1) := D_L_areSheets_3.2.2.2.2.2.2.2.2.2.2.2.2.1
theorem e_L_areSheets_245 : decode cL_areSheets 245 = .ok (.ifCond .eq 41, 3) := D_L_areSheets_3.2.2.2.2.2.2.2.2.2.2.2.2.2.1
theorem e_L_areSheets_248 : decode cL_areSheets 248 = .ok (.aload_n 0, 1) := D_L_areSheets_3.2.2.2.2.2.2.2.2.2.2.2.2.2.2.1
theorem e_L_areSheets_249 : decode cL_areSheets 249 = .ok (.iload 6, 2) := D_L_areSheets_3.2.2.2.2.2.2.2.2.2.2.2.2.2.2.2.1
theorem e_L_areSheets_251 : decode cL_areSheets 251 = .ok (.iconst 0, 1) := D_L_areSheets_3.2.2.2.2.2.2.2.2.2.2.2.2.2.2.2.2.1
theorem e_L_areSheets_252 : decode cL_areSheets 252 = .ok (.invokevirtual 35, 3) := D_L_areSheets_3.2.2.2.2.2.2.2.2.2.2.2.2.2.2.2.2.2.1
theorem e_L_areSheets_255 : decode cL_areSheets 255 = .ok (.aload_n 0, 1) := D_L_areSheets_3.2.2.2.2.2.2.2.2.2.2.2.2.2.2.2.2.2.2.1
theorem e_L_areSheets_256 : decode cL_areSheets 256 = .ok (.iload 4, 2) := D_L_areSheets_3.2.2.2.2.2.2.2.2.2.2.2.2.2.2.2.2.2.2.2.1
theorem e_L_areSheets_258 : decode cL_areSheets 258 = .ok (.iconst 0, 1) := D_L_areSheets_3.2.2.2.2.2.2.2.2.2.2.2.2.2.2.2.2.2.2.2.2.1
theorem e_L_areSheets_259 : decode cL_areSheets 259 = .ok (.invokevirtual 35, 3) := D_L_areSheets_3.2.2.2.2.2.2.2.2.2.2.2.2.2.2.2.2.2.2.2.2.2.1
theorem e_L_areSheets_262 : decode cL_areSheets 262 = .ok (.if_icmp .ne 20, 3) := D_L_areSheets_3.2.2.2.2.2.2.2.2.2.2.2.2.2.2.2.2.2.2.2.2.2.2.1
theorem e_L_areSheets_265 : decode cL_areSheets 265 = .ok (.aload_n 0, 1) := D_L_areSheets_3.2.2.2.2.2.2.2.2.2.2.2.2.2.2.2.2.2.2.2.2.2.2.2.1
theorem e_L_areSheets_266 : decode cL_areSheets 266 = .ok (.iload 6, 2) := D_L_areSheets_3.2.2.2.2.2.2.2.2.2.2.2.2.2.2.2.2.2.2.2.2.2.2.2.2.1
theorem e_L_areSheets_268 : decode cL_areSheets 268 = .ok (.iconst 1, 1) := D_L_areSheets_3.2.2.2.2.2.2.2.2.2.2.2.2.2.2.2.2.2.2.2.2.2.2.2.2.2.1
theorem e_L_areSheets_269 : decode cL_areSheets 269 = .ok (.invokevirtual 35, 3) := D_L_areSheets_3.2.2.2.2.2.2.2.2.2.2.2.2.2.2.2.2.2.2.2.2.2.2.2.2.2.2.1
theorem e_L_areSheets_272 : decode cL_areSheets 272 = .ok (.aload_n 0, 1) := D_L_areSheets_3.2.2.2.2.2.2.2.2.2.2.2.2.2.2.2.2.2.2.2.2.2.2.2.2.2.2.2.1
theorem e_L_areSheets_273 : decode cL_areSheets 273 = .ok (.iload 4, 2) := D_L_areSheets_3.2.2.2.2.2.2.2.2.2.2.2.2.2.2.2.2.2.2.2.2.2.2.2.2.2.2.2.2.1
theorem e_L_areSheets_275 : decode cL_areSheets 275 = .ok (.iconst 1, 1) := D_L_areSheets_3.2.2.2.2.2.2.2.2.2.2.2.2.2.2.2.2.2.2.2.2.2.2.2.2.2.2.2.2.2.1
theorem e_L_areSheets_276 : decode cL_areSheets 276 = .ok (.invokevirtual 35, 3) := D_L_areSheets_3.2.2.2.2.2.2.2.2.2.2.2.2.2.2.2.2.2.2.2.2.2.2.2.2.2.2.2.2.2.2.1
theorem e_L_areSheets_279 : decode cL_areSheets 279 = .ok (.if_icmp .eq 7, 3) := D_L_areSheets_3.2.2.2.2.2.2.2.2.2.2.2.2.2.2.2.2.2.2.2.2.2.2.2.2.2.2.2.2.2.2.2.1
theorem e_L_areSheets_282 : decode cL_areSheets 282 = .ok (.iconst 1, 1) := D_L_areSheets_3.2.2.2.2.2.2.2.2.2.2.2.2.2.2.2.2.2.2.2.2.2.2.2.2.2.2.2.2.2.2.2.2.1
theorem e_L_areSheets_283 : decode cL_areSheets 283 = .ok (.goto 4, 3) := D_L_areSheets_3.2.2.2.2.2.2.2.2.2.2.2.2.2.2.2.2.2.2.2.2.2.2.2.2.2.2.2.2.2.2.2.2.2.1
theorem e_L_areSheets_286 : decode cL_areSheets 286 = .ok (.iconst 0, 1) := D_L_areSheets_3.2.2.2.2.2.2.2.2.2.2.2.2.2.2.2.2.2.2.2.2.2.2.2.2.2.2.2.2.2.2.2.2.2.2.1
theorem e_L_areSheets_287 : decode cL_areSheets 287 = .ok (.istore_n 3, 1) := D_L_areSheets_3.2.2.2.2.2.2.2.2.2.2.2.2.2.2.2.2.2.2.2.2.2.2.2.2.2.2.2.2.2.2.2.2.2.2.2.1
theorem e_L_areSheets_288 : decode cL_areSheets 288 = .ok (.iinc 6 1, 3) := D_L_areSheets_3.2.2.2.2.2.2.2.2.2.2.2.2.2.2.2.2.2.2.2.2.2.2.2.2.2.2.2.2.2.2.2.2.2.2.2.2.1
theorem e_L_areSheets_291 : decode cL_areSheets 291 = .ok (.goto (-54), 3) := D_L_areSheets_3.2.2.2.2.2.2.2.2.2.2.2.2.2.2.2.2.2.2.2.2.2.2.2.2.2.2.2.2.2.2.2.2.2.2.2.2.2.1
theorem e_L_areSheets_294 : decode cL_areSheets 294 = .ok (.iinc 4 1, 3) := D_L_areSheets_3.2.2.2.2.2.2.2.2.2.2.2.2.2.2.2.2.2.2.2.2.2.2.2.2.2.2.2.2.2.2.2.2.2.2.2.2.2.2.1
theorem e_L_areSheets_297 : decode cL_areSheets 297 = .ok (.goto (-124), 3) := D_L_areSheets_3.2.2.2.2.2.2.2.2.2.2.2.2.2.2.2.2.2.2.2.2.2.2.2.2.2.2.2.2.2.2.2.2.2.2.2.2.2.2.2.1
set_option maxRecDepth 100000 in
theorem D_L_areSheets_4 : decode cL_areSheets 300 = .ok (.iconst 0, 1) ∧ decode cL_areSheets 301 = .ok (.istore 4, 2) ∧ decode cL_areSheets 303 = .ok (.iload 4, 2) ∧ decode cL_areSheets 305 = .ok (.iconst 4, 1) ∧ decode cL_areSheets 306 = .ok (.if_icmp .ge 59, 3) ∧ decode cL_areSheets 309 = .ok (.iload_n 3, 1) ∧ decode cL_areSheets 310 = .ok (.ifCond .eq 55, 3) ∧ decode cL_areSheets 313 = .ok (.aload_n 0, 1) ∧ decode cL_areSheets 314 = .ok (.iload 4, 2) ∧ decode cL_areSheets 316 = .ok (.iconst 2, 1) ∧ decode cL_areSheets 317 = .ok (.invokevirtual 29, 3) ∧ decode cL_areSheets 320 = .ok (.ifCond .lt 37, 3) ∧ decode cL_areSheets 323 = .ok (.aload_n 0, 1) ∧ decode cL_areSheets 324 = .ok (.iload 4, 2) ∧ decode cL_areSheets 326 = .ok (.iconst 2, 1) ∧ decode cL_areSheets 327 = .ok (.invokevirtual 29, 3) ∧ decode cL_areSheets 330 = .ok (.sipush 500, 3) ∧ decode cL_areSheets 333 = .ok (.if_icmp .gt 24, 3) ∧ decode cL_areSheets 336 = .ok (.aload_n 0, 1) ∧ decode cL_areSheets 337 = .ok (.iload 4, 2) ∧ decode cL_areSheets 339 = .ok (.iconst 3, 1) ∧ decode cL_areSheets 340 = .ok (.invokevirtual 29, 3) ∧ decode cL_areSheets 343 = .ok (.aload_n 0, 1) ∧ decode cL_areSheets 344 = .ok (.iload 4, 2) ∧ decode cL_areSheets 346 = .ok (.iconst 2, 1) ∧ decode cL_areSheets 347 = .ok (.invokevirtual 29, 3) ∧ decode cL_areSheets 350 = .ok (.if_icmp .lt 7, 3) ∧ decode cL_areSheets 353 = .ok (.iconst 1, 1) ∧ decode cL_areSheets 354 = .ok (.goto 4, 3) ∧ decode cL_areSheets 357 = .ok (.iconst 0, 1) ∧ decode cL_areSheets 358 = .ok (.istore_n 3, 1) ∧ decode cL_areSheets 359 = .ok (.iinc 4 1, 3) ∧ decode cL_areSheets 362 = .ok (.goto (-59), 3) ∧ decode cL_areSheets 365 = .ok (.iload_n 3, 1) ∧ decode cL_areSheets 366 = .ok (.ifCond .eq 16, 3) ∧ decode cL_areSheets 369 = .ok (.iload_n 2, 1) ∧ decode cL_areSheets 370 = .ok (.aload_n 0, 1) ∧ decode cL_areSheets 371 = .ok (.iconst 0, 1) ∧ decode cL_areSheets 372 = .ok (.invokevirtual 19, 3) ∧ decode cL_areSheets 375 = .ok (.if_icmp .ne 7, 3) ∧ True := dq_of (l := (300, .iconst 0, 1) :: (301, .istore 4, 2) :: (303, .iload 4, 2) :: (305, .iconst 4, 1) :: (306, .if_icmp .ge 59, 3) :: (309, .iload_n 3, 1) :: (310, .ifCond .eq 55, 3) :: (313, .aload_n 0, 1) :: (314, .iload 4, 2) :: (316, .iconst 2, 1) :: (317, .invokevirtual 29, 3) :: (320, .ifCond .lt 37, 3) :: (323, .aload_n 0, 1) :: (324, .iload 4, 2) :: (326, .iconst 2, 1) :: (327, .invokevirtual 29, 3) :: (330, .sipush 500, 3) :: (333, .if_icmp .gt 24, 3) :: (336, .aload_n 0, 1) :: (337, .iload 4, 2) :: (339, .iconst 3, 1) :: (340, .invokevirtual 29, 3) :: (343, .aload_n 0, 1) :: (344, .iload 4, 2) :: (346, .iconst 2, 1) :: (347, .invokevirtual 29, 3) :: (350, .if_icmp .lt 7, 3) :: (353, .iconst 1, 1) :: (354, .goto 4, 3) :: (357, .iconst 0, 1) :: (358, .istore_n 3, 1) :: (359, .iinc 4 1, 3) :: (362, .goto (-59), 3) :: (365, .iload_n 3, 1) :: (366, .ifCond .eq 16, 3) :: (369, .iload_n 2, 1) :: (370, .aload_n 0, 1) :: (371, .iconst 0, 1) :: (372, .invokevirtual 19, 3) :: (375, .if_icmp .ne 7, 3) :: []) (by decide +kernel)
theorem e_L_areSheets_300 : decode cL_areSheets 300 = .ok (.iconst 0, 1) := D_L_areSheets_4.1
theorem e_L_areSheets_301 : decode cL_areSheets 301 = .ok (.istore 4, 2) := D_L_areSheets_4.2.1
theorem e_L_areSheets_303 : decode cL_areSheets 303 = .ok (.iload 4, 2) := D_L_areSheets_4.2.2.1
theorem e_L_areSheets_305 : decode cL_areSheets 305 = .ok (.iconst 4, 1) := D_L_areSheets_4.2.2.2.1
theorem e_L_areSheets_306 : decode cL_areSheets 306 = .ok (.if_icmp .ge 59, 3) := D_L_areSheets_4.2.2.2.2.1
theorem e_L_areSheets_309 : decode cL_areSheets 309 = .ok (.iload_n 3, 1) := D_L_areSheets_4.2.2.2.2.2.1
theorem e_L_areSheets_310 : decode cL_areSheets 310 = .ok (.ifCond .eq 55, 3) := D_L_areSheets_4.2.2.2.2.2.2.1
theorem e_L_areSheets_313 : decode cL_areSheets 313 = .ok (.aload_n 0, 1) := D_L_areSheets_4.2.2.2.2.2.2.2.1
theorem e_L_areSheets_314 : decode cL_areSheets 314 = .ok (.iload 4, 2) := D_L_areSheets_4.2.2.2.2.2.2.2.2.1
theorem e_L_areSheets_316 : decode cL_areSheets 316 = .ok (.iconst 2, 1) := D_L_areSheets_4.2.2.2.2.2.2.2.2.2.1
theorem e_L_areSheets_317 : decode cL_areSheets 317 = .ok (.invokevirtual 29, 3) := D_L_areSheets_4.2.2.2.2.2.2.2.2.2.2.1
theorem e_L_areSheets_320 : decode cL_areSheets 320 = .ok (.ifCond .lt 37, 3) := D_L_areSheets_4.2.2.2.2.2.2.2.2.2.2.2.1
theorem e_L_areSheets_323 : decode cL_areSheets 323 = .ok (.aload_n 0, 1) := D_L_areSheets_4.2.2.2.2.2.2.2.2.2.2.2.2.1
theorem e_L_areSheets_324 : decode cL_areSheets 324 = .ok (.iload 4, 2) := D_L_areSheets_4.2.2.2.2.2.2.2.2.2.2.2.2.2.1
theorem e_L_areSheets_326 : decode cL_areSheets 326 = .ok (.iconst 2, 1) := D_L_areSheets_4.2.2.2.2.2.2.2.2.2.2.2.2.2.2.1
theorem e_L_areSheets_327 : decode cL_areSheets 327 = .ok (.invokevirtual 29, 3) := D_L_areSheets_4.2.2.2.2.2.2.2.2.2.2.2.2.2.2.2.1
theorem e_L_areSheets_330 : decode cL_areSheets 330 = .ok (.sipush 500, 3) := D_L_areSheets_4.2.2.2.2.2.2.2.2.2.2.2.2.2.2.2.2.1
theorem e_L_areSheets_333 : decode cL_areSheets 333 = .ok (.if_icmp .gt 24, 3) := D_L_areSheets_4.2.2.2.2.2.2.2.2.2.2.2.2.2.2.2.2.2.1
theorem e_L_areSheets_336 : decode cL_areSheets 336 = .ok (.aload_n 0, 1) := D_L_areSheets_4.2.2.2.2.2.2.2.2.2.2.2.2.2.2.2.2.2.2.1
theorem e_L_areSheets_337 : decode cL_areSheets 337 = .ok (.iload 4, 2) := D_L_areSheets_4.2.2.2.2.2.2.2.2.2.2.2.2.2.2.2.2.2.2.2.1
theorem e_L_areSheets_339 : decode cL_areSheets 339 = .ok (.iconst 3, 1) := D_L_areSheets_4.2.2.2.2.2.2.2.2.2.2.2.2.2.2.2.2.2.2.2.2.1
theorem e_L_areSheets_340 : decode cL_areSheets 340 = .ok (.invokevirtual 29, 3) := D_L_areSheets_4.2.2.2.2.2.2.2.2.2.2.2.2.2.2.2.2.2.2.2.2.2.1
theorem e_L_areSheets_343 : decode cL_areSheets 343 = .ok (.aload_n 0, 1) := D_L_areSheets_4.2.2.2.2.2.2.2.2.2.2.2.2.2.2.2.2.2.2.2.2.2.2.1
theorem e_L_areSheets_344 : decode cL_areSheets 344 = .ok (.iload 4, 2) := D_L_areSheets_4.2.2.2.2.2.2.2.2.2.2.2.2.2.2.2.2.2.2.2.2.2.2.2.1
theorem e_L_areSheets_346 : decode cL_areSheets 346 = .ok (.iconst 2, 1) := D_L_areSheets_4.2.2.2.2.2.2.2.2.2.2.2.2.2.2.2.2.2.2.2.2.2.2.2.2.1
theorem e_L_areSheets_347 : decode cL_areSheets 347 = .ok (.invokevirtual 29, 3) := D_L_areSheets_4.2.2.2.2.2.2.2.2.2.2.2.2.2.2.2.2.2.2.2.2.2.2.2.2.2.1
theorem e_L_areSheets_350 : decode cL_areSheets 350 = .ok (.if_icmp .lt 7, 3) := D_L_areSheets_4.2.2.2.2.2.2.2.2.2.2.2.2.2.2.2.2.2.2.2.2.2.2.2.2.2.2.1
theorem e_L_areSheets_353 : decode cL_areSheets 353 = .ok (.iconst 1, 1) := D_L_areSheets_4.2.2.2.2.2.2.2.2.2.2.2.2.2.2.2.2.2.2.2.2.2.2.2.2.2.2.2.1
theorem e_L_areSheets_354 : decode cL_areSheets 354 = .ok (.goto 4, 3) := D_L_areSheets_4.2.2.2.2.2.2.2.2.2.2.2.2.2.2.2.2.2.2.2.2.2.2.2.2.2.2.2.2.1
theorem e_L_areSheets_357 : decode cL_areSheets 357 = .ok (.iconst 0, 1) := D_L_areSheets_4.2.2.2.2.2.2.2.2.2.2.2.2.2.2.2.2.2.2.2.2.2.2.2.2.2.2.2.2.2.1
theorem e_L_areSheets_358 : decode cL_areSheets 358 = .ok (.istore_n 3, 1) := D_L_areSheets_4.2.2.2.2.2.2.2.2.2.2.2.2.2.2.2.2.2.2.2.2.2.2.2.2.2.2.2.2.2.2.1
theorem e_L_areSheets_359 : decode cL_areSheets 359 = .ok (.iinc 4 1, 3) := D_L_areSheets_4.2.2.2.2.2.2.2.2.2.2.2.2.2.2.2.2.2.2.2.2.2.2.2.2.2.2.2.2.2.2.2.1
theorem e_L_areSheets_362 : decode cL_areSheets 362 = .ok (.goto (-59), 3) := D_L_areSheets_4.2.2.2.2.2.2.2.2.2.2.2.2.2.2.2.2.2.2.2.2.2.2.2.2.2.2.2.2.2.2.2.2.1
theorem e_L_areSheets_365 : decode cL_areSheets 365 = .ok (.iload_n 3, 1) := D_L_areSheets_4.2.2.2.2.2.2.2.2.2.2.2.2.2.2.2.2.2.2.2.2.2.2.2.2.2.2.2.2.2.2.2.2.2.1
theorem e_L_areSheets_366 : decode cL_areSheets 366 = .ok (.ifCond .eq 16, 3) := D_L_areSheets_4.2.2.2.2.2.2.2.2.2.2.2.2.2.2.2.2.2.2.2.2.2.2.2.2.2.2.2.2.2.2.2.2.2.2.1
theorem e_L_areSheets_369 : decode cL_areSheets 369 = .ok (.iload_n 2, 1) := D_L_areSheets_4.2.2.2.2.2.2.2.2.2.2.2.2.2.2.2.2.2.2.2.2.2.2.2.2.2.2.2.2.2.2.2.2.2.2.2.1
theorem e_L_areSheets_370 : decode cL_areSheets 370 = .ok (.aload_n 0, 1) := D_L_areSheets_4.2.2.2.2.2.2.2.2.2.2.2.2.2.2.2.2.2.2.2.2.2.2.2.2.2.2.2.2.2.2.2.2.2.2.2.2.1
theorem e_L_areSheets_371 : decode cL_areSheets 371 = .ok (.iconst 0, 1) := D_L_areSheets_4.2.2.2.2.2.2.2.2.2.2.2.2.2.2.2.2.2.2.2.2.2.2.2.2.2.2.2.2.2.2.2.2.2.2.2.2.2.1
theorem e_L_areSheets_372 : decode cL_areSheets 372 = .ok (.invokevirtual 19, 3) := D_L_areSheets_4.2.2.2.2.2.2.2.2.2.2.2.2.2.2.2.2.2.2.2.2.2.2.2.2.2.2.2.2.2.2.2.2.2.2.2.2.2.2.1
theorem e_L_areSheets_375 : decode cL_areSheets 375 = .ok (.if_icmp .ne 7, 3) := D_L_areSheets_4.2.2.2.2.2.2.2.2.2.2.2.2.2.2.2.2.2.2.2.2.2.2.2.2.2.2.2.2.2.2.2.2.2.2.2.2.2.2.2.1
set_option maxRecDepth 100000 in
theorem D_L_areSheets_5 : decode cL_areSheets 378 = .ok (.iconst 1, 1) ∧ decode cL_areSheets 379 = .ok (.goto 4, 3) ∧ decode cL_areSheets 382 = .ok (.iconst 0, 1) ∧ decode cL_areSheets 383 = .ok (.ireturn, 1) ∧ True := dq_of (l := (378, .iconst 1, 1) :: (379, .goto 4, 3) :: (382, .iconst 0, 1) :: (383, .ireturn, 1) :: []) (by decide +kernel)
theorem e_L_areSheets_378 : decode cL_areSheets 378 = .ok (.iconst 1, 1) := D_L_areSheets_5.1
theorem e_L_areSheets_379 : decode cL_areSheets 379 = .ok (.goto 4, 3) := D_L_areSheets_5.2.1
theorem e_L_areSheets_382 : decode cL_areSheets 382 = .ok (.iconst 0, 1) := D_L_areSheets_5.2.2.1
theorem e_L_areSheets_383 : decode cL_areSheets 383 = .ok (.ireturn, 1) := D_L_areSheets_5.2.2.2.1
set_option maxRecDepth 100000 in
theorem D_L_areJobs_0 : decode cL_areJobs 0 = .ok (.iconst 0, 1) ∧ decode cL_areJobs 1 = .ok (.istore_n 1, 1) ∧ decode cL_areJobs 2 = .ok (.aload_n 0, 1) ∧ decode cL_areJobs 3 = .ok (.aload_n 0, 1) ∧ decode cL_areJobs 4 = .ok (.iconst 0, 1) ∧ decode cL_areJobs 5 = .ok (.invokevirtual 13, 3) ∧ decode cL_areJobs 8 = .ok (.invokevirtual 22, 3) ∧ decode cL_areJobs 11 = .ok (.bipush (-4), 2) ∧ decode cL_areJobs 13 = .ok (.if_icmp .ne 7, 3) ∧ decode cL_areJobs 16 = .ok (.iconst 1, 1) ∧ decode cL_areJobs 17 = .ok (.goto 4, 3) ∧ decode cL_areJobs 20 = .ok (.iconst 0, 1) ∧ decode cL_areJobs 21 = .ok (.istore_n 2, 1) ∧ decode cL_areJobs 22 = .ok (.iconst 0, 1) ∧ decode cL_areJobs 23 = .ok (.istore_n 3, 1) ∧ decode cL_areJobs 24 = .ok (.iload_n 3, 1) ∧ decode cL_areJobs 25 = .ok (.aload_n 0, 1) ∧ decode cL_areJobs 26 = .ok (.iconst 0, 1) ∧ decode cL_areJobs 27 = .ok (.invokevirtual 13, 3) ∧ decode cL_areJobs 30 = .ok (.if_icmp .ge 412, 3) ∧ decode cL_areJobs 33 = .ok (.iload_n 2, 1) ∧ decode cL_areJobs 34 = .ok (.ifCond .eq 408, 3) ∧ decode cL_areJobs 37 = .ok (.aload_n 0, 1) ∧ decode cL_areJobs 38 = .ok (.iload_n 3, 1) ∧ decode cL_areJobs 39 = .ok (.invokevirtual 22, 3) ∧ decode cL_areJobs 42 = .ok (.istore 4, 2) ∧ decode cL_areJobs 44 = .ok (.aload_n 0, 1) ∧ decode cL_areJobs 45 = .ok (.iload 4, 2) ∧ decode cL_areJobs 47 = .ok (.iconst 4, 1) ∧ decode cL_areJobs 48 = .ok (.invokevirtual 25, 3) ∧ decode cL_areJobs 51 = .ok (.istore 5, 2) ∧ decode cL_areJobs 53 = .ok (.aload_n 0, 1) ∧ decode cL_areJobs 54 = .ok (.iload 4, 2) ∧ decode cL_areJobs 56 = .ok (.iconst 0, 1) ∧ decode cL_areJobs 57 = .ok (.invokevirtual 25, 3) ∧ decode cL_areJobs 60 = .ok (.istore 6, 2) ∧ decode cL_areJobs 62 = .ok (.aload_n 0, 1) ∧ decode cL_areJobs 63 = .ok (.iload 4, 2) ∧ decode cL_areJobs 65 = .ok (.iconst 1, 1) ∧ decode cL_areJobs 66 = .ok (.invokevirtual 25, 3) ∧ True := dq_of (l := (0, .iconst 0, 1) :: (1, .istore_n 1, 1) :: (2, .aload_n 0, 1) :: (3, .aload_n 0, 1) :: (4, .iconst 0, 1) :: (5, .invokevirtual 13, 3) :: (8, .invokevirtual 22, 3) :: (11, .bipush (-4), 2) :: (13, .if_icmp .ne 7, 3) :: (16, .iconst 1, 1) :: (17, .goto 4, 3) :: (20, .iconst 0, 1) :: (21, .istore_n 2, 1) :: (22, .iconst 0, 1) :: (23, .istore_n 3, 1) :: (24, .iload_n 3, 1) :: (25, .aload_n 0, 1) :: (26, .iconst 0, 1) :: (27, .invokevirtual 13, 3) :: (30, .if_icmp .ge 412, 3) :: (33, .iload_n 2, 1) :: (34, .ifCond .eq 408, 3) :: (37, .aload_n 0, 1) :: (38, .iload_n 3, 1) :: (39, .invokevirtual 22, 3) :: (42, .istore 4, 2) :: (44, .aload_n 0, 1) :: (45, .iload 4, 2) :: (47, .iconst 4, 1) :: (48, .invokevirtual 25, 3) :: (51, .istore 5, 2) :: (53, .aload_n 0, 1) :: (54, .iload 4, 2) :: (56, .iconst 0, 1) :: (57, .invokevirtual 25, 3) :: (60, .istore 6, 2) :: (62, .aload_n 0, 1) :: (63, .iload 4, 2) :: (65, .iconst 1, 1) :: (66, .invokevirtual 25, 3) :: []) (by decide +kernel)
theorem e_L_areJobs_0 : decode cL_areJobs 0 = .ok (.iconst 0, 1) := D_L_areJobs_0.1
theorem e_L_areJobs_1 : decode cL_areJobs 1 = .ok (.istore_n 1, 1) := D_L_areJobs_0.2.1
theorem e_L_areJobs_2 : decode cL_areJobs 2 = .ok (.aload_n 0, 1) := D_L_areJobs_0.2.2.1
theorem e_L_areJobs_3 : decode cL_areJobs 3 = .ok (.aload_n 0, 1) := D_L_areJobs_0.2.2.2.1
theorem e_L_areJobs_4 : decode cL_areJobs 4 = .ok (.iconst 0, 1) := D_L_areJobs_0.2.2.2.2.1
theorem e_L_areJobs_5 : decode cL_areJobs 5 = .ok (.invokevirtual 13, 3) := D_L_areJobs_0.2.2.2.2.2.1
theorem e_L_areJobs_8 : decode cL_areJobs 8 = .ok (.invokevirtual 22, 3) := D_L_areJobs_0.2.2.2.2.2.2.1
theorem e_L_areJobs_11 : decode cL_areJobs 11 = .ok (.bipush (-4), 2) := D_L_areJobs_0.2.2.2.2.2.2.2.1
theorem e_L_areJobs_13 : decode cL_areJobs 13 = .ok (.if_icmp .ne 7, 3) := D_L_areJobs_0.2.2.2.2.2.2.2.2.1
theorem e_L_areJobs_16 : decode cL_areJobs 16 = .ok (.iconst 1, 1) := D_L_areJobs_0.2.2.2.2.2.2.2.2.2.1
theorem e_L_areJobs_17 : decode cL_areJobs 17 = .ok (.goto 4, 3) := D_L_areJobs_0.2.2.2.2.2.2.2.2.2.2.1
theorem e_L_areJobs_20 : decode cL_areJobs 20 = .ok (.iconst 0, 1) := D_L_areJobs_0.2.2.2.2.2.2.2.2.2.2.2.1
theorem e_L_areJobs_21 : decode cL_areJobs 21 = .ok (.istore_n 2, 1) := D_L_areJobs_0.2.2.2.2.2.2.2.2.2.2.2.2.1
theorem e_L_areJobs_22 : decode cL_areJobs 22 = .ok (.iconst 0, 1) := D_L_areJobs_0.2.2.2.2.2.2.2.2.2.2.2.2.2.1
theorem e_L_areJobs_23 : decode cL_areJobs 23 = .ok (.istore_n 3, 1) := D_L_areJobs_0.2.2.2.2.2.2.2.2.2.2.2.2.2.2.1
theorem e_L_areJobs_24 : decode cL_areJobs 24 = .ok (.iload_n 3, 1) := D_L_areJobs_0.2.2.2.2.2.2.2.2.2.2.2.2.2.2.2.1
theorem e_L_areJobs_25 : decode cL_areJobs 25 = .ok (.aload_n 0, 1) := D_L_areJobs_0.2.2.2.2.2.2.2.2.2.2.2.2.2.2.2.2.1
theorem e_L_areJobs_26 : decode cL_areJobs 26 = .ok (.iconst 0, 1) := D_L_areJobs_0.2.2.2.2.2.2.2.2.2.2.2.2.2.2.2.2.2.1
theorem e_L_areJobs_27 : decode cL_areJobs 27 = .ok (.invokevirtual 13, 3) := D_L_areJobs_0.2.2.2.2.2.2.2.2.2.2.2.2.2.2.2.2.2.2.1
theorem e_L_areJobs_30 : decode cL_areJobs 30 = .ok (.if_icmp .ge 412, 3) := D_L_areJobs_0.2.2.2.2.2.2.2.2.2.2.2.2.2.2.2.2.2.2.2.1
theorem e_L_areJobs_33 : decode cL_areJobs 33 = .ok (.iload_n 2, 1) := D_L_areJobs_0.2.2.2.2.2.2.2.2.2.2.2.2.2.2.2.2.2.2.2.2.1
theorem e_L_areJobs_34 : decode cL_areJobs 34 = .ok (.ifCond .eq 408, 3) := D_L_areJobs_0.2.2.2.2.2.2.2.2.2.2.2.2.2.2.2.2.2.2.2.2.2.1
theorem e_L_areJobs_37 : decode cL_areJobs 37 = .ok (.aload_n 0, 1) := D_L_areJobs_0.2.2.2.2.2.2.2.2.2.2.2.2.2.2.2.2.2.2.2.2.2.2.1
theorem e_L_areJobs_38 : decode cL_areJobs 38 = .ok (.iload_n 3, 1) := D_L_areJobs_0.2.2.2.2.2.2.2.2.2.2.2.2.2.2.2.2.2.2.2.2.2.2.2.1
theorem e_L_areJobs_39 : decode cL_areJobs 39 = .ok (.invokevirtual 22, 3) := D_L_areJobs_0.2.2.2.2.2.2.2.2.2.2.2.2.2.2.2.2.2.2.2.2.2.2.2.2.1
theorem e_L_areJobs_42 : decode cL_areJobs 42 = .ok (.istore 4, 2) := D_L_areJobs_0.2.2.2.2.2.2.2.2.2.2.2.2.2.2.2.2.2.2.2.2.2.2.2.2.2.1
theorem e_L_areJobs_44 : decode cL_areJobs 44 = .ok (.aload_n 0, 1) := D_L_areJobs_0.2.2.2.2.2.2.2.2.2.2.2.2.2.2.2.2.2.2.2.2.2.2.2.2.2.2.1
theorem e_L_areJobs_45 : decode cL_areJobs 45 = .ok (.iload 4, 2) := D_L_areJobs_0.2.2.2.2.2.2.2.2.2.2.2.2.2.2.2.2.2.2.2.2.2.2.2.2.2.2.2.1
theorem e_L_areJobs_47 : decode cL_areJobs 47 = .ok (.iconst 4, 1) := D_L_areJobs_0.2.2.2.2.2.2.2.2.2.2.2.2.2.2.2.2.2.2.2.2.2.2.2.2.2.2.2.2.1
theorem e_L_areJobs_48 : decode cL_areJobs 48 = .ok (.invokevirtual 25, 3) := D_L_areJobs_0.2.2.2.2.2.2.2.2.2.2.2.2.2.2.2.2.2.2.2.2.2.2.2.2.2.2.2.2.2.1
theorem e_L_areJobs_51 : decode cL_areJobs 51 = .ok (.istore 5, 2) := D_L_areJobs_0.2.2.2.2.2.2.2.2.2.2.2.2.2.2.2.2.2.2.2.2.2.2.2.2.2.2.2.2.2.2.1
theorem e_L_areJobs_53 : decode cL_areJobs 53 = .ok (.aload_n 0, 1) := D_L_areJobs_0.2.2.2.2.2.2.2.2.2.2.2.2.2.2.2.2.2.2.2.2.2.2.2.2.2.2.2.2.2.2.2.1
theorem e_L_areJobs_54 : decode cL_areJobs 54 = .ok (.iload 4, 2) := D_L_areJobs_0.2.2.2.2.2.2.2.2.2.2.2.2.2.2.2.2.2.2.2.2.2.2.2.2.2.2.2.2.2.2.2.2.1
theorem e_L_areJobs_56 : decode cL_areJobs 56 = .ok (.iconst 0, 1) := D_L_areJobs_0.2.2.2.2.2.2.2.2.2.2.2.2.2.2.2.2.2.2.2.2.2.2.2.2.2.2.2.2.2.2.2.2.2.1
theorem e_L_areJobs_57 : decode cL_areJobs 57 = .ok (.invokevirtual 25, 3) := D_L_areJobs_0.2.2.2.2.2.2.2.2.2.2.2.2.2.2.2.2.2.2.2.2.2.2.2.2.2.2.2.2.2.2.2.2.2.2.1
theorem e_L_areJobs_60 : decode cL_areJobs 60 = .ok (.istore 6, 2) := D_L_areJobs_0.2.2.2.2.2.2.2.2.2.2.2.2.2.2.2.2.2.2.2.2.2.2.2.2.2.2.2.2.2.2.2.2.2.2.2.1
theorem e_L_areJobs_62 : decode cL_areJobs 62 = .ok (.aload_n 0, 1) := D_L_areJobs_0.2.2.2.2.2.2.2.2.2.2.2.2.2.2.2.2.2.2.2.2.2.2.2.2.2.2.2.2.2.2.2.2.2.2.2.2.1
theorem e_L_areJobs_63 : decode cL_areJobs 63 = .ok (.iload 4, 2) := D_L_areJobs_0.2.2.2.2.2.2.2.2.2.2.2.2.2.2.2.2.2.2.2.2.2.2.2.2.2.2.2.2.2.2.2.2.2.2.2.2.2.1
theorem e_L_areJobs_65 : decode cL_areJobs 65 = .ok (.iconst 1, 1) := D_L_areJobs_0.2.2.2.2.2.2.2.2.2.2.2.2.2.2.2.2.2.2.2.2.2.2.2.2.2.2.2.2.2.2.2.2.2.2.2.2.2.2.1
theorem e_L_areJobs_66 : decode cL_areJobs 66 = .ok (.invokevirtual 25, 3) := D_L_areJobs_0.2.2.2.2.2.2.2.2.2.2.2.2.2.2.2.2.2.2.2.2.2.2.2.2.2.2.2.2.2.2.2.2.2.2.2.2.2.2.2.1
set_option maxRecDepth 100000 in
theorem D_L_areJobs_1 : decode cL_areJobs 69 = .ok (.istore 7, 2) ∧ decode cL_areJobs 71 = .ok (.iload 5, 2) ∧ decode cL_areJobs 73 = .ok (.iconst 2, 1) ∧ decode cL_areJobs 74 = .ok (.irem, 1) ∧ decode cL_areJobs 75 = .ok (.iconst 1, 1) ∧ decode cL_areJobs 76 = .ok (.if_icmp .ne 12, 3) ∧ decode cL_areJobs 79 = .ok (.iload 6, 2) ∧ decode cL_areJobs 81 = .ok (.iconst 1, 1) ∧ decode cL_areJobs 82 = .ok (.iadd, 1) ∧ decode cL_areJobs 83 = .ok (.iconst 2, 1) ∧ decode cL_areJobs 84 = .ok (.idiv, 1) ∧ decode cL_areJobs 85 = .ok (.goto 5, 3) ∧ decode cL_areJobs 88 = .ok (.iload 6, 2) ∧ decode cL_areJobs 90 = .ok (.istore 8, 2) ∧ decode cL_areJobs 92 = .ok (.aload_n 0, 1) ∧ decode cL_areJobs 93 = .ok (.iload 4, 2) ∧ decode cL_areJobs 95 = .ok (.bipush 9, 2) ∧ decode cL_areJobs 97 = .ok (.invokevirtual 25, 3) ∧ decode cL_areJobs 100 = .ok (.istore 9, 2) ∧ decode cL_areJobs 102 = .ok (.iload 9, 2) ∧ decode cL_areJobs 104 = .ok (.iload 8, 2) ∧ decode cL_areJobs 106 = .ok (.iload 7, 2) ∧ decode cL_areJobs 108 = .ok (.imul, 1) ∧ decode cL_areJobs 109 = .ok (.if_icmp .ne 7, 3) ∧ decode cL_areJobs 112 = .ok (.iconst 1, 1) ∧ decode cL_areJobs 113 = .ok (.goto 4, 3) ∧ decode cL_areJobs 116 = .ok (.iconst 0, 1) ∧ decode cL_areJobs 117 = .ok (.istore 10, 2) ∧ decode cL_areJobs 119 = .ok (.iload_n 1, 1) ∧ decode cL_areJobs 120 = .ok (.aload_n 0, 1) ∧ decode cL_areJobs 121 = .ok (.iload 4, 2) ∧ decode cL_areJobs 123 = .ok (.bipush 6, 2) ∧ decode cL_areJobs 125 = .ok (.invokevirtual 25, 3) ∧ decode cL_areJobs 128 = .ok (.iadd, 1) ∧ decode cL_areJobs 129 = .ok (.istore_n 1, 1) ∧ decode cL_areJobs 130 = .ok (.iload 4, 2) ∧ decode cL_areJobs 132 = .ok (.ifCond .lt 199, 3) ∧ decode cL_areJobs 135 = .ok (.iload 4, 2) ∧ decode cL_areJobs 137 = .ok (.aload_n 0, 1) ∧ decode cL_areJobs 138 = .ok (.iconst 2, 1) ∧ True := dq_of (l := (69, .istore 7, 2) :: (71, .iload 5, 2) :: (73, .iconst 2, 1) :: (74, .irem, 1) :: (75, .iconst 1, 1) :: (76, .if_icmp .ne 12, 3) :: (79, .iload 6, 2) :: (81, .iconst 1, 1) :: (82, .iadd, 1) :: (83, .iconst 2, 1) :: (84, .idiv, 1) :: (85, .goto 5, 3) :: (88, .iload 6, 2) :: (90, .istore 8, 2) :: (92, .aload_n 0, 1) :: (93, .iload 4, 2) :: (95, .bipush 9, 2) :: (97, .invokevirtual 25, 3) :: (100, .istore 9, 2) :: (102, .iload 9, 2) :: (104, .iload 8, 2) :: (106, .iload 7, 2) :: (108, .imul, 1) :: (109, .if_icmp .ne 7, 3) :: (112, .iconst 1, 1) :: (113, .goto 4, 3) :: (116, .iconst 0, 1) :: (117, .istore 10, 2) :: (119, .iload_n 1, 1) :: (120, .aload_n 0, 1) :: (121, .iload 4, 2) :: (123, .bipush 6, 2) :: (125, .invokevirtual 25, 3) :: (128, .iadd, 1) :: (129, .istore_n 1, 1) :: (130, .iload 4, 2) :: (132, .ifCond .lt 199, 3) :: (135, .iload 4, 2) :: (137, .aload_n 0, 1) :: (138, .iconst 2, 1) :: []) (by decide +kernel)
theorem e_L_areJobs_69 : decode cL_areJobs 69 = .ok (.istore 7, 2) := D_L_areJobs_1.1
theorem e_L_areJobs_71 : decode cL_areJobs 71 = .ok (.iload 5, 2) := D_L_areJobs_1.2.1
theorem e_L_areJobs_73 : decode cL_areJobs 73 = .ok (.iconst 2, 1) := D_L_areJobs_1.2.2.1
theorem e_L_areJobs_74 : decode cL_areJobs 74 = .ok (.irem, 1) := D_L_areJobs_1.2.2.2.1
theorem e_L_areJobs_75 : decode cL_areJobs 75 = .ok (.iconst 1, 1) := D_L_areJobs_1.2.2.2.2.1
theorem e_L_areJobs_76 : decode cL_areJobs 76 = .ok (.if_icmp .ne 12, 3) := D_L_areJobs_1.2.2.2.2.2.1
theorem e_L_areJobs_79 : decode cL_areJobs 79 = .ok (.iload 6, 2) := D_L_areJobs_1.2.2.2.2.2.2.1
theorem e_L_areJobs_81 : decode cL_areJobs 81 = .ok (.iconst 1, 1) := D_L_areJobs_1.2.2.2.2.2.2.2.1
theorem e_L_areJobs_82 : decode cL_areJobs 82 = .ok (.iadd, 1) := D_L_areJobs_1.2.2.2.2.2.2.2.2.1
theorem e_L_areJobs_83 : decode cL_areJobs 83 = .ok (.iconst 2, 1) := D_L_areJobs_1.2.2.2.2.2.2.2.2.2.1
theorem e_L_areJobs_84 : decode cL_areJobs 84 = .ok (.idiv, 1) := D_L_areJobs_1.2.2.2.2.2.2.2.2.2.2.1
theorem e_L_areJobs_85 : decode cL_areJobs 85 = .ok (.goto 5, 3) := D_L_areJobs_1.2.2.2.2.2.2.2.2.2.2.2.1
theorem e_L_areJobs_88 : decode cL_areJobs 88 = .ok (.iload 6, 2) := D_L_areJobs_1.2.2.2.2.2.2.2.2.2.2.2.2.1
theorem e_L_areJobs_90 : decode cL_areJobs 90 = .ok (.istore 8, 2) := D_L_areJobs_1.2.2.2.2.2.2.2.2.2.2.2.2.2.1
theorem e_L_areJobs_92 : decode cL_areJobs 92 = .ok (.aload_n 0, 1) := D_L_areJobs_1.2.2.2.2.2.2.2.2.2.2.2.2.2.2.1
theorem e_L_areJobs_93 : decode cL_areJobs 93 = .ok (.iload 4, 2) := D_L_areJobs_1.2.2.2.2.2.2.2.2.2.2.2.2.2.2.2.1
theorem e_L_areJobs_95 : decode cL_areJobs 95 = .ok (.bipush 9, 2) := D_L_areJobs_1.2.2.2.2.2.2.2.2.2.2.2.2.2.2.2.2.1
theorem e_L_areJobs_97 : decode cL_areJobs 97 = .ok (.invokevirtual 25, 3) := D_L_areJobs_1.2.2.2.2.2.2.2.2.2.2.2.2.2.2.2.2.2.1
theorem e_L_areJobs_100 : decode cL_areJobs 100 = .ok (.istore 9, 2) := D_L_areJobs_1.2.2.2.2.2.2.2.2.2.2.2.2.2.2.2.2.2.2.1
theorem e_L_areJobs_102 : decode cL_areJobs 102 = .ok (.iload 9, 2) := D_L_areJobs_1.2.2.2.2.2.2.2.2.2.2.2.2.2.2.2.2.2.2.2.1
theorem e_L_areJobs_104 : decode cL_areJobs 104 = .ok (.iload 8, 2) := D_L_areJobs_1.2.2.2.2.2.2.2.2.2.2.2.2.2.2.2.2.2.2.2.2.1
theorem e_L_areJobs_106 : decode cL_areJobs 106 = .ok (.iload 7, 2) := D_L_areJobs_1.2.2.2.2.2.2.2.2.2.2.2.2.2.2.2.2.2.2.2.2.2.1
theorem e_L_areJobs_108 : decode cL_areJobs 108 = .ok (.imul, 1) := D_L_areJobs_1.2.2.2.2.2.2.2.2.2.2.2.2.2.2.2.2.2.2.2.2.2.2.1
theorem e_L_areJobs_109 : decode cL_areJobs 109 = .ok (.if_icmp .ne 7, 3) := D_L_areJobs_1.2.2.2.2.2.2.2.2.2.2.2.2.2.2.2.2.2.2.2.2.2.2.2.1
theorem e_L_areJobs_112 : decode cL_areJobs 112 = .ok (.iconst 1, 1) := D_L_areJobs_1.2.2.2.2.2.2.2.2.2.2.2.2.2.2.2.2.2.2.2.2.2.2.2.2.1
theorem e_L_areJobs_113 : decode cL_areJobs 113 = .ok (.goto 4, 3) := D_L_areJobs_1.2.2.2.2.2.2.2.2.2.2.2.2.2.2.2.2.2.2.2.2.2.2.2.2.2.1
theorem e_L_areJobs_116 : decode cL_areJobs 116 = .ok (.iconst 0, 1) := D_L_areJobs_1.2.2.2.2.2.2.2.2.2.2.2.2.2.2.2.2.2.2.2.2.2.2.2.2.2.2.1
theorem e_L_areJobs_117 : decode cL_areJobs 117 = .ok (.istore 10, 2) := D_L_areJobs_1.2.2.2.2.2.2.2.2.2.2.2.2.2.2.2.2.2.2.2.2.2.2.2.2.2.2.2.1
theorem e_L_areJobs_119 : decode cL_areJobs 119 = .ok (.iload_n 1, 1) := D_L_areJobs_1.2.2.2.2.2.2.2.2.2.2.2.2.2.2.2.2.2.2.2.2.2.2.2.2.2.2.2.2.1
theorem e_L_areJobs_120 : decode cL_areJobs 120 = .ok (.aload_n 0, 1) := D_L_areJobs_1.2.2.2.2.2.2.2.2.2.2.2.2.2.2.2.2.2.2.2.2.2.2.2.2.2.2.2.2.2.1
theorem e_L_areJobs_121 : decode cL_areJobs 121 = .ok (.iload 4, 2) := D_L_areJobs_1.2.2.2.2.2.2.2.2.2.2.2.2.2.2.2.2.2.2.2.2.2.2.2.2.2.2.2.2.2.2.1
theorem e_L_areJobs_123 : decode cL_areJobs 123 = .ok (.bipush 6, 2) := D_L_areJobs_1.2.2.2.2.2.2.2.2.2.2.2.2.2.2.2.2.2.2.2.2.2.2.2.2.2.2.2.2.2.2.2.1
theorem e_L_areJobs_125 : decode cL_areJobs 125 = .ok (.invokevirtual 25, 3) := D_L_areJobs_1.2.2.2.2.2.2.2.2.2.2.2.2.2.2.2.2.2.2.2.2.2.2.2.2.2.2.2.2.2.2.2.2.1
theorem e_L_areJobs_128 : decode cL_areJobs 128 = .ok (.iadd, 1) := D_L_areJobs_1.2.2.2.2.2.2.2.2.2.2.2.2.2.2.2.2.2.2.2.2.2.2.2.2.2.2.2.2.2.2.2.2.2.1
theorem e_L_areJobs_129 : decode cL_areJobs 129 = .ok (.istore_n 1, 1) := D_L_areJobs_1.2.2.2.2.2.2.2.2.2.2.2.2.2.2.2.2.2.2.2.2.2.2.2.2.2.2.2.2.2.2.2.2.2.2.1
theorem e_L_areJobs_130 : decode cL_areJobs 130 = .ok (.iload 4, 2) := D_L_areJobs_1.2.2.2.2.2.2.2.2.2.2.2.2.2.2.2.2.2.2.2.2.2.2.2.2.2.2.2.2.2.2.2.2.2.2.2.1
theorem e_L_areJobs_132 : decode cL_areJobs 132 = .ok (.ifCond .lt 199, 3) := D_L_areJobs_1.2.2.2.2.2.2.2.2.2.2.2.2.2.2.2.2.2.2.2.2.2.2.2.2.2.2.2.2.2.2.2.2.2.2.2.2.1
theorem e_L_areJobs_135 : decode cL_areJobs 135 = .ok (.iload 4, 2) := D_L_areJobs_1.2.2.2.2.2.2.2.2.2.2.2.2.2.2.2.2.2.2.2.2.2.2.2.2.2.2.2.2.2.2.2.2.2.2.2.2.2.1
theorem e_L_areJobs_137 : decode cL_areJobs 137 = .ok (.aload_n 0, 1) := D_L_areJobs_1.2.2.2.2.2.2.2.2.2.2.2.2.2.2.2.2.2.2.2.2.2.2.2.2.2.2.2.2.2.2.2.2.2.2.2.2.2.2.1
theorem e_L_areJobs_138 : decode cL_areJobs 138 = .ok (.iconst 2, 1) := D_L_areJobs_1.2.2.2.2.2.2.2.2.2.2.2.2.2.2.2.2.2.2.2.2.2.2.2.2.2.2.2.2.2.2.2.2.2.2.2.2.2.2.2.1
set_option maxRecDepth 100000 in
theorem D_L_areJobs_2 : decode cL_areJobs 139 = .ok (.invokevirtual 13, 3) ∧ decode cL_areJobs 142 = .ok (.if_icmp .ge 189, 3) ∧ decode cL_areJobs 145 = .ok (.aload_n 0, 1) ∧ decode cL_areJobs 146 = .ok (.iload 4, 2) ∧ decode cL_areJobs 148 = .ok (.bipush 7, 2) ∧ decode cL_areJobs 150 = .ok (.invokevirtual 25, 3) ∧ decode cL_areJobs 153 = .ok (.iload 8, 2) ∧ decode cL_areJobs 155 = .ok (.if_icmp .ne 176, 3) ∧ decode cL_areJobs 158 = .ok (.aload_n 0, 1) ∧ decode cL_areJobs 159 = .ok (.iload 4, 2) ∧ decode cL_areJobs 161 = .ok (.bipush 8, 2) ∧ decode cL_areJobs 163 = .ok (.invokevirtual 25, 3) ∧ decode cL_areJobs 166 = .ok (.iload 8, 2) ∧ decode cL_areJobs 168 = .ok (.iload 7, 2) ∧ decode cL_areJobs 170 = .ok (.imul, 1) ∧ decode cL_areJobs 171 = .ok (.if_icmp .ne 160, 3) ∧ decode cL_areJobs 174 = .ok (.iload 9, 2) ∧ decode cL_areJobs 176 = .ok (.ifCond .lt 155, 3) ∧ decode cL_areJobs 179 = .ok (.iload 9, 2) ∧ decode cL_areJobs 181 = .ok (.iload 8, 2) ∧ decode cL_areJobs 183 = .ok (.iload 7, 2) ∧ decode cL_areJobs 185 = .ok (.imul, 1) ∧ decode cL_areJobs 186 = .ok (.if_icmp .gt 145, 3) ∧ decode cL_areJobs 189 = .ok (.aload_n 0, 1) ∧ decode cL_areJobs 190 = .ok (.iload 4, 2) ∧ decode cL_areJobs 192 = .ok (.bipush 11, 2) ∧ decode cL_areJobs 194 = .ok (.invokevirtual 25, 3) ∧ decode cL_areJobs 197 = .ok (.iload 10, 2) ∧ decode cL_areJobs 199 = .ok (.ifCond .eq 8, 3) ∧ decode cL_areJobs 202 = .ok (.bipush (-4), 2) ∧ decode cL_areJobs 204 = .ok (.goto 26, 3) ∧ decode cL_areJobs 207 = .ok (.iload 5, 2) ∧ decode cL_areJobs 209 = .ok (.iconst 2, 1) ∧ decode cL_areJobs 210 = .ok (.idiv, 1) ∧ decode cL_areJobs 211 = .ok (.iconst 2, 1) ∧ decode cL_areJobs 212 = .ok (.irem, 1) ∧ decode cL_areJobs 213 = .ok (.iconst 1, 1) ∧ decode cL_areJobs 214 = .ok (.if_icmp .ne 11, 3) ∧ decode cL_areJobs 217 = .ok (.iload 9, 2) ∧ decode cL_areJobs 219 = .ok (.iload 8, 2) ∧ True := dq_of (l := (139, .invokevirtual 13, 3) :: (142, .if_icmp .ge 189, 3) :: (145, .aload_n 0, 1) :: (146, .iload 4, 2) :: (148, .bipush 7, 2) :: (150, .invokevirtual 25, 3) :: (153, .iload 8, 2) :: (155, .if_icmp .ne 176, 3) :: (158, .aload_n 0, 1) :: (159, .iload 4, 2) :: (161, .bipush 8, 2) :: (163, .invokevirtual 25, 3) :: (166, .iload 8, 2) :: (168, .iload 7, 2) :: (170, .imul, 1) :: (171, .if_icmp .ne 160, 3) :: (174, .iload 9, 2) :: (176, .ifCond .lt 155, 3) :: (179, .iload 9, 2) :: (181, .iload 8, 2) :: (183, .iload 7, 2) :: (185, .imul, 1) :: (186, .if_icmp .gt 145, 3) :: (189, .aload_n 0, 1) :: (190, .iload 4, 2) :: (192, .bipush 11, 2) :: (194, .invokevirtual 25, 3) :: (197, .iload 10, 2) :: (199, .ifCond .eq 8, 3) :: (202, .bipush (-4), 2) :: (204, .goto 26, 3) :: (207, .iload 5, 2) :: (209, .iconst 2, 1) :: (210, .idiv, 1) :: (211, .iconst 2, 1) :: (212, .irem, 1) :: (213, .iconst 1, 1) :: (214, .if_icmp .ne 11, 3) :: (217, .iload 9, 2) :: (219, .iload 8, 2) :: []) (by decide +kernel)
theorem e_L_areJobs_139 : decode cL_areJobs 139 = .ok (.invokevirtual 13, 3) := D_L_areJobs_2.1
theorem e_L_areJobs_142 : decode cL_areJobs 142 = .ok (.if_icmp .ge 189, 3) := D_L_areJobs_2.2.1
theorem e_L_areJobs_145 : decode cL_areJobs 145 = .ok (.aload_n 0, 1) := D_L_areJobs_2.2.2.1
theorem e_L_areJobs_146 : decode cL_areJobs 146 = .ok (.iload 4, 2) := D_L_areJobs_2.2.2.2.1
theorem e_L_areJobs_148 : decode cL_areJobs 148 = .ok (.bipush 7, 2) := D_L_areJobs_2.2.2.2.2.1
theorem e_L_areJobs_150 : decode cL_areJobs 150 = .ok (.invokevirtual 25, 3) := D_L_areJobs_2.2.2.2.2.2.1
theorem e_L_areJobs_153 : decode cL_areJobs 153 = .ok (.iload 8, 2) := D_L_areJobs_2.2.2.2.2.2.2.1
theorem e_L_areJobs_155 : decode cL_areJobs 155 = .ok (.if_icmp .ne 176, 3) := D_L_areJobs_2.2.2.2.2.2.2.2.1
theorem e_L_areJobs_158 : decode cL_areJobs 158 = .ok (.aload_n 0, 1) := D_L_areJobs_2.2.2.2.2.2.2.2.2.1
theorem e_L_areJobs_159 : decode cL_areJobs 159 = .ok (.iload 4, 2) := D_L_areJobs_2.2.2.2.2.2.2.2.2.2.1
theorem e_L_areJobs_161 : decode cL_areJobs 161 = .ok (.bipush 8, 2) := D_L_areJobs_2.2.2.2.2.2.2.2.2.2.2.1
theorem e_L_areJobs_163 : decode cL_areJobs 163 = .ok (.invokevirtual 25, 3) := D_L_areJobs_2.2.2.2.2.2.2.2.2.2.2.2.1
theorem e_L_areJobs_166 : decode cL_areJobs 166 = .ok (.iload 8, 2) := D_L_areJobs_2.2.2.2.2.2.2.2.2.2.2.2.2.1
theorem e_L_areJobs_168 : decode cL_areJobs 168 = .ok (.iload 7, 2) := D_L_areJobs_2.2.2.2.2.2.2.2.2.2.2.2.2.2.1
theorem e_L_areJobs_170 : decode cL_areJobs 170 = .ok (.imul, 1) := D_L_areJobs_2.2.2.2.2.2.2.2.2.2.2.2.2.2.2.1
theorem e_L_areJobs_171 : decode cL_areJobs 171 = .ok (.if_icmp .ne 160, 3) := D_L_areJobs_2.2.2.2.2.2.2.2.2.2.2.2.2.2.2.2.1
theorem e_L_areJobs_174 : decode cL_areJobs 174 = .ok (.iload 9, 2) := D_L_areJobs_2.2.2.2.2.2.2.2.2.2.2.2.2.2.2.2.2.1
theorem e_L_areJobs_176 : decode cL_areJobs 176 = .ok (.ifCond .lt 155, 3) := D_L_areJobs_2.2.2.2.2.2.2.2.2.2.2.2.2.2.2.2.2.2.1
theorem e_L_areJobs_179 : decode cL_areJobs 179 = .ok (.iload 9, 2) := D_L_areJobs_2.2.2.2.2.2.2.2.2.2.2.2.2.2.2.2.2.2.2.1
theorem e_L_areJobs_181 : decode cL_areJobs 181 = .ok (.iload 8, 2) := D_L_areJobs_2.2.2.2.2.2.2.2.2.2.2.2.2.2.2.2.2.2.2.2.1
theorem e_L_areJobs_183 : decode cL_areJobs 183 = .ok (.iload 7, 2) := D_L_areJobs_2.2.2.2.2.2.2.2.2.2.2.2.2.2.2.2.2.2.2.2.2.1
theorem e_L_areJobs_185 : decode cL_areJobs 185 = .ok (.imul, 1) := D_L_areJobs_2.2.2.2.2.2.2.2.2.2.2.2.2.2.2.2.2.2.2.2.2.2.1
theorem e_L_areJobs_186 : decode cL_areJobs 186 = .ok (.if_icmp .gt 145, 3) := D_L_areJobs_2.2.2.2.2.2.2.2.2.2.2.2.2.2.2.2.2.2.2.2.2.2.2.1
theorem e_L_areJobs_189 : decode cL_areJobs 189 = .ok (.aload_n 0, 1) := D_L_areJobs_2.2.2.2.2.2.2.2.2.2.2.2.2.2.2.2.2.2.2.2.2.2.2.2.1
theorem e_L_areJobs_190 : decode cL_areJobs 190 = .ok (.iload 4, 2) := D_L_areJobs_2.2.2.2.2.2.2.2.2.2.2.2.2.2.2.2.2.2.2.2.2.2.2.2.2.1
theorem e_L_areJobs_192 : decode cL_areJobs 192 = .ok (.bipush 11, 2) := D_L_areJobs_2.2.2.2.2.2.2.2.2.2.2.2.2.2.2.2.2.2.2.2.2.2.2.2.2.2.1
theorem e_L_areJobs_194 : decode cL_areJobs 194 = .ok (.invokevirtual 25, 3) := D_L_areJobs_2.2.2.2.2.2.2.2.2.2.2.2.2.2.2.2.2.2.2.2.2.2.2.2.2.2.2.1
theorem e_L_areJobs_197 : decode cL_areJobs 197 = .ok (.iload 10, 2) := D_L_areJobs_2.2.2.2.2.2.2.2.2.2.2.2.2.2.2.2.2.2.2.2.2.2.2.2.2.2.2.2.1
theorem e_L_areJobs_199 : decode cL_areJobs 199 = .ok (.ifCond .eq 8, 3) := D_L_areJobs_2.2.2.2.2.2.2.2.2.2.2.2.2.2.2.2.2.2.2.2.2.2.2.2.2.2.2.2.2.1
theorem e_L_areJobs_202 : decode cL_areJobs 202 = .ok (.bipush (-4), 2) := D_L_areJobs_2.2.2.2.2.2.2.2.2.2.2.2.2.2.2.2.2.2.2.2.2.2.2.2.2.2.2.2.2.2.1
theorem e_L_areJobs_204 : decode cL_areJobs 204 = .ok (.goto 26, 3) := D_L_areJobs_2.2.2.2.2.2.2.2.2.2.2.2.2.2.2.2.2.2.2.2.2.2.2.2.2.2.2.2.2.2.2.1
theorem e_L_areJobs_207 : decode cL_areJobs 207 = .ok (.iload 5, 2) := D_L_areJobs_2.2.2.2.2.2.2.2.2.2.2.2.2.2.2.2.2.2.2.2.2.2.2.2.2.2.2.2.2.2.2.2.1
theorem e_L_areJobs_209 : decode cL_areJobs 209 = .ok (.iconst 2, 1) := D_L_areJobs_2.2.2.2.2.2.2.2.2.2.2.2.2.2.2.2.2.2.2.2.2.2.2.2.2.2.2.2.2.2.2.2.2.1
theorem e_L_areJobs_210 : decode cL_areJobs 210 = .ok (.idiv, 1) := D_L_areJobs_2.2.2.2.2.2.2.2.2.2.2.2.2.2.2.2.2.2.2.2.2.2.2.2.2.2.2.2.2.2.2.2.2.2.1
theorem e_L_areJobs_211 : decode cL_areJobs 211 = .ok (.iconst 2, 1) := D_L_areJobs_2.2.2.2.2.2.2.2.2.2.2.2.2.2.2.2.2.2.2.2.2.2.2.2.2.2.2.2.2.2.2.2.2.2.2.1
theorem e_L_areJobs_212 : decode cL_areJobs 212 = .ok (.irem, 1) := D_L_areJobs_2.2.2.2.2.2.2.2.2.2.2.2.2.2.2.2.2.2.2.2.2.2.2.2.2.2.2.2.2.2.2.2.2.2.2.2.1
theorem e_L_areJobs_213 : decode cL_areJobs 213 = .ok (.iconst 1, 1) := D_L_areJobs_2.2.2.2.2.2.2.2.2.2.2.2.2.2.2.2.2.2.2.2.2.2.2.2.2.2.2.2.2.2.2.2.2.2.2.2.2.1
theorem e_L_areJobs_214 : decode cL_areJobs 214 = .ok (.if_icmp .ne 11, 3) := D_L_areJobs_2.2.2.2.2.2.2.2.2.2.2.2.2.2.2.2.2.2.2.2.2.2.2.2.2.2.2.2.2.2.2.2.2.2.2.2.2.2.1
theorem e_L_areJobs_217 : decode cL_areJobs 217 = .ok (.iload 9, 2) := D_L_areJobs_2.2.2.2.2.2.2.2.2.2.2.2.2.2.2.2.2.2.2.2.2.2.2.2.2.2.2.2.2.2.2.2.2.2.2.2.2.2.2.1
theorem e_L_areJobs_219 : decode cL_areJobs 219 = .ok (.iload 8, 2) := D_L_areJobs_2.2.2.2.2.2.2.2.2.2.2.2.2.2.2.2.2.2.2.2.2.2.2.2.2.2.2.2.2.2.2.2.2.2.2.2.2.2.2.2.1
set_option maxRecDepth 100000 in
theorem D_L_areJobs_3 : decode cL_areJobs 221 = .ok (.irem, 1) ∧ decode cL_areJobs 222 = .ok (.goto 8, 3) ∧ decode cL_areJobs 225 = .ok (.iload 9, 2) ∧ decode cL_areJobs 227 = .ok (.iload 7, 2) ∧ decode cL_areJobs 229 = .ok (.idiv, 1) ∧ decode cL_areJobs 230 = .ok (.if_icmp .ne 101, 3) ∧ decode cL_areJobs 233 = .ok (.aload_n 0, 1) ∧ decode cL_areJobs 234 = .ok (.iload 4, 2) ∧ decode cL_areJobs 236 = .ok (.bipush 12, 2) ∧ decode cL_areJobs 238 = .ok (.invokevirtual 25, 3) ∧ decode cL_areJobs 241 = .ok (.iload 10, 2) ∧ decode cL_areJobs 243 = .ok (.ifCond .eq 8, 3) ∧ decode cL_areJobs 246 = .ok (.bipush (-4), 2) ∧ decode cL_areJobs 248 = .ok (.goto 26, 3) ∧ decode cL_areJobs 251 = .ok (.iload 5, 2) ∧ decode cL_areJobs 253 = .ok (.iconst 2, 1) ∧ decode cL_areJobs 254 = .ok (.idiv, 1) ∧ decode cL_areJobs 255 = .ok (.iconst 2, 1) ∧ decode cL_areJobs 256 = .ok (.irem, 1) ∧ decode cL_areJobs 257 = .ok (.iconst 1, 1) ∧ decode cL_areJobs 258 = .ok (.if_icmp .ne 11, 3) ∧ decode cL_areJobs 261 = .ok (.iload 9, 2) ∧ decode cL_areJobs 263 = .ok (.iload 8, 2) ∧ decode cL_areJobs 265 = .ok (.idiv, 1) ∧ decode cL_areJobs 266 = .ok (.goto 8, 3) ∧ decode cL_areJobs 269 = .ok (.iload 9, 2) ∧ decode cL_areJobs 271 = .ok (.iload 7, 2) ∧ decode cL_areJobs 273 = .ok (.irem, 1) ∧ decode cL_areJobs 274 = .ok (.if_icmp .ne 57, 3) ∧ decode cL_areJobs 277 = .ok (.aload_n 0, 1) ∧ decode cL_areJobs 278 = .ok (.iload 4, 2) ∧ decode cL_areJobs 280 = .ok (.bipush 10, 2) ∧ decode cL_areJobs 282 = .ok (.invokevirtual 25, 3) ∧ decode cL_areJobs 285 = .ok (.iload 5, 2) ∧ decode cL_areJobs 287 = .ok (.iconst 4, 1) ∧ decode cL_areJobs 288 = .ok (.if_icmp .ge 7, 3) ∧ decode cL_areJobs 291 = .ok (.iconst 0, 1) ∧ decode cL_areJobs 292 = .ok (.goto 8, 3) ∧ decode cL_areJobs 295 = .ok (.iload 9, 2) ∧ decode cL_areJobs 297 = .ok (.iload 8, 2) ∧ True := dq_of (l := (221, .irem, 1) :: (222, .goto 8, 3) :: (225, .iload 9, 2) :: (227, .iload 7, 2) :: (229, .idiv, 1) :: (230, .if_icmp .ne 101, 3) :: (233, .aload_n 0, 1) :: (234, .iload 4, 2) :: (236, .bipush 12, 2) :: (238, .invokevirtual 25, 3) :: (241, .iload 10, 2) :: (243, .ifCond .eq 8, 3) :: (246, .bipush (-4), 2) :: (248, .goto 26, 3) :: (251, .iload 5, 2) :: (253, .iconst 2, 1) :: (254, .idiv, 1) :: (255, .iconst 2, 1) :: (256, .irem, 1) :: (257, .iconst 1, 1) :: (258, .if_icmp .ne 11, 3) :: (261, .iload 9, 2) :: (263, .iload 8, 2) :: (265, .idiv, 1) :: (266, .goto 8, 3) :: (269, .iload 9, 2) :: (271, .iload 7, 2) :: (273, .irem, 1) :: (274, .if_icmp .ne 57, 3) :: (277, .aload_n 0, 1) :: (278, .iload 4, 2) :: (280, .bipush 10, 2) :: (282, .invokevirtual 25, 3) :: (285, .iload 5, 2) :: (287, .iconst 4, 1) :: (288, .if_icmp .ge 7, 3) :: (291, .iconst 0, 1) :: (292, .goto 8, 3) :: (295, .iload 9, 2) :: (297, .iload 8, 2) :: []) (by decide +kernel)
theorem e_L_areJobs_221 : decode cL_areJobs 221 = .ok (.irem, 1) := D_L_areJobs_3.1
theorem e_L_areJobs_222 : decode cL_areJobs 222 = .ok (.goto 8, 3) := D_L_areJobs_3.2.1
theorem e_L_areJobs_225 : decode cL_areJobs 225 = .ok (.iload 9, 2) := D_L_areJobs_3.2.2.1
theorem e_L_areJobs_227 : decode cL_areJobs 227 = .ok (.iload 7, 2) := D_L_areJobs_3.2.2.2.1
theorem e_L_areJobs_229 : decode cL_areJobs 229 = .ok (.idiv, 1) := D_L_areJobs_3.2.2.2.2.1
theorem e_L_areJobs_230 : decode cL_areJobs 230 = .ok (.if_icmp .ne 101, 3) := D_L_areJobs_3.2.2.2.2.2.1
theorem e_L_areJobs_233 : decode cL_areJobs 233 = .ok (.aload_n 0, 1) := D_L_areJobs_3.2.2.2.2.2.2.1
theorem e_L_areJobs_234 : decode cL_areJobs 234 = .ok (.iload 4, 2) := D_L_areJobs_3.2.2.2.2.2.2.2.1
theorem e_L_areJobs_236 : decode cL_areJobs 236 = .ok (.bipush 12, 2) := D_L_areJobs_3.2.2.2.2.2.2.2.2.1
theorem e_L_areJobs_238 : decode cL_areJobs 238 = .ok (.invokevirtual 25, 3) := D_L_areJobs_3.2.2.2.2.2.2.2.2.2.1
theorem e_L_areJobs_241 : decode cL_areJobs 241 = .ok (.iload 10, 2) := D_L_areJobs_3.2.2.2.2.2.2.2.2.2.2.1
theorem e_L_areJobs_243 : decode cL_areJobs 243 = .ok (.ifCond .eq 8, 3) := D_L_areJobs_3.2.2.2.2.2.2.2.2.2.2.2.1
theorem e_L_areJobs_246 : decode cL_areJobs 246 = .ok (.bipush (-4), 2) := D_L_areJobs_3.2.2.2.2.2.2.2.2.2.2.2.2.1
theorem e_L_areJobs_248 : decode cL_areJobs 248 = .ok (.goto 26, 3) := D_L_areJobs_3.2.2.2.2.2.2.2.2.2.2.2.2.2.1
theorem e_L_areJobs_251 : decode cL_areJobs 251 = .ok (.iload 5, 2) := D_L_areJobs_3.2.2.2.2.2.2.2.2.2.2.2.2.2.2.1
theorem e_L_areJobs_253 : decode cL_areJobs 253 = .ok (.iconst 2, 1) := D_L_areJobs_3.2.2.2.2.2.2.2.2.2.2.2.2.2.2.2.1
theorem e_L_areJobs_254 : decode cL_areJobs 254 = .ok (.idiv, 1) := D_L_areJobs_3.2.2.2.2.2.2.2.2.2.2.2.2.2.2.2.2.1
theorem e_L_areJobs_255 : decode cL_areJobs 255 = .ok (.iconst 2, 1) := D_L_areJobs_3.2.2.2.2.2.2.2.2.2.2.2.2.2.2.2.2.2.1
theorem e_L_areJobs_256 : decode cL_areJobs 256 = .ok (.irem, 1) := D_L_areJobs_3.2.2.2.2.2.2.2.2.2.2.2.2.2.2.2.2.2.2.1
theorem e_L_areJobs_257 : decode cL_areJobs 257 = .ok (.iconst 1, 1) := D_L_areJobs_3.2.2.2.2.2.2.2.2.2.2.2.2.2.2.2.2.2.2.2.1
theorem e_L_areJobs_258 : decode cL_areJobs 258 = .ok (.if_icmp .ne 11, 3) := D_L_areJobs_3.2.2.2.2.2.2.2.2.2.2.2.2.2.2.2.2.2.2.2.2.1
theorem e_L_areJobs_261 : decode cL_areJobs 261 = .ok (.iload 9, 2) := D_L_areJobs_3.2.2.2.2.2.2.2.2.2.2.2.2.2.2.2.2.2.2.2.2.2.1
theorem e_L_areJobs_263 : decode cL_areJobs 263 = .ok (.iload 8, 2) := D_L_areJobs_3.2.2.2.2.2.2.2.2.2.2.2.2.2.2.2.2.2.2.2.2.2.2.1
theorem e_L_areJobs_265 : decode cL_areJobs 265 = .ok (.idiv, 1) := D_L_areJobs_3.2.2.2.2.2.2.2.2.2.2.2.2.2.2.2.2.2.2.2.2.2.2.2.1
theorem e_L_areJobs_266 : decode cL_areJobs 266 = .ok (.goto 8, 3) := D_L_areJobs_3.2.2.2.2.2.2.2.2.2.2.2.2.2.2.2.2.2.2.2.2.2.2.2.2.1
theorem e_L_areJobs_269 : decode cL_areJobs 269 = .ok (.iload 9, 2) := D_L_areJobs_3.2.2.2.2.2.2.2.2.2.2.2.2.2.2.2.2.2.2.2.2.2.2.2.2.2.1
theorem e_L_areJobs_271 : decode cL_areJobs 271 = .ok (.iload 7, 2) := D_L_areJobs_3.2.2.2.2.2.2.2.2.2.2.2.2.2.2.2.2.2.2.2.2.2.2.2.2.2.2.1
theorem e_L_areJobs_273 : decode cL_areJobs 273 = .ok (.irem, 1) := D_L_areJobs_3.2.2.2.2.2.2.2.2.2.2.2.2.2.2.2.2.2.2.2.2.2.2.2.2.2.2.2.1
theorem e_L_areJobs_274 : decode cL_areJobs 274 = .ok (.if_icmp .ne 57, 3) := D_L_areJobs_3.2.2.2.2.2.2.2.2.2.2.2.2.2.2.2.2.2.2.2.2.2.2.2.2.2.2.2.2.1
theorem e_L_areJobs_277 : decode cL_areJobs 277 = .ok (.aload_n 0, 1) := D_L_areJobs_3.2.2.2.2.2.2.2.2.2.2.2.2.2.2.2.2.2.2.2.2.2.2.2.2.2.2.2.2.2.1
theorem e_L_areJobs_278 : decode cL_areJobs 278 = .ok (.iload 4, 2) := D_L_areJobs_3.2.2.2.2.2.2.2.2.2.2.2.2.2.2.2.2.2.2.2.2.2.2.2.2.2.2.2.2.2.2.1
theorem e_L_areJobs_280 : decode cL_areJobs 280 = .ok (.bipush 10, 2) := D_L_areJobs_3.2.2.2.2.2.2.2.2.2.2.2.2.2.2.2.2.2.2.2.2.2.2.2.2.2.2.2.2.2.2.2.1
theorem e_L_areJobs_282 : decode cL_areJobs 282 = .ok (.invokevirtual 25, 3) := D_L_areJobs_3.2.2.2.2.2.2.2.2.2.2.2.2.2.2.2.2.2.2.2.2.2.2.2.2.2.2.2.2.2.2.2.2.1
theorem e_L_areJobs_285 : decode cL_areJobs 285 = .ok (.iload 5, 2) := D_L_areJobs_3.2.2.2.2.2.2.2.2.2.2.2.2.2.2.2.2.2.2.2.2.2.2.2.2.2.2.2.2.2.2.2.2.2.1
theorem e_L_areJobs_287 : decode cL_areJobs 287 = .ok (.iconst 4, 1) := D_L_areJobs_3.2.2.2.2.2.2.2.2.2.2.2.2.2.2.2.2.2.2.2.2.2.2.2.2.2.2.2.2.2.2.2.2.2.2.1
theorem e_L_areJobs_288 : decode cL_areJobs 288 = .ok (.if_icmp .ge 7, 3) := D_L_areJobs_3.2.2.2.2.2.2.2.2.2.2.2.2.2.2.2.2.2.2.2.2.2.2.2.2.2.2.2.2.2.2.2.2.2.2.2.1
theorem e_L_areJobs_291 : decode cL_areJobs 291 = .ok (.iconst 0, 1) := D_L_areJobs_3.2.2.2.2.2.2.2.2.2.2.2.2.2.2.2.2.2.2.2.2.2.2.2.2.2.2.2.2.2.2.2.2.2.2.2.2.1
theorem e_L_areJobs_292 : decode cL_areJobs 292 = .ok (.goto 8, 3) := D_L_areJobs_3.2.2.2.2.2.2.2.2.2.2.2.2.2.2.2.2.2.2.2.2.2.2.2.2.2.2.2.2.2.2.2.2.2.2.2.2.2.1
theorem e_L_areJobs_295 : decode cL_areJobs 295 = .ok (.iload 9, 2) := D_L_areJobs_3.2.2.2.2.2.2.2.2.2.2.2.2.2.2.2.2.2.2.2.2.2.2.2.2.2.2.2.2.2.2.2.2.2.2.2.2.2.2.1
theorem e_L_areJobs_297 : decode cL_areJobs 297 = .ok (.iload 8, 2) := D_L_areJobs_3.2.2.2.2.2.2.2.2.2.2.2.2.2.2.2.2.2.2.2.2.2.2.2.2.2.2.2.2.2.2.2.2.2.2.2.2.2.2.2.1
set_option maxRecDepth 100000 in
theorem D_L_areJobs_4 : decode cL_areJobs 299 = .ok (.idiv, 1) ∧ decode cL_areJobs 300 = .ok (.if_icmp .gt 31, 3) ∧ decode cL_areJobs 303 = .ok (.iload 10, 2) ∧ decode cL_areJobs 305 = .ok (.ifCond .eq 22, 3) ∧ decode cL_areJobs 308 = .ok (.iload 5, 2) ∧ decode cL_areJobs 310 = .ok (.iconst 3, 1) ∧ decode cL_areJobs 311 = .ok (.if_icmp .le 20, 3) ∧ decode cL_areJobs 314 = .ok (.aload_n 0, 1) ∧ decode cL_areJobs 315 = .ok (.iload 4, 2) ∧ decode cL_areJobs 317 = .ok (.bipush 10, 2) ∧ decode cL_areJobs 319 = .ok (.invokevirtual 25, 3) ∧ decode cL_areJobs 322 = .ok (.iload 7, 2) ∧ decode cL_areJobs 324 = .ok (.if_icmp .ge 7, 3) ∧ decode cL_areJobs 327 = .ok (.iconst 1, 1) ∧ decode cL_areJobs 328 = .ok (.goto 4, 3) ∧ decode cL_areJobs 331 = .ok (.iconst 0, 1) ∧ decode cL_areJobs 332 = .ok (.istore_n 2, 1) ∧ decode cL_areJobs 333 = .ok (.iload_n 2, 1) ∧ decode cL_areJobs 334 = .ok (.ifCond .eq 102, 3) ∧ decode cL_areJobs 337 = .ok (.iload_n 3, 1) ∧ decode cL_areJobs 338 = .ok (.ifCond .le 98, 3) ∧ decode cL_areJobs 341 = .ok (.aload_n 0, 1) ∧ decode cL_areJobs 342 = .ok (.iload_n 3, 1) ∧ decode cL_areJobs 343 = .ok (.iconst 1, 1) ∧ decode cL_areJobs 344 = .ok (.isub, 1) ∧ decode cL_areJobs 345 = .ok (.invokevirtual 22, 3) ∧ decode cL_areJobs 348 = .ok (.istore 11, 2) ∧ decode cL_areJobs 350 = .ok (.aload_n 0, 1) ∧ decode cL_areJobs 351 = .ok (.iload 4, 2) ∧ decode cL_areJobs 353 = .ok (.bipush 6, 2) ∧ decode cL_areJobs 355 = .ok (.invokevirtual 25, 3) ∧ decode cL_areJobs 358 = .ok (.aload_n 0, 1) ∧ decode cL_areJobs 359 = .ok (.iload 11, 2) ∧ decode cL_areJobs 361 = .ok (.bipush 6, 2) ∧ decode cL_areJobs 363 = .ok (.invokevirtual 25, 3) ∧ decode cL_areJobs 366 = .ok (.isub, 1) ∧ decode cL_areJobs 367 = .ok (.istore 12, 2) ∧ decode cL_areJobs 369 = .ok (.aload_n 0, 1) ∧ decode cL_areJobs 370 = .ok (.iload 11, 2) ∧ decode cL_areJobs 372 = .ok (.iconst 5, 1) ∧ True := dq_of (l := (299, .idiv, 1) :: (300, .if_icmp .gt 31, 3) :: (303, .iload 10, 2) :: (305, .ifCond .eq 22, 3) :: (308, .iload 5, 2) :: (310, .iconst 3, 1) :: (311, .if_icmp .le 20, 3) :: (314, .aload_n 0, 1) :: (315, .iload 4, 2) :: (317, .bipush 10, 2) :: (319, .invokevirtual 25, 3) :: (322, .iload 7, 2) :: (324, .if_icmp .ge 7, 3) :: (327, .iconst 1, 1) :: (328, .goto 4, 3) :: (331, .iconst 0, 1) :: (332, .istore_n 2, 1) :: (333, .iload_n 2, 1) :: (334, .ifCond .eq 102, 3) :: (337, .iload_n 3, 1) :: (338, .ifCond .le 98, 3) :: (341, .aload_n 0, 1) :: (342, .iload_n 3, 1) :: (343, .iconst 1, 1) :: (344, .isub, 1) :: (345, .invokevirtual 22, 3) :: (348, .istore 11, 2) :: (350, .aload_n 0, 1) :: (351, .iload 4, 2) :: (353, .bipush 6, 2) :: (355, .invokevirtual 25, 3) :: (358, .aload_n 0, 1) :: (359, .iload 11, 2) :: (361, .bipush 6, 2) :: (363, .invokevirtual 25, 3) :: (366, .isub, 1) :: (367, .istore 12, 2) :: (369, .aload_n 0, 1) :: (370, .iload 11, 2) :: (372, .iconst 5, 1) :: []) (by decide +kernel)
theorem e_L_areJobs_299 : decode cL_areJobs 299 = .ok (.idiv, 1) := D_L_areJobs_4.1
theorem e_L_areJobs_300 : decode cL_areJobs 300 = .ok (.if_icmp .gt 31, 3) := D_L_areJobs_4.2.1
theorem e_L_areJobs_303 : decode cL_areJobs 303 = .ok (.iload 10, 2) := D_L_areJobs_4.2.2.1
theorem e_L_areJobs_305 : decode cL_areJobs 305 = .ok (.ifCond .eq 22, 3) := D_L_areJobs_4.2.2.2.1
theorem e_L_areJobs_308 : decode cL_areJobs 308 = .ok (.iload 5, 2) := D_L_areJobs_4.2.2.2.2.1
theorem e_L_areJobs_310 : decode cL_areJobs 310 = .ok (.iconst 3, 1) := D_L_areJobs_4.2.2.2.2.2.1
theorem e_L_areJobs_311 : decode cL_areJobs 311 = .ok (.if_icmp .le 20, 3) := D_L_areJobs_4.2.2.2.2.2.2.1
theorem e_L_areJobs_314 : decode cL_areJobs 314 = .ok (.aload_n 0, 1) := D_L_areJobs_4.2.2.2.2.2.2.2.1
theorem e_L_areJobs_315 : decode cL_areJobs 315 = .ok (.iload 4, 2) := D_L_areJobs_4.2.2.2.2.2.2.2.2.1
theorem e_L_areJobs_317 : decode cL_areJobs 317 = .ok (.bipush 10, 2) := D_L_areJobs_4.2.2.2.2.2.2.2.2.2.1
theorem e_L_areJobs_319 : decode cL_areJobs 319 = .ok (.invokevirtual 25, 3) := D_L_areJobs_4.2.2.2.2.2.2.2.2.2.2.1
theorem e_L_areJobs_322 : decode cL_areJobs 322 = .ok (.iload 7, 2) := D_L_areJobs_4.2.2.2.2.2.2.2.2.2.2.2.1
theorem e_L_areJobs_324 : decode cL_areJobs 324 = .ok (.if_icmp .ge 7, 3) := D_L_areJobs_4.2.2.2.2.2.2.2.2.2.2.2.2.1
theorem e_L_areJobs_327 : decode cL_areJobs 327 = .ok (.iconst 1, 1) := D_L_areJobs_4.2.2.2.2.2.2.2.2.2.2.2.2.2.1
theorem e_L_areJobs_328 : decode cL_areJobs 328 = .ok (.goto 4, 3) := D_L_areJobs_4.2.2.2.2.2.2.2.2.2.2.2.2.2.2.1
theorem e_L_areJobs_331 : decode cL_areJobs 331 = .ok (.iconst 0, 1) := D_L_areJobs_4.2.2.2.2.2.2.2.2.2.2.2.2.2.2.2.1
theorem e_L_areJobs_332 : decode cL_areJobs 332 = .ok (.istore_n 2, 1) := D_L_areJobs_4.2.2.2.2.2.2.2.2.2.2.2.2.2.2.2.2.1
theorem e_L_areJobs_333 : decode cL_areJobs 333 = .ok (.iload_n 2, 1) := D_L_areJobs_4.2.2.2.2.2.2.2.2.2.2.2.2.2.2.2.2.2.1
theorem e_L_areJobs_334 : decode cL_areJobs 334 = .ok (.ifCond .eq 102, 3) := D_L_areJobs_4.2.2.2.2.2.2.2.2.2.2.2.2.2.2.2.2.2.2.1
theorem e_L_areJobs_337 : decode cL_areJobs 337 = .ok (.iload_n 3, 1) := D_L_areJobs_4.2.2.2.2.2.2.2.2.2.2.2.2.2.2.2.2.2.2.2.1
theorem e_L_areJobs_338 : decode cL_areJobs 338 = .ok (.ifCond .le 98, 3) := D_L_areJobs_4.2.2.2.2.2.2.2.2.2.2.2.2.2.2.2.2.2.2.2.2.1
theorem e_L_areJobs_341 : decode cL_areJobs 341 = .ok (.aload_n 0, 1) := D_L_areJobs_4.2.2.2.2.2.2.2.2.2.2.2.2.2.2.2.2.2.2.2.2.2.1
theorem e_L_areJobs_342 : decode cL_areJobs 342 = .ok (.iload_n 3, 1) := D_L_areJobs_4.2.2.2.2.2.2.2.2.2.2.2.2.2.2.2.2.2.2.2.2.2.2.1
theorem e_L_areJobs_343 : decode cL_areJobs 343 = .ok (.iconst 1, 1) := D_L_areJobs_4.2.2.2.2.2.2.2.2.2.2.2.2.2.2.2.2.2.2.2.2.2.2.2.1
theorem e_L_areJobs_344 : decode cL_areJobs 344 = .ok (.isub, 1) := D_L_areJobs_4.2.2.2.2.2.2.2.2.2.2.2.2.2.2.2.2.2.2.2.2.2.2.2.2.1
theorem e_L_areJobs_345 : decode cL_areJobs 345 = .ok (.invokevirtual 22, 3) := D_L_areJobs_4.2.2.2.2.2.2.2.2.2.2.2.2.2.2.2.2.2.2.2.2.2.2.2.2.2.1
theorem e_L_areJobs_348 : decode cL_areJobs 348 = .ok (.istore 11, 2) := D_L_areJobs_4.2.2.2.2.2.2.2.2.2.2.2.2.2.2.2.2.2.2.2.2.2.2.2.2.2.2.1
theorem e_L_areJobs_350 : decode cL_areJobs 350 = .ok (.aload_n 0, 1) := D_L_areJobs_4.2.2.2.2.2.2.2.2.2.2.2.2.2.2.2.2.2.2.2.2.2.2.2.2.2.2.2.1
theorem e_L_areJobs_351 : decode cL_areJobs 351 = .ok (.iload 4, 2) := D_L_areJobs_4.2.2.2.2.2.2.2.2.2.2.2.2.2.2.2.2.2.2.2.2.2.2.2.2.2.2.2.2.1
theorem e_L_areJobs_353 : decode cL_areJobs 353 = .ok (.bipush 6, 2) := D_L_areJobs_4.2.2.2.2.2.2.2.2.2.2.2.2.2.2.2.2.2.2.2.2.2.2.2.2.2.2.2.2.2.1
theorem e_L_areJobs_355 : decode cL_areJobs 355 = .ok (.invokevirtual 25, 3) := D_L_areJobs_4.2.2.2.2.2.2.2.2.2.2.2.2.2.2.2.2.2.2.2.2.2.2.2.2.2.2.2.2.2.2.1
theorem e_L_areJobs_358 : decode cL_areJobs 358 = .ok (.aload_n 0, 1) := D_L_areJobs_4.2.2.2.2.2.2.2.2.2.2.2.2.2.2.2.2.2.2.2.2.2.2.2.2.2.2.2.2.2.2.2.1
theorem e_L_areJobs_359 : decode cL_areJobs 359 = .ok (.iload 11, 2) := D_L_areJobs_4.2.2.2.2.2.2.2.2.2.2.2.2.2.2.2.2.2.2.2.2.2.2.2.2.2.2.2.2.2.2.2.2.1
theorem e_L_areJobs_361 : decode cL_areJobs 361 = .ok (.bipush 6, 2) := D_L_areJobs_4.2.2.2.2.2.2.2.2.2.2.2.2.2.2.2.2.2.2.2.2.2.2.2.2.2.2.2.2.2.2.2.2.2.1
theorem e_L_areJobs_363 : decode cL_areJobs 363 = .ok (.invokevirtual 25, 3) := D_L_areJobs_4.2.2.2.2.2.2.2.2.2.2.2.2.2.2.2.2.2.2.2.2.2.2.2.2.2.2.2.2.2.2.2.2.2.2.1
theorem e_L_areJobs_366 : decode cL_areJobs 366 = .ok (.isub, 1) := D_L_areJobs_4.2.2.2.2.2.2.2.2.2.2.2.2.2.2.2.2.2.2.2.2.2.2.2.2.2.2.2.2.2.2.2.2.2.2.2.1
theorem e_L_areJobs_367 : decode cL_areJobs 367 = .ok (.istore 12, 2) := D_L_areJobs_4.2.2.2.2.2.2.2.2.2.2.2.2.2.2.2.2.2.2.2.2.2.2.2.2.2.2.2.2.2.2.2.2.2.2.2.2.1
theorem e_L_areJobs_369 : decode cL_areJobs 369 = .ok (.aload_n 0, 1) := D_L_areJobs_4.2.2.2.2.2.2.2.2.2.2.2.2.2.2.2.2.2.2.2.2.2.2.2.2.2.2.2.2.2.2.2.2.2.2.2.2.2.1
theorem e_L_areJobs_370 : decode cL_areJobs 370 = .ok (.iload 11, 2) := D_L_areJobs_4.2.2.2.2.2.2.2.2.2.2.2.2.2.2.2.2.2.2.2.2.2.2.2.2.2.2.2.2.2.2.2.2.2.2.2.2.2.2.1
theorem e_L_areJobs_372 : decode cL_areJobs 372 = .ok (.iconst 5, 1) := D_L_areJobs_4.2.2.2.2.2.2.2.2.2.2.2.2.2.2.2.2.2.2.2.2.2.2.2.2.2.2.2.2.2.2.2.2.2.2.2.2.2.2.2.1
set_option maxRecDepth 100000 in
theorem D_L_areJobs_5 : decode cL_areJobs 373 = .ok (.invokevirtual 25, 3) ∧ decode cL_areJobs 376 = .ok (.aload_n 0, 1) ∧ decode cL_areJobs 377 = .ok (.iload 4, 2) ∧ decode cL_areJobs 379 = .ok (.iconst 5, 1) ∧ decode cL_areJobs 380 = .ok (.invokevirtual 25, 3) ∧ decode cL_areJobs 383 = .ok (.isub, 1) ∧ decode cL_areJobs 384 = .ok (.istore 13, 2) ∧ decode cL_areJobs 386 = .ok (.iload 12, 2) ∧ decode cL_areJobs 388 = .ok (.iconst 1, 1) ∧ decode cL_areJobs 389 = .ok (.if_icmp .eq 41, 3) ∧ decode cL_areJobs 392 = .ok (.iload 12, 2) ∧ decode cL_areJobs 394 = .ok (.ifCond .ne 40, 3) ∧ decode cL_areJobs 397 = .ok (.iload 13, 2) ∧ decode cL_areJobs 399 = .ok (.ifCond .gt 31, 3) ∧ decode cL_areJobs 402 = .ok (.iload 13, 2) ∧ decode cL_areJobs 404 = .ok (.ifCond .ne 10, 3) ∧ decode cL_areJobs 407 = .ok (.iload 11, 2) ∧ decode cL_areJobs 409 = .ok (.iload 4, 2) ∧ decode cL_areJobs 411 = .ok (.if_icmp .lt 19, 3) ∧ decode cL_areJobs 414 = .ok (.iload_n 3, 1) ∧ decode cL_areJobs 415 = .ok (.iconst 1, 1) ∧ decode cL_areJobs 416 = .ok (.if_icmp .ne 18, 3) ∧ decode cL_areJobs 419 = .ok (.aload_n 0, 1) ∧ decode cL_areJobs 420 = .ok (.iload 11, 2) ∧ decode cL_areJobs 422 = .ok (.bipush 6, 2) ∧ decode cL_areJobs 424 = .ok (.invokevirtual 25, 3) ∧ decode cL_areJobs 427 = .ok (.ifCond .ne 7, 3) ∧ decode cL_areJobs 430 = .ok (.iconst 1, 1) ∧ decode cL_areJobs 431 = .ok (.goto 4, 3) ∧ decode cL_areJobs 434 = .ok (.iconst 0, 1) ∧ decode cL_areJobs 435 = .ok (.istore_n 2, 1) ∧ decode cL_areJobs 436 = .ok (.iinc 3 1, 3) ∧ decode cL_areJobs 439 = .ok (.goto (-415), 3) ∧ decode cL_areJobs 442 = .ok (.iload_n 2, 1) ∧ decode cL_areJobs 443 = .ok (.ifCond .eq 66, 3) ∧ decode cL_areJobs 446 = .ok (.iload_n 1, 1) ∧ decode cL_areJobs 447 = .ok (.aload_n 0, 1) ∧ decode cL_areJobs 448 = .ok (.iconst 1, 1) ∧ decode cL_areJobs 449 = .ok (.invokevirtual 13, 3) ∧ decode cL_areJobs 452 = .ok (.if_icmp .ne 57, 3) ∧ True := dq_of (l := (373, .invokevirtual 25, 3) :: (376, .aload_n 0, 1) :: (377, .iload 4, 2) :: (379, .iconst 5, 1) :: (380, .invokevirtual 25, 3) :: (383, .isub, 1) :: (384, .istore 13, 2) :: (386, .iload 12, 2) :: (388, .iconst 1, 1) :: (389, .if_icmp .eq 41, 3) :: (392, .iload 12, 2) :: (394, .ifCond .ne 40, 3) :: (397, .iload 13, 2) :: (399, .ifCond .gt 31, 3) :: (402, .iload 13, 2) :: (404, .ifCond .ne 10, 3) :: (407, .iload 11, 2) :: (409, .iload 4, 2) :: (411, .if_icmp .lt 19, 3) :: (414, .iload_n 3, 1) :: (415, .iconst 1, 1) :: (416, .if_icmp .ne 18, 3) :: (419, .aload_n 0, 1) :: (420, .iload 11, 2) :: (422, .bipush 6, 2) :: (424, .invokevirtual 25, 3) :: (427, .ifCond .ne 7, 3) :: (430, .iconst 1, 1) :: (431, .goto 4, 3) :: (434, .iconst 0, 1) :: (435, .istore_n 2, 1) :: (436, .iinc 3 1, 3) :: (439, .goto (-415), 3) :: (442, .iload_n 2, 1) :: (443, .ifCond .eq 66, 3) :: (446, .iload_n 1, 1) :: (447, .aload_n 0, 1) :: (448, .iconst 1, 1) :: (449, .invokevirtual 13, 3) :: (452, .if_icmp .ne 57, 3) :: []) (by decide +kernel)
theorem e_L_areJobs_373 : decode cL_areJobs 373 = .ok (.invokevirtual 25, 3) := D_L_areJobs_5.1
theorem e_L_areJobs_376 : decode cL_areJobs 376 = .ok (.aload_n 0, 1) := D_L_areJobs_5.2.1
theorem e_L_areJobs_377 : decode cL_areJobs 377 = .ok (.iload 4, 2) := D_L_areJobs_5.2.2.1
theorem e_L_areJobs_379 : decode cL_areJobs 379 = .ok (.iconst 5, 1) := D_L_areJobs_5.2.2.2.1
theorem e_L_areJobs_380 : decode cL_areJobs 380 = .ok (.invokevirtual 25, 3) := D_L_areJobs_5.2.2.2.2.1
theorem e_L_areJobs_383 : decode cL_areJobs 383 = .ok (.isub, 1) := D_L_areJobs_5.2.2.2.2.2.1
theorem e_L_areJobs_384 : decode cL_areJobs 384 = .ok (.istore 13, 2) := D_L_areJobs_5.2.2.2.2.2.2.1
theorem e_L_areJobs_386 : decode cL_areJobs 386 = .ok (.iload 12, 2) := D_L_areJobs_5.2.2.2.2.2.2.2.1
theorem e_L_areJobs_388 : decode cL_areJobs 388 = .ok (.iconst 1, 1) := D_L_areJobs_5.2.2.2.2.2.2.2.2.1
theorem e_L_areJobs_389 : decode cL_areJobs 389 = .ok (.if_icmp .eq 41, 3) := D_L_areJobs_5.2.2.2.2.2.2.2.2.2.1
theorem e_L_areJobs_392 : decode cL_areJobs 392 = .ok (.iload 12, 2) := D_L_areJobs_5.2.2.2.2.2.2.2.2.2.2.1
theorem e_L_areJobs_394 : decode cL_areJobs 394 = .ok (.ifCond .ne 40, 3) := D_L_areJobs_5.2.2.2.2.2.2.2.2.2.2.2.1
theorem e_L_areJobs_397 : decode cL_areJobs 397 = .ok (.iload 13, 2) := D_L_areJobs_5.2.2.2.2.2.2.2.2.2.2.2.2.1
theorem e_L_areJobs_399 : decode cL_areJobs 399 = .ok (.ifCond .gt 31, 3) := D_L_areJobs_5.2.2.2.2.2.2.2.2.2.2.2.2.2.1
theorem e_L_areJobs_402 : decode cL_areJobs 402 = .ok (.iload 13, 2) := D_L_areJobs_5.2.2.2.2.2.2.2.2.2.2.2.2.2.2.1
theorem e_L_areJobs_404 : decode cL_areJobs 404 = .ok (.ifCond .ne 10, 3) := D_L_areJobs_5.2.2.2.2.2.2.2.2.2.2.2.2.2.2.2.1
theorem e_L_areJobs_407 : decode cL_areJobs 407 = .ok (.iload 11, 2) := D_L_areJobs_5.2.2.2.2.2.2.2.2.2.2.2.2.2.2.2.2.1
theorem e_L_areJobs_409 : decode cL_areJobs 409 = .ok (.iload 4, 2) := D_L_areJobs_5.2.2.2.2.2.2.2.2.2.2.2.2.2.2.2.2.2.1
theorem e_L_areJobs_411 : decode cL_areJobs 411 = .ok (.if_icmp .lt 19, 3) := D_L_areJobs_5.2.2.2.2.2.2.2.2.2.2.2.2.2.2.2.2.2.2.1
theorem e_L_areJobs_414 : decode cL_areJobs 414 = .ok (.iload_n 3, 1) := D_L_areJobs_5.2.2.2.2.2.2.2.2.2.2.2.2.2.2.2.2.2.2.2.1
theorem e_L_areJobs_415 : decode cL_areJobs 415 = .ok (.iconst 1, 1) := D_L_areJobs_5.2.2.2.2.2.2.2.2.2.2.2.2.2.2.2.2.2.2.2.2.1
theorem e_L_areJobs_416 : decode cL_areJobs 416 = .ok (.if_icmp .ne 18, 3) := D_L_areJobs_5.2.2.2.2.2.2.2.2.2.2.2.2.2.2.2.2.2.2.2.2.2.1
theorem e_L_areJobs_419 : decode cL_areJobs 419 = .ok (.aload_n 0, 1) := D_L_areJobs_5.2.2.2.2.2.2.2.2.2.2.2.2.2.2.2.2.2.2.2.2.2.2.1
theorem e_L_areJobs_420 : decode cL_areJobs 420 = .ok (.iload 11, 2) := D_L_areJobs_5.2.2.2.2.2.2.2.2.2.2.2.2.2.2.2.2.2.2.2.2.2.2.2.1
theorem e_L_areJobs_422 : decode cL_areJobs 422 = .ok (.bipush 6, 2) := D_L_areJobs_5.2.2.2.2.2.2.2.2.2.2.2.2.2.2.2.2.2.2.2.2.2.2.2.2.1
theorem e_L_areJobs_424 : decode cL_areJobs 424 = .ok (.invokevirtual 25, 3) := D_L_areJobs_5.2.2.2.2.2.2.2.2.2.2.2.2.2.2.2.2.2.2.2.2.2.2.2.2.2.1
theorem e_L_areJobs_427 : decode cL_areJobs 427 = .ok (.ifCond .ne 7, 3) := D_L_areJobs_5.2.2.2.2.2.2.2.2.2.2.2.2.2.2.2.2.2.2.2.2.2.2.2.2.2.2.1
theorem e_L_areJobs_430 : decode cL_areJobs 430 = .ok (.iconst 1, 1) := D_L_areJobs_5.2.2.2.2.2.2.2.2.2.2.2.2.2.2.2.2.2.2.2.2.2.2.2.2.2.2.2.1
theorem e_L_areJobs_431 : decode cL_areJobs 431 = .ok (.goto 4, 3) := D_L_areJobs_5.2.2.2.2.2.2.2.2.2.2.2.2.2.2.2.2.2.2.2.2.2.2.2.2.2.2.2.2.1
theorem e_L_areJobs_434 : decode cL_areJobs 434 = .ok (.iconst 0, 1) := D_L_areJobs_5.2.2.2.2.2.2.2.2.2.2.2.2.2.2.2.2.2.2.2.2.2.2.2.2.2.2.2.2.2.1
theorem e_L_areJobs_435 : decode cL_areJobs 435 = .ok (.istore_n 2, 1) := D_L_areJobs_5.2.2.2.2.2.2.2.2.2.2.2.2.2.2.2.2.2.2.2.2.2.2.2.2.2.2.2.2.2.2.1
theorem e_L_areJobs_436 : decode cL_areJobs 436 = .ok (.iinc 3 1, 3) := D_L_areJobs_5.2.2.2.2.2.2.2.2.2.2.2.2.2.2.2.2.2.2.2.2.2.2.2.2.2.2.2.2.2.2.2.1
theorem e_L_areJobs_439 : decode cL_areJobs 439 = .ok (.goto (-415), 3) := D_L_areJobs_5.2.2.2.2.2.2.2.2.2.2.2.2.2.2.2.2.2.2.2.2.2.2.2.2.2.2.2.2.2.2.2.2.1
theorem e_L_areJobs_442 : decode cL_areJobs 442 = .ok (.iload_n 2, 1) := D_L_areJobs_5.2.2.2.2.2.2.2.2.2.2.2.2.2.2.2.2.2.2.2.2.2.2.2.2.2.2.2.2.2.2.2.2.2.1
theorem e_L_areJobs_443 : decode cL_areJobs 443 = .ok (.ifCond .eq 66, 3) := D_L_areJobs_5.2.2.2.2.2.2.2.2.2.2.2.2.2.2.2.2.2.2.2.2.2.2.2.2.2.2.2.2.2.2.2.2.2.2.1
theorem e_L_areJobs_446 : decode cL_areJobs 446 = .ok (.iload_n 1, 1) := D_L_areJobs_5.2.2.2.2.2.2.2.2.2.2.2.2.2.2.2.2.2.2.2.2.2.2.2.2.2.2.2.2.2.2.2.2.2.2.2.1
theorem e_L_areJobs_447 : decode cL_areJobs 447 = .ok (.aload_n 0, 1) := D_L_areJobs_5.2.2.2.2.2.2.2.2.2.2.2.2.2.2.2.2.2.2.2.2.2.2.2.2.2.2.2.2.2.2.2.2.2.2.2.2.1
theorem e_L_areJobs_448 : decode cL_areJobs 448 = .ok (.iconst 1, 1) := D_L_areJobs_5.2.2.2.2.2.2.2.2.2.2.2.2.2.2.2.2.2.2.2.2.2.2.2.2.2.2.2.2.2.2.2.2.2.2.2.2.2.1
theorem e_L_areJobs_449 : decode cL_areJobs 449 = .ok (.invokevirtual 13, 3) := D_L_areJobs_5.2.2.2.2.2.2.2.2.2.2.2.2.2.2.2.2.2.2.2.2.2.2.2.2.2.2.2.2.2.2.2.2.2.2.2.2.2.2.1
theorem e_L_areJobs_452 : decode cL_areJobs 452 = .ok (.if_icmp .ne 57, 3) := D_L_areJobs_5.2.2.2.2.2.2.2.2.2.2.2.2.2.2.2.2.2.2.2.2.2.2.2.2.2.2.2.2.2.2.2.2.2.2.2.2.2.2.2.1
set_option maxRecDepth 100000 in
theorem D_L_areJobs_6 : decode cL_areJobs 455 = .ok (.aload_n 0, 1) ∧ decode cL_areJobs 456 = .ok (.bipush 7, 2) ∧ decode cL_areJobs 458 = .ok (.invokevirtual 13, 3) ∧ decode cL_areJobs 461 = .ok (.bipush (-4), 2) ∧ decode cL_areJobs 463 = .ok (.if_icmp .eq 42, 3) ∧ decode cL_areJobs 466 = .ok (.aload_n 0, 1) ∧ decode cL_areJobs 467 = .ok (.bipush 6, 2) ∧ decode cL_areJobs 469 = .ok (.invokevirtual 13, 3) ∧ decode cL_areJobs 472 = .ok (.iconst 2, 1) ∧ decode cL_areJobs 473 = .ok (.if_icmp .eq 17, 3) ∧ decode cL_areJobs 476 = .ok (.aload_n 0, 1) ∧ decode cL_areJobs 477 = .ok (.bipush 7, 2) ∧ decode cL_areJobs 479 = .ok (.invokevirtual 13, 3) ∧ decode cL_areJobs 482 = .ok (.aload_n 0, 1) ∧ decode cL_areJobs 483 = .ok (.iconst 0, 1) ∧ decode cL_areJobs 484 = .ok (.invokevirtual 22, 3) ∧ decode cL_areJobs 487 = .ok (.if_icmp .ne 22, 3) ∧ decode cL_areJobs 490 = .ok (.aload_n 0, 1) ∧ decode cL_areJobs 491 = .ok (.aload_n 0, 1) ∧ decode cL_areJobs 492 = .ok (.bipush 7, 2) ∧ decode cL_areJobs 494 = .ok (.invokevirtual 13, 3) ∧ decode cL_areJobs 497 = .ok (.bipush 6, 2) ∧ decode cL_areJobs 499 = .ok (.invokevirtual 25, 3) ∧ decode cL_areJobs 502 = .ok (.ifCond .ne 7, 3) ∧ decode cL_areJobs 505 = .ok (.iconst 1, 1) ∧ decode cL_areJobs 506 = .ok (.goto 4, 3) ∧ decode cL_areJobs 509 = .ok (.iconst 0, 1) ∧ decode cL_areJobs 510 = .ok (.ireturn, 1) ∧ True := dq_of (l := (455, .aload_n 0, 1) :: (456, .bipush 7, 2) :: (458, .invokevirtual 13, 3) :: (461, .bipush (-4), 2) :: (463, .if_icmp .eq 42, 3) :: (466, .aload_n 0, 1) :: (467, .bipush 6, 2) :: (469, .invokevirtual 13, 3) :: (472, .iconst 2, 1) :: (473, .if_icmp .eq 17, 3) :: (476, .aload_n 0, 1) :: (477, .bipush 7, 2) :: (479, .invokevirtual 13, 3) :: (482, .aload_n 0, 1) :: (483, .iconst 0, 1) :: (484, .invokevirtual 22, 3) :: (487, .if_icmp .ne 22, 3) :: (490, .aload_n 0, 1) :: (491, .aload_n 0, 1) :: (492, .bipush 7, 2) :: (494, .invokevirtual 13, 3) :: (497, .bipush 6, 2) :: (499, .invokevirtual 25, 3) :: (502, .ifCond .ne 7, 3) :: (505, .iconst 1, 1) :: (506, .goto 4, 3) :: (509, .iconst 0, 1) :: (510, .ireturn, 1) :: []) (by decide +kernel)
theorem e_L_areJobs_455 : decode cL_areJobs 455 = .ok (.aload_n 0, 1) := D_L_areJobs_6.1
theorem e_L_areJobs_456 : decode cL_areJobs 456 = .ok (.bipush 7, 2) := D_L_areJobs_6.2.1
theorem e_L_areJobs_458 : decode cL_areJobs 458 = .ok (.invokevirtual 13, 3) := D_L_areJobs_6.2.2.1
theorem e_L_areJobs_461 : decode cL_areJobs 461 = .ok (.bipush (-4), 2) := D_L_areJobs_6.2.2.2.1
theorem e_L_areJobs_463 : decode cL_areJobs 463 = .ok (.if_icmp .eq 42, 3) := D_L_areJobs_6.2.2.2.2.1
theorem e_L_areJobs_466 : decode cL_areJobs 466 = .ok (.aload_n 0, 1) := D_L_areJobs_6.2.2.2.2.2.1
theorem e_L_areJobs_467 : decode cL_areJobs 467 = .ok (.bipush 6, 2) := D_L_areJobs_6.2.2.2.2.2.2.1
theorem e_L_areJobs_469 : decode cL_areJobs 469 = .ok (.invokevirtual 13, 3) := D_L_areJobs_6.2.2.2.2.2.2.2.1
theorem e_L_areJobs_472 : decode cL_areJobs 472 = .ok (.iconst 2, 1) := D_L_areJobs_6.2.2.2.2.2.2.2.2.1
theorem e_L_areJobs_473 : decode cL_areJobs 473 = .ok (.if_icmp .eq 17, 3) := D_L_areJobs_6.2.2.2.2.2.2.2.2.2.1
theorem e_L_areJobs_476 : decode cL_areJobs 476 = .ok (.aload_n 0, 1) := D_L_areJobs_6.2.2.2.2.2.2.2.2.2.2.1
theorem e_L_areJobs_477 : decode cL_areJobs 477 = .ok (.bipush 7, 2) := D_L_areJobs_6.2.2.2.2.2.2.2.2.2.2.2.1
theorem e_L_areJobs_479 : decode cL_areJobs 479 = .ok (.invokevirtual 13, 3) := D_L_areJobs_6.2.2.2.2.2.2.2.2.2.2.2.2.1
theorem e_L_areJobs_482 : decode cL_areJobs 482 = .ok (.aload_n 0, 1) := D_L_areJobs_6.2.2.2.2.2.2.2.2.2.2.2.2.2.1
theorem e_L_areJobs_483 : decode cL_areJobs 483 = .ok (.iconst 0, 1) := D_L_areJobs_6.2.2.2.2.2.2.2.2.2.2.2.2.2.2.1
theorem e_L_areJobs_484 : decode cL_areJobs 484 = .ok (.invokevirtual 22, 3) := D_L_areJobs_6.2.2.2.2.2.2.2.2.2.2.2.2.2.2.2.1
theorem e_L_areJobs_487 : decode cL_areJobs 487 = .ok (.if_icmp .ne 22, 3) := D_L_areJobs_6.2.2.2.2.2.2.2.2.2.2.2.2.2.2.2.2.1
theorem e_L_areJobs_490 : decode cL_areJobs 490 = .ok (.aload_n 0, 1) := D_L_areJobs_6.2.2.2.2.2.2.2.2.2.2.2.2.2.2.2.2.2.1
theorem e_L_areJobs_491 : decode cL_areJobs 491 = .ok (.aload_n 0, 1) := D_L_areJobs_6.2.2.2.2.2.2.2.2.2.2.2.2.2.2.2.2.2.2.1
theorem e_L_areJobs_492 : decode cL_areJobs 492 = .ok (.bipush 7, 2) := D_L_areJobs_6.2.2.2.2.2.2.2.2.2.2.2.2.2.2.2.2.2.2.2.1
theorem e_L_areJobs_494 : decode cL_areJobs 494 = .ok (.invokevirtual 13, 3) := D_L_areJobs_6.2.2.2.2.2.2.2.2.2.2.2.2.2.2.2.2.2.2.2.2.1
theorem e_L_areJobs_497 : decode cL_areJobs 497 = .ok (.bipush 6, 2) := D_L_areJobs_6.2.2.2.2.2.2.2.2.2.2.2.2.2.2.2.2.2.2.2.2.2.1
theorem e_L_areJobs_499 : decode cL_areJobs 499 = .ok (.invokevirtual 25, 3) := D_L_areJobs_6.2.2.2.2.2.2.2.2.2.2.2.2.2.2.2.2.2.2.2.2.2.2.1
theorem e_L_areJobs_502 : decode cL_areJobs 502 = .ok (.ifCond .ne 7, 3) := D_L_areJobs_6.2.2.2.2.2.2.2.2.2.2.2.2.2.2.2.2.2.2.2.2.2.2.2.1
theorem e_L_areJobs_505 : decode cL_areJobs 505 = .ok (.iconst 1, 1) := D_L_areJobs_6.2.2.2.2.2.2.2.2.2.2.2.2.2.2.2.2.2.2.2.2.2.2.2.2.1
theorem e_L_areJobs_506 : decode cL_areJobs 506 = .ok (.goto 4, 3) := D_L_areJobs_6.2.2.2.2.2.2.2.2.2.2.2.2.2.2.2.2.2.2.2.2.2.2.2.2.2.1
theorem e_L_areJobs_509 : decode cL_areJobs 509 = .ok (.iconst 0, 1) := D_L_areJobs_6.2.2.2.2.2.2.2.2.2.2.2.2.2.2.2.2.2.2.2.2.2.2.2.2.2.2.1
theorem e_L_areJobs_510 : decode cL_areJobs 510 = .ok (.ireturn, 1) := D_L_areJobs_6.2.2.2.2.2.2.2.2.2.2.2.2.2.2.2.2.2.2.2.2.2.2.2.2.2.2.2.1
set_option maxRecDepth 100000 in
theorem D_L_isFilled_0 : decode cL_isFilled 0 = .ok (.aload_n 0, 1) ∧ decode cL_isFilled 1 = .ok (.invokestatic 42, 3) ∧ decode cL_isFilled 4 = .ok (.lstore_n 3, 1) ∧ decode cL_isFilled 5 = .ok (.aload_n 0, 1) ∧ decode cL_isFilled 6 = .ok (.iload_n 1, 1) ∧ decode cL_isFilled 7 = .ok (.iload_n 2, 1) ∧ decode cL_isFilled 8 = .ok (.invokevirtual 32, 3) ∧ decode cL_isFilled 11 = .ok (.istore 5, 2) ∧ decode cL_isFilled 13 = .ok (.iload 5, 2) ∧ decode cL_isFilled 15 = .ok (.sipush 500, 3) ∧ decode cL_isFilled 18 = .ok (.if_icmp .le 9, 3) ∧ decode cL_isFilled 21 = .ok (.sipush 500, 3) ∧ decode cL_isFilled 24 = .ok (.goto 5, 3) ∧ decode cL_isFilled 27 = .ok (.iload 5, 2) ∧ decode cL_isFilled 29 = .ok (.istore 6, 2) ∧ decode cL_isFilled 31 = .ok (.iload 5, 2) ∧ decode cL_isFilled 33 = .ok (.ifCond .lt 7, 3) ∧ decode cL_isFilled 36 = .ok (.iconst 1, 1) ∧ decode cL_isFilled 37 = .ok (.goto 4, 3) ∧ decode cL_isFilled 40 = .ok (.iconst 0, 1) ∧ decode cL_isFilled 41 = .ok (.istore 7, 2) ∧ decode cL_isFilled 43 = .ok (.iload 6, 2) ∧ decode cL_isFilled 45 = .ok (.ifCond .le 95, 3) ∧ decode cL_isFilled 48 = .ok (.aload_n 0, 1) ∧ decode cL_isFilled 49 = .ok (.iconst 3, 1) ∧ decode cL_isFilled 50 = .ok (.iconst 0, 1) ∧ decode cL_isFilled 51 = .ok (.invokevirtual 29, 3) ∧ decode cL_isFilled 54 = .ok (.iload_n 1, 1) ∧ decode cL_isFilled 55 = .ok (.if_icmp .ne 22, 3) ∧ decode cL_isFilled 58 = .ok (.aload_n 0, 1) ∧ decode cL_isFilled 59 = .ok (.iconst 3, 1) ∧ decode cL_isFilled 60 = .ok (.iconst 1, 1) ∧ decode cL_isFilled 61 = .ok (.invokevirtual 29, 3) ∧ decode cL_isFilled 64 = .ok (.iload_n 2, 1) ∧ decode cL_isFilled 65 = .ok (.if_icmp .ne 12, 3) ∧ decode cL_isFilled 68 = .ok (.aload_n 0, 1) ∧ decode cL_isFilled 69 = .ok (.iconst 3, 1) ∧ decode cL_isFilled 70 = .ok (.iconst 2, 1) ∧ decode cL_isFilled 71 = .ok (.invokevirtual 29, 3) ∧ decode cL_isFilled 74 = .ok (.goto 4, 3) ∧ True := dq_of (l := (0, .aload_n 0, 1) :: (1, .invokestatic 42, 3) :: (4, .lstore_n 3, 1) :: (5, .aload_n 0, 1) :: (6, .iload_n 1, 1) :: (7, .iload_n 2, 1) :: (8, .invokevirtual 32, 3) :: (11, .istore 5, 2) :: (13, .iload 5, 2) :: (15, .sipush 500, 3) :: (18, .if_icmp .le 9, 3) :: (21, .sipush 500, 3) :: (24, .goto 5, 3) :: (27, .iload 5, 2) :: (29, .istore 6, 2) :: (31, .iload 5, 2) :: (33, .ifCond .lt 7, 3) :: (36, .iconst 1, 1) :: (37, .goto 4, 3) :: (40, .iconst 0, 1) :: (41, .istore 7, 2) :: (43, .iload 6, 2) :: (45, .ifCond .le 95, 3) :: (48, .aload_n 0, 1) :: (49, .iconst 3, 1) :: (50, .iconst 0, 1) :: (51, .invokevirtual 29, 3) :: (54, .iload_n 1, 1) :: (55, .if_icmp .ne 22, 3) :: (58, .aload_n 0, 1) :: (59, .iconst 3, 1) :: (60, .iconst 1, 1) :: (61, .invokevirtual 29, 3) :: (64, .iload_n 2, 1) :: (65, .if_icmp .ne 12, 3) :: (68, .aload_n 0, 1) :: (69, .iconst 3, 1) :: (70, .iconst 2, 1) :: (71, .invokevirtual 29, 3) :: (74, .goto 4, 3) :: []) (by decide +kernel)
theorem e_L_isFilled_0 : decode cL_isFilled 0 = .ok (.aload_n 0, 1) := D_L_isFilled_0.1
theorem e_L_isFilled_1 : decode cL_isFilled 1 = .ok (.invokestatic 42, 3) := D_L_isFilled_0.2.1
theorem e_L_isFilled_4 : decode cL_isFilled 4 = .ok (.lstore_n 3, 1) := D_L_isFilled_0.2.2.1
theorem e_L_isFilled_5 : decode cL_isFilled 5 = .ok (.aload_n 0, 1) := D_L_isFilled_0.2.2.2.1
theorem e_L_isFilled_6 : decode cL_isFilled 6 = .ok (.iload_n 1, 1) := D_L_isFilled_0.2.2.2.2.1
theorem e_L_isFilled_7 : decode cL_isFilled 7 = .ok (.iload_n 2, 1) := D_L_isFilled_0.2.2.2.2.2.1
theorem e_L_isFilled_8 : decode cL_isFilled 8 = .ok (.invokevirtual 32, 3) := D_L_isFilled_0.2.2.2.2.2.2.1
theorem e_L_isFilled_11 : decode cL_isFilled 11 = .ok (.istore 5, 2) := D_L_isFilled_0.2.2.2.2.2.2.2.1
theorem e_L_isFilled_13 : decode cL_isFilled 13 = .ok (.iload 5, 2) := D_L_isFilled_0.2.2.2.2.2.2.2.2.1
theorem e_L_isFilled_15 : decode cL_isFilled 15 = .ok (.sipush 500, 3) := D_L_isFilled_0.2.2.2.2.2.2.2.2.2.1
theorem e_L_isFilled_18 : decode cL_isFilled 18 = .ok (.if_icmp .le 9, 3) := D_L_isFilled_0.2.2.2.2.2.2.2.2.2.2.1
theorem e_L_isFilled_21 : decode cL_isFilled 21 = .ok (.sipush 500, 3) := D_L_isFilled_0.2.2.2.2.2.2.2.2.2.2.2.1
theorem e_L_isFilled_24 : decode cL_isFilled 24 = .ok (.goto 5, 3) := D_L_isFilled_0.2.2.2.2.2.2.2.2.2.2.2.2.1
theorem e_L_isFilled_27 : decode cL_isFilled 27 = .ok (.iload 5, 2) := D_L_isFilled_0.2.2.2.2.2.2.2.2.2.2.2.2.2.1
theorem e_L_isFilled_29 : decode cL_isFilled 29 = .ok (.istore 6, 2) := D_L_isFilled_0.2.2.2.2.2.2.2.2.2.2.2.2.2.2.1
theorem e_L_isFilled_31 : decode cL_isFilled 31 = .ok (.iload 5, 2) := D_L_isFilled_0.2.2.2.2.2.2.2.2.2.2.2.2.2.2.2.1
theorem e_L_isFilled_33 : decode cL_isFilled 33 = .ok (.ifCond .lt 7, 3) := D_L_isFilled_0.2.2.2.2.2.2.2.2.2.2.2.2.2.2.2.2.1
theorem e_L_isFilled_36 : decode cL_isFilled 36 = .ok (.iconst 1, 1) := D_L_isFilled_0.2.2.2.2.2.2.2.2.2.2.2.2.2.2.2.2.2.1
theorem e_L_isFilled_37 : decode cL_isFilled 37 = .ok (.goto 4, 3) := D_L_isFilled_0.2.2.2.2.2.2.2.2.2.2.2.2.2.2.2.2.2.2.1
theorem e_L_isFilled_40 : decode cL_isFilled 40 = .ok (.iconst 0, 1) := D_L_isFilled_0.2.2.2.2.2.2.2.2.2.2.2.2.2.2.2.2.2.2.2.1
theorem e_L_isFilled_41 : decode cL_isFilled 41 = .ok (.istore 7, 2) := D_L_isFilled_0.2.2.2.2.2.2.2.2.2.2.2.2.2.2.2.2.2.2.2.2.1
theorem e_L_isFilled_43 : decode cL_isFilled 43 = .ok (.iload 6, 2) := D_L_isFilled_0.2.2.2.2.2.2.2.2.2.2.2.2.2.2.2.2.2.2.2.2.2.1
theorem e_L_isFilled_45 : decode cL_isFilled 45 = .ok (.ifCond .le 95, 3) := D_L_isFilled_0.2.2.2.2.2.2.2.2.2.2.2.2.2.2.2.2.2.2.2.2.2.2.1
theorem e_L_isFilled_48 : decode cL_isFilled 48 = .ok (.aload_n 0, 1) := D_L_isFilled_0.2.2.2.2.2.2.2.2.2.2.2.2.2.2.2.2.2.2.2.2.2.2.2.1
theorem e_L_isFilled_49 : decode cL_isFilled 49 = .ok (.iconst 3, 1) := D_L_isFilled_0.2.2.2.2.2.2.2.2.2.2.2.2.2.2.2.2.2.2.2.2.2.2.2.2.1
theorem e_L_isFilled_50 : decode cL_isFilled 50 = .ok (.iconst 0, 1) := D_L_isFilled_0.2.2.2.2.2.2.2.2.2.2.2.2.2.2.2.2.2.2.2.2.2.2.2.2.2.1
theorem e_L_isFilled_51 : decode cL_isFilled 51 = .ok (.invokevirtual 29, 3) := D_L_isFilled_0.2.2.2.2.2.2.2.2.2.2.2.2.2.2.2.2.2.2.2.2.2.2.2.2.2.2.1
theorem e_L_isFilled_54 : decode cL_isFilled 54 = .ok (.iload_n 1, 1) := D_L_isFilled_0.2.2.2.2.2.2.2.2.2.2.2.2.2.2.2.2.2.2.2.2.2.2.2.2.2.2.2.1
theorem e_L_isFilled_55 : decode cL_isFilled 55 = .ok (.if_icmp .ne 22, 3) := D_L_isFilled_0.2.2.2.2.2.2.2.2.2.2.2.2.2.2.2.2.2.2.2.2.2.2.2.2.2.2.2.2.1
theorem e_L_isFilled_58 : decode cL_isFilled 58 = .ok (.aload_n 0, 1) := D_L_isFilled_0.2.2.2.2.2.2.2.2.2.2.2.2.2.2.2.2.2.2.2.2.2.2.2.2.2.2.2.2.2.1
theorem e_L_isFilled_59 : decode cL_isFilled 59 = .ok (.iconst 3, 1) := D_L_isFilled_0.2.2.2.2.2.2.2.2.2.2.2.2.2.2.2.2.2.2.2.2.2.2.2.2.2.2.2.2.2.2.1
theorem e_L_isFilled_60 : decode cL_isFilled 60 = .ok (.iconst 1, 1) := D_L_isFilled_0.2.2.2.2.2.2.2.2.2.2.2.2.2.2.2.2.2.2.2.2.2.2.2.2.2.2.2.2.2.2.2.1
theorem e_L_isFilled_61 : decode cL_isFilled 61 = .ok (.invokevirtual 29, 3) := D_L_isFilled_0.2.2.2.2.2.2.2.2.2.2.2.2.2.2.2.2.2.2.2.2.2.2.2.2.2.2.2.2.2.2.2.2.1
theorem e_L_isFilled_64 : decode cL_isFilled 64 = .ok (.iload_n 2, 1) := D_L_isFilled_0.2.2.2.2.2.2.2.2.2.2.2.2.2.2.2.2.2.2.2.2.2.2.2.2.2.2.2.2.2.2.2.2.2.1
theorem e_L_isFilled_65 : decode cL_isFilled 65 = .ok (.if_icmp .ne 12, 3) := D_L_isFilled_0.2.2.2.2.2.2.2.2.2.2.2.2.2.2.2.2.2.2.2.2.2.2.2.2.2.2.2.2.2.2.2.2.2.2.1
theorem e_L_isFilled_68 : decode cL_isFilled 68 = .ok (.aload_n 0, 1) := D_L_isFilled_0.2.2.2.2.2.2.2.2.2.2.2.2.2.2.2.2.2.2.2.2.2.2.2.2.2.2.2.2.2.2.2.2.2.2.2.1
theorem e_L_isFilled_69 : decode cL_isFilled 69 = .ok (.iconst 3, 1) := D_L_isFilled_0.2.2.2.2.2.2.2.2.2.2.2.2.2.2.2.2.2.2.2.2.2.2.2.2.2.2.2.2.2.2.2.2.2.2.2.2.1
theorem e_L_isFilled_70 : decode cL_isFilled 70 = .ok (.iconst 2, 1) := D_L_isFilled_0.2.2.2.2.2.2.2.2.2.2.2.2.2.2.2.2.2.2.2.2.2.2.2.2.2.2.2.2.2.2.2.2.2.2.2.2.2.1
theorem e_L_isFilled_71 : decode cL_isFilled 71 = .ok (.invokevirtual 29, 3) := D_L_isFilled_0.2.2.2.2.2.2.2.2.2.2.2.2.2.2.2.2.2.2.2.2.2.2.2.2.2.2.2.2.2.2.2.2.2.2.2.2.2.2.1
theorem e_L_isFilled_74 : decode cL_isFilled 74 = .ok (.goto 4, 3) := D_L_isFilled_0.2.2.2.2.2.2.2.2.2.2.2.2.2.2.2.2.2.2.2.2.2.2.2.2.2.2.2.2.2.2.2.2.2.2.2.2.2.2.2.1
set_option maxRecDepth 100000 in
theorem D_L_isFilled_1 : decode cL_isFilled 77 = .ok (.iconst 0, 1) ∧ decode cL_isFilled 78 = .ok (.istore 8, 2) ∧ decode cL_isFilled 80 = .ok (.aload_n 0, 1) ∧ decode cL_isFilled 81 = .ok (.iconst 3, 1) ∧ decode cL_isFilled 82 = .ok (.iload_n 1, 1) ∧ decode cL_isFilled 83 = .ok (.iload_n 2, 1) ∧ decode cL_isFilled 84 = .ok (.invokevirtual 51, 3) ∧ decode cL_isFilled 87 = .ok (.ifCond .lt 50, 3) ∧ decode cL_isFilled 90 = .ok (.aload_n 0, 1) ∧ decode cL_isFilled 91 = .ok (.iconst 3, 1) ∧ decode cL_isFilled 92 = .ok (.iload 6, 2) ∧ decode cL_isFilled 94 = .ok (.invokevirtual 48, 3) ∧ decode cL_isFilled 97 = .ok (.iload 6, 2) ∧ decode cL_isFilled 99 = .ok (.if_icmp .ne 38, 3) ∧ decode cL_isFilled 102 = .ok (.aload_n 0, 1) ∧ decode cL_isFilled 103 = .ok (.iload_n 1, 1) ∧ decode cL_isFilled 104 = .ok (.iload_n 2, 1) ∧ decode cL_isFilled 105 = .ok (.invokevirtual 32, 3) ∧ decode cL_isFilled 108 = .ok (.iload 5, 2) ∧ decode cL_isFilled 110 = .ok (.iload 6, 2) ∧ decode cL_isFilled 112 = .ok (.isub, 1) ∧ decode cL_isFilled 113 = .ok (.iload 8, 2) ∧ decode cL_isFilled 115 = .ok (.iadd, 1) ∧ decode cL_isFilled 116 = .ok (.if_icmp .ne 21, 3) ∧ decode cL_isFilled 119 = .ok (.aload_n 0, 1) ∧ decode cL_isFilled 120 = .ok (.invokevirtual 89, 3) ∧ decode cL_isFilled 123 = .ok (.ifCond .lt 14, 3) ∧ decode cL_isFilled 126 = .ok (.aload_n 0, 1) ∧ decode cL_isFilled 127 = .ok (.invokevirtual 89, 3) ∧ decode cL_isFilled 130 = .ok (.ifCond .lt 7, 3) ∧ decode cL_isFilled 133 = .ok (.iconst 1, 1) ∧ decode cL_isFilled 134 = .ok (.goto 4, 3) ∧ decode cL_isFilled 137 = .ok (.iconst 0, 1) ∧ decode cL_isFilled 138 = .ok (.istore 7, 2) ∧ decode cL_isFilled 140 = .ok (.iload 7, 2) ∧ decode cL_isFilled 142 = .ok (.ifCond .eq 16, 3) ∧ decode cL_isFilled 145 = .ok (.aload_n 0, 1) ∧ decode cL_isFilled 146 = .ok (.invokestatic 42, 3) ∧ decode cL_isFilled 149 = .ok (.lload_n 3, 1) ∧ decode cL_isFilled 150 = .ok (.lcmp, 1) ∧ True := dq_of (l := (77, .iconst 0, 1) :: (78, .istore 8, 2) :: (80, .aload_n 0, 1) :: (81, .iconst 3, 1) :: (82, .iload_n 1, 1) :: (83, .iload_n 2, 1) :: (84, .invokevirtual 51, 3) :: (87, .ifCond .lt 50, 3) :: (90, .aload_n 0, 1) :: (91, .iconst 3, 1) :: (92, .iload 6, 2) :: (94, .invokevirtual 48, 3) :: (97, .iload 6, 2) :: (99, .if_icmp .ne 38, 3) :: (102, .aload_n 0, 1) :: (103, .iload_n 1, 1) :: (104, .iload_n 2, 1) :: (105, .invokevirtual 32, 3) :: (108, .iload 5, 2) :: (110, .iload 6, 2) :: (112, .isub, 1) :: (113, .iload 8, 2) :: (115, .iadd, 1) :: (116, .if_icmp .ne 21, 3) :: (119, .aload_n 0, 1) :: (120, .invokevirtual 89, 3) :: (123, .ifCond .lt 14, 3) :: (126, .aload_n 0, 1) :: (127, .invokevirtual 89, 3) :: (130, .ifCond .lt 7, 3) :: (133, .iconst 1, 1) :: (134, .goto 4, 3) :: (137, .iconst 0, 1) :: (138, .istore 7, 2) :: (140, .iload 7, 2) :: (142, .ifCond .eq 16, 3) :: (145, .aload_n 0, 1) :: (146, .invokestatic 42, 3) :: (149, .lload_n 3, 1) :: (150, .lcmp, 1) :: []) (by decide +kernel)
theorem e_L_isFilled_77 : decode cL_isFilled 77 = .ok (.iconst 0, 1) := D_L_isFilled_1.1
theorem e_L_isFilled_78 : decode cL_isFilled 78 = .ok (.istore 8, 2) := D_L_isFilled_1.2.1
theorem e_L_isFilled_80 : decode cL_isFilled 80 = .ok (.aload_n 0, 1) := D_L_isFilled_1.2.2.1
theorem e_L_isFilled_81 : decode cL_isFilled 81 = .ok (.iconst 3, 1) := D_L_isFilled_1.2.2.2.1
theorem e_L_isFilled_82 : decode cL_isFilled 82 = .ok (.iload_n 1, 1) := D_L_isFilled_1.2.2.2.2.1
theorem e_L_isFilled_83 : decode cL_isFilled 83 = .ok (.iload_n 2, 1) := D_L_isFilled_1.2.2.2.2.2.1
theorem e_L_isFilled_84 : decode cL_isFilled 84 = .ok (.invokevirtual 51, 3) := D_L_isFilled_1.2.2.2.2.2.2.1
theorem e_L_isFilled_87 : decode cL_isFilled 87 = .ok (.ifCond .lt 50, 3) := D_L_isFilled_1.2.2.2.2.2.2.2.1
theorem e_L_isFilled_90 : decode cL_isFilled 90 = .ok (.aload_n 0, 1) := D_L_isFilled_1.2.2.2.2.2.2.2.2.1
theorem e_L_isFilled_91 : decode cL_isFilled 91 = .ok (.iconst 3, 1) := D_L_isFilled_1.2.2.2.2.2.2.2.2.2.1
theorem e_L_isFilled_92 : decode cL_isFilled 92 = .ok (.iload 6, 2) := D_L_isFilled_1.2.2.2.2.2.2.2.2.2.2.1
theorem e_L_isFilled_94 : decode cL_isFilled 94 = .ok (.invokevirtual 48, 3) := D_L_isFilled_1.2.2.2.2.2.2.2.2.2.2.2.1
theorem e_L_isFilled_97 : decode cL_isFilled 97 = .ok (.iload 6, 2) := D_L_isFilled_1.2.2.2.2.2.2.2.2.2.2.2.2.1
theorem e_L_isFilled_99 : decode cL_isFilled 99 = .ok (.if_icmp .ne 38, 3) := D_L_isFilled_1.2.2.2.2.2.2.2.2.2.2.2.2.2.1
theorem e_L_isFilled_102 : decode cL_isFilled 102 = .ok (.aload_n 0, 1) := D_L_isFilled_1.2.2.2.2.2.2.2.2.2.2.2.2.2.2.1
theorem e_L_isFilled_103 : decode cL_isFilled 103 = .ok (.iload_n 1, 1) := D_L_isFilled_1.2.2.2.2.2.2.2.2.2.2.2.2.2.2.2.1
theorem e_L_isFilled_104 : decode cL_isFilled 104 = .ok (.iload_n 2, 1) := D_L_isFilled_1.2.2.2.2.2.2.2.2.2.2.2.2.2.2.2.2.1
theorem e_L_isFilled_105 : decode cL_isFilled 105 = .ok (.invokevirtual 32, 3) := D_L_isFilled_1.2.2.2.2.2.2.2.2.2.2.2.2.2.2.2.2.2.1
theorem e_L_isFilled_108 : decode cL_isFilled 108 = .ok (.iload 5, 2) := D_L_isFilled_1.2.2.2.2.2.2.2.2.2.2.2.2.2.2.2.2.2.2.1
theorem e_L_isFilled_110 : decode cL_isFilled 110 = .ok (.iload 6, 2) := D_L_isFilled_1.2.2.2.2.2.2.2.2.2.2.2.2.2.2.2.2.2.2.2.1
theorem e_L_isFilled_112 : decode cL_isFilled 112 = .ok (.isub, 1) := D_L_isFilled_1.2.2.2.2.2.2.2.2.2.2.2.2.2.2.2.2.2.2.2.2.1
theorem e_L_isFilled_113 : decode cL_isFilled 113 = .ok (.iload 8, 2) := D_L_isFilled_1.2.2.2.2.2.2.2.2.2.2.2.2.2.2.2.2.2.2.2.2.2.1
theorem e_L_isFilled_115 : decode cL_isFilled 115 = .ok (.iadd, 1) := D_L_isFilled_1.2.2.2.2.2.2.2.2.2.2.2.2.2.2.2.2.2.2.2.2.2.2.1
theorem e_L_isFilled_116 : decode cL_isFilled 116 = .ok (.if_icmp .ne 21, 3) := D_L_isFilled_1.2.2.2.2.2.2.2.2.2.2.2.2.2.2.2.2.2.2.2.2.2.2.2.1
theorem e_L_isFilled_119 : decode cL_isFilled 119 = .ok (.aload_n 0, 1) := D_L_isFilled_1.2.2.2.2.2.2.2.2.2.2.2.2.2.2.2.2.2.2.2.2.2.2.2.2.1
theorem e_L_isFilled_120 : decode cL_isFilled 120 = .ok (.invokevirtual 89, 3) := D_L_isFilled_1.2.2.2.2.2.2.2.2.2.2.2.2.2.2.2.2.2.2.2.2.2.2.2.2.2.1
theorem e_L_isFilled_123 : decode cL_isFilled 123 = .ok (.ifCond .lt 14, 3) := D_L_isFilled_1.2.2.2.2.2.2.2.2.2.2.2.2.2.2.2.2.2.2.2.2.2.2.2.2.2.2.1
theorem e_L_isFilled_126 : decode cL_isFilled 126 = .ok (.aload_n 0, 1) := D_L_isFilled_1.2.2.2.2.2.2.2.2.2.2.2.2.2.2.2.2.2.2.2.2.2.2.2.2.2.2.2.1
theorem e_L_isFilled_127 : decode cL_isFilled 127 = .ok (.invokevirtual 89, 3) := D_L_isFilled_1.2.2.2.2.2.2.2.2.2.2.2.2.2.2.2.2.2.2.2.2.2.2.2.2.2.2.2.2.1
theorem e_L_isFilled_130 : decode cL_isFilled 130 = .ok (.ifCond .lt 7, 3) := D_L_isFilled_1.2.2.2.2.2.2.2.2.2.2.2.2.2.2.2.2.2.2.2.2.2.2.2.2.2.2.2.2.2.1
theorem e_L_isFilled_133 : decode cL_isFilled 133 = .ok (.iconst 1, 1) := D_L_isFilled_1.2.2.2.2.2.2.2.2.2.2.2.2.2.2.2.2.2.2.2.2.2.2.2.2.2.2.2.2.2.2.1
theorem e_L_isFilled_134 : decode cL_isFilled 134 = .ok (.goto 4, 3) := D_L_isFilled_1.2.2.2.2.2.2.2.2.2.2.2.2.2.2.2.2.2.2.2.2.2.2.2.2.2.2.2.2.2.2.2.1
theorem e_L_isFilled_137 : decode cL_isFilled 137 = .ok (.iconst 0, 1) := D_L_isFilled_1.2.2.2.2.2.2.2.2.2.2.2.2.2.2.2.2.2.2.2.2.2.2.2.2.2.2.2.2.2.2.2.2.1
theorem e_L_isFilled_138 : decode cL_isFilled 138 = .ok (.istore 7, 2) := D_L_isFilled_1.2.2.2.2.2.2.2.2.2.2.2.2.2.2.2.2.2.2.2.2.2.2.2.2.2.2.2.2.2.2.2.2.2.1
theorem e_L_isFilled_140 : decode cL_isFilled 140 = .ok (.iload 7, 2) := D_L_isFilled_1.2.2.2.2.2.2.2.2.2.2.2.2.2.2.2.2.2.2.2.2.2.2.2.2.2.2.2.2.2.2.2.2.2.2.1
theorem e_L_isFilled_142 : decode cL_isFilled 142 = .ok (.ifCond .eq 16, 3) := D_L_isFilled_1.2.2.2.2.2.2.2.2.2.2.2.2.2.2.2.2.2.2.2.2.2.2.2.2.2.2.2.2.2.2.2.2.2.2.2.1
theorem e_L_isFilled_145 : decode cL_isFilled 145 = .ok (.aload_n 0, 1) := D_L_isFilled_1.2.2.2.2.2.2.2.2.2.2.2.2.2.2.2.2.2.2.2.2.2.2.2.2.2.2.2.2.2.2.2.2.2.2.2.2.1
theorem e_L_isFilled_146 : decode cL_isFilled 146 = .ok (.invokestatic 42, 3) := D_L_isFilled_1.2.2.2.2.2.2.2.2.2.2.2.2.2.2.2.2.2.2.2.2.2.2.2.2.2.2.2.2.2.2.2.2.2.2.2.2.2.1
theorem e_L_isFilled_149 : decode cL_isFilled 149 = .ok (.lload_n 3, 1) := D_L_isFilled_1.2.2.2.2.2.2.2.2.2.2.2.2.2.2.2.2.2.2.2.2.2.2.2.2.2.2.2.2.2.2.2.2.2.2.2.2.2.2.1
theorem e_L_isFilled_150 : decode cL_isFilled 150 = .ok (.lcmp, 1) := D_L_isFilled_1.2.2.2.2.2.2.2.2.2.2.2.2.2.2.2.2.2.2.2.2.2.2.2.2.2.2.2.2.2.2.2.2.2.2.2.2.2.2.2.1
set_option maxRecDepth 100000 in
theorem D_L_isFilled_2 : decode cL_isFilled 151 = .ok (.ifCond .ne 7, 3) ∧ decode cL_isFilled 154 = .ok (.iconst 1, 1) ∧ decode cL_isFilled 155 = .ok (.goto 4, 3) ∧ decode cL_isFilled 158 = .ok (.iconst 0, 1) ∧ decode cL_isFilled 159 = .ok (.ireturn, 1) ∧ True := dq_of (l := (151, .ifCond .ne 7, 3) :: (154, .iconst 1, 1) :: (155, .goto 4, 3) :: (158, .iconst 0, 1) :: (159, .ireturn, 1) :: []) (by decide +kernel)
theorem e_L_isFilled_151 : decode cL_isFilled 151 = .ok (.ifCond .ne 7, 3) := D_L_isFilled_2.1
theorem e_L_isFilled_154 : decode cL_isFilled 154 = .ok (.iconst 1, 1) := D_L_isFilled_2.2.1
theorem e_L_isFilled_155 : decode cL_isFilled 155 = .ok (.goto 4, 3) := D_L_isFilled_2.2.2.1
theorem e_L_isFilled_158 : decode cL_isFilled 158 = .ok (.iconst 0, 1) := D_L_isFilled_2.2.2.2.1
theorem e_L_isFilled_159 : decode cL_isFilled 159 = .ok (.ireturn, 1) := D_L_isFilled_2.2.2.2.2.1
set_option maxRecDepth 100000 in
theorem D_L_isRun_0 : decode cL_isRun 0 = .ok (.aload_n 0, 1) ∧ decode cL_isRun 1 = .ok (.invokestatic 42, 3) ∧ decode cL_isRun 4 = .ok (.lstore_n 2, 1) ∧ decode cL_isRun 5 = .ok (.aload_n 0, 1) ∧ decode cL_isRun 6 = .ok (.invokevirtual 38, 3) ∧ decode cL_isRun 9 = .ok (.istore 4, 2) ∧ decode cL_isRun 11 = .ok (.aload_n 0, 1) ∧ decode cL_isRun 12 = .ok (.bipush 7, 2) ∧ decode cL_isRun 14 = .ok (.invokevirtual 19, 3) ∧ decode cL_isRun 17 = .ok (.istore 5, 2) ∧ decode cL_isRun 19 = .ok (.aload_n 0, 1) ∧ decode cL_isRun 20 = .ok (.bipush 8, 2) ∧ decode cL_isRun 22 = .ok (.invokevirtual 19, 3) ∧ decode cL_isRun 25 = .ok (.istore 6, 2) ∧ decode cL_isRun 27 = .ok (.aload_n 0, 1) ∧ decode cL_isRun 28 = .ok (.iconst 1, 1) ∧ decode cL_isRun 29 = .ok (.invokevirtual 19, 3) ∧ decode cL_isRun 32 = .ok (.istore 7, 2) ∧ decode cL_isRun 34 = .ok (.aload_n 0, 1) ∧ decode cL_isRun 35 = .ok (.iconst 1, 1) ∧ decode cL_isRun 36 = .ok (.invokevirtual 77, 3) ∧ decode cL_isRun 39 = .ok (.istore 8, 2) ∧ decode cL_isRun 41 = .ok (.iload 8, 2) ∧ decode cL_isRun 43 = .ok (.ifCond .lt 62, 3) ∧ decode cL_isRun 46 = .ok (.iload 8, 2) ∧ decode cL_isRun 48 = .ok (.iconst 2, 1) ∧ decode cL_isRun 49 = .ok (.if_icmp .ge 56, 3) ∧ decode cL_isRun 52 = .ok (.aload_n 0, 1) ∧ decode cL_isRun 53 = .ok (.bipush 7, 2) ∧ decode cL_isRun 55 = .ok (.invokevirtual 19, 3) ∧ decode cL_isRun 58 = .ok (.iload 5, 2) ∧ decode cL_isRun 60 = .ok (.iload 4, 2) ∧ decode cL_isRun 62 = .ok (.ifCond .le 7, 3) ∧ decode cL_isRun 65 = .ok (.iconst 1, 1) ∧ decode cL_isRun 66 = .ok (.goto 4, 3) ∧ decode cL_isRun 69 = .ok (.iconst 0, 1) ∧ decode cL_isRun 70 = .ok (.iadd, 1) ∧ decode cL_isRun 71 = .ok (.if_icmp .ne 34, 3) ∧ decode cL_isRun 74 = .ok (.aload_n 0, 1) ∧ decode cL_isRun 75 = .ok (.bipush 8, 2) ∧ True := dq_of (l := (0, .aload_n 0, 1) :: (1, .invokestatic 42, 3) :: (4, .lstore_n 2, 1) :: (5, .aload_n 0, 1) :: (6, .invokevirtual 38, 3) :: (9, .istore 4, 2) :: (11, .aload_n 0, 1) :: (12, .bipush 7, 2) :: (14, .invokevirtual 19, 3) :: (17, .istore 5, 2) :: (19, .aload_n 0, 1) :: (20, .bipush 8, 2) :: (22, .invokevirtual 19, 3) :: (25, .istore 6, 2) :: (27, .aload_n 0, 1) :: (28, .iconst 1, 1) :: (29, .invokevirtual 19, 3) :: (32, .istore 7, 2) :: (34, .aload_n 0, 1) :: (35, .iconst 1, 1) :: (36, .invokevirtual 77, 3) :: (39, .istore 8, 2) :: (41, .iload 8, 2) :: (43, .ifCond .lt 62, 3) :: (46, .iload 8, 2) :: (48, .iconst 2, 1) :: (49, .if_icmp .ge 56, 3) :: (52, .aload_n 0, 1) :: (53, .bipush 7, 2) :: (55, .invokevirtual 19, 3) :: (58, .iload 5, 2) :: (60, .iload 4, 2) :: (62, .ifCond .le 7, 3) :: (65, .iconst 1, 1) :: (66, .goto 4, 3) :: (69, .iconst 0, 1) :: (70, .iadd, 1) :: (71, .if_icmp .ne 34, 3) :: (74, .aload_n 0, 1) :: (75, .bipush 8, 2) :: []) (by decide +kernel)
theorem e_L_isRun_0 : decode cL_isRun 0 = .ok (.aload_n 0, 1) := D_L_isRun_0.1
theorem e_L_isRun_1 : decode cL_isRun 1 = .ok (.invokestatic 42, 3) := D_L_isRun_0.2.1
theorem e_L_isRun_4 : decode cL_isRun 4 = .ok (.lstore_n 2, 1) := D_L_isRun_0.2.2.1
theorem e_L_isRun_5 : decode cL_isRun 5 = .ok (.aload_n 0, 1) := D_L_isRun_0.2.2.2.1
theorem e_L_isRun_6 : decode cL_isRun 6 = .ok (.invokevirtual 38, 3) := D_L_isRun_0.2.2.2.2.1
theorem e_L_isRun_9 : decode cL_isRun 9 = .ok (.istore 4, 2) := D_L_isRun_0.2.2.2.2.2.1
theorem e_L_isRun_11 : decode cL_isRun 11 = .ok (.aload_n 0, 1) := D_L_isRun_0.2.2.2.2.2.2.1
theorem e_L_isRun_12 : decode cL_isRun 12 = .ok (.bipush 7, 2) := D_L_isRun_0.2.2.2.2.2.2.2.1
theorem e_L_isRun_14 : decode cL_isRun 14 = .ok (.invokevirtual 19, 3) := D_L_isRun_0.2.2.2.2.2.2.2.2.1
theorem e_L_isRun_17 : decode cL_isRun 17 = .ok (.istore 5, 2) := D_L_isRun_0.2.2.2.2.2.2.2.2.2.1
theorem e_L_isRun_19 : decode cL_isRun 19 = .ok (.aload_n 0, 1) := D_L_isRun_0.2.2.2.2.2.2.2.2.2.2.1
theorem e_L_isRun_20 : decode cL_isRun 20 = .ok (.bipush 8, 2) := D_L_isRun_0.2.2.2.2.2.2.2.2.2.2.2.1
theorem e_L_isRun_22 : decode cL_isRun 22 = .ok (.invokevirtual 19, 3) := D_L_isRun_0.2.2.2.2.2.2.2.2.2.2.2.2.1
theorem e_L_isRun_25 : decode cL_isRun 25 = .ok (.istore 6, 2) := D_L_isRun_0.2.2.2.2.2.2.2.2.2.2.2.2.2.1
theorem e_L_isRun_27 : decode cL_isRun 27 = .ok (.aload_n 0, 1) := D_L_isRun_0.2.2.2.2.2.2.2.2.2.2.2.2.2.2.1
theorem e_L_isRun_28 : decode cL_isRun 28 = .ok (.iconst 1, 1) := D_L_isRun_0.2.2.2.2.2.2.2.2.2.2.2.2.2.2.2.1
theorem e_L_isRun_29 : decode cL_isRun 29 = .ok (.invokevirtual 19, 3) := D_L_isRun_0.2.2.2.2.2.2.2.2.2.2.2.2.2.2.2.2.1
theorem e_L_isRun_32 : decode cL_isRun 32 = .ok (.istore 7, 2) := D_L_isRun_0.2.2.2.2.2.2.2.2.2.2.2.2.2.2.2.2.2.1
theorem e_L_isRun_34 : decode cL_isRun 34 = .ok (.aload_n 0, 1) := D_L_isRun_0.2.2.2.2.2.2.2.2.2.2.2.2.2.2.2.2.2.2.1
theorem e_L_isRun_35 : decode cL_isRun 35 = .ok (.iconst 1, 1) := D_L_isRun_0.2.2.2.2.2.2.2.2.2.2.2.2.2.2.2.2.2.2.2.1
theorem e_L_isRun_36 : decode cL_isRun 36 = .ok (.invokevirtual 77, 3) := D_L_isRun_0.2.2.2.2.2.2.2.2.2.2.2.2.2.2.2.2.2.2.2.2.1
theorem e_L_isRun_39 : decode cL_isRun 39 = .ok (.istore 8, 2) := D_L_isRun_0.2.2.2.2.2.2.2.2.2.2.2.2.2.2.2.2.2.2.2.2.2.1
theorem e_L_isRun_41 : decode cL_isRun 41 = .ok (.iload 8, 2) := D_L_isRun_0.2.2.2.2.2.2.2.2.2.2.2.2.2.2.2.2.2.2.2.2.2.2.1
theorem e_L_isRun_43 : decode cL_isRun 43 = .ok (.ifCond .lt 62, 3) := D_L_isRun_0.2.2.2.2.2.2.2.2.2.2.2.2.2.2.2.2.2.2.2.2.2.2.2.1
theorem e_L_isRun_46 : decode cL_isRun 46 = .ok (.iload 8, 2) := D_L_isRun_0.2.2.2.2.2.2.2.2.2.2.2.2.2.2.2.2.2.2.2.2.2.2.2.2.1
theorem e_L_isRun_48 : decode cL_isRun 48 = .ok (.iconst 2, 1) := D_L_isRun_0.2.2.2.2.2.2.2.2.2.2.2.2.2.2.2.2.2.2.2.2.2.2.2.2.2.1
theorem e_L_isRun_49 : decode cL_isRun 49 = .ok (.if_icmp .ge 56, 3) := D_L_isRun_0.2.2.2.2.2.2.2.2.2.2.2.2.2.2.2.2.2.2.2.2.2.2.2.2.2.2.1
theorem e_L_isRun_52 : decode cL_isRun 52 = .ok (.aload_n 0, 1) := D_L_isRun_0.2.2.2.2.2.2.2.2.2.2.2.2.2.2.2.2.2.2.2.2.2.2.2.2.2.2.2.1
theorem e_L_isRun_53 : decode cL_isRun 53 = .ok (.bipush 7, 2) := D_L_isRun_0.2.2.2.2.2.2.2.2.2.2.2.2.2.2.2.2.2.2.2.2.2.2.2.2.2.2.2.2.1
theorem e_L_isRun_55 : decode cL_isRun 55 = .ok (.invokevirtual 19, 3) := D_L_isRun_0.2.2.2.2.2.2.2.2.2.2.2.2.2.2.2.2.2.2.2.2.2.2.2.2.2.2.2.2.2.1
theorem e_L_isRun_58 : decode cL_isRun 58 = .ok (.iload 5, 2) := D_L_isRun_0.2.2.2.2.2.2.2.2.2.2.2.2.2.2.2.2.2.2.2.2.2.2.2.2.2.2.2.2.2.2.1
theorem e_L_isRun_60 : decode cL_isRun 60 = .ok (.iload 4, 2) := D_L_isRun_0.2.2.2.2.2.2.2.2.2.2.2.2.2.2.2.2.2.2.2.2.2.2.2.2.2.2.2.2.2.2.2.1
theorem e_L_isRun_62 : decode cL_isRun 62 = .ok (.ifCond .le 7, 3) := D_L_isRun_0.2.2.2.2.2.2.2.2.2.2.2.2.2.2.2.2.2.2.2.2.2.2.2.2.2.2.2.2.2.2.2.2.1
theorem e_L_isRun_65 : decode cL_isRun 65 = .ok (.iconst 1, 1) := D_L_isRun_0.2.2.2.2.2.2.2.2.2.2.2.2.2.2.2.2.2.2.2.2.2.2.2.2.2.2.2.2.2.2.2.2.2.1
theorem e_L_isRun_66 : decode cL_isRun 66 = .ok (.goto 4, 3) := D_L_isRun_0.2.2.2.2.2.2.2.2.2.2.2.2.2.2.2.2.2.2.2.2.2.2.2.2.2.2.2.2.2.2.2.2.2.2.1
theorem e_L_isRun_69 : decode cL_isRun 69 = .ok (.iconst 0, 1) := D_L_isRun_0.2.2.2.2.2.2.2.2.2.2.2.2.2.2.2.2.2.2.2.2.2.2.2.2.2.2.2.2.2.2.2.2.2.2.2.1
theorem e_L_isRun_70 : decode cL_isRun 70 = .ok (.iadd, 1) := D_L_isRun_0.2.2.2.2.2.2.2.2.2.2.2.2.2.2.2.2.2.2.2.2.2.2.2.2.2.2.2.2.2.2.2.2.2.2.2.2.1
theorem e_L_isRun_71 : decode cL_isRun 71 = .ok (.if_icmp .ne 34, 3) := D_L_isRun_0.2.2.2.2.2.2.2.2.2.2.2.2.2.2.2.2.2.2.2.2.2.2.2.2.2.2.2.2.2.2.2.2.2.2.2.2.2.1
theorem e_L_isRun_74 : decode cL_isRun 74 = .ok (.aload_n 0, 1) := D_L_isRun_0.2.2.2.2.2.2.2.2.2.2.2.2.2.2.2.2.2.2.2.2.2.2.2.2.2.2.2.2.2.2.2.2.2.2.2.2.2.2.1
theorem e_L_isRun_75 : decode cL_isRun 75 = .ok (.bipush 8, 2) := D_L_isRun_0.2.2.2.2.2.2.2.2.2.2.2.2.2.2.2.2.2.2.2.2.2.2.2.2.2.2.2.2.2.2.2.2.2.2.2.2.2.2.2.1
set_option maxRecDepth 100000 in
theorem D_L_isRun_1 : decode cL_isRun 77 = .ok (.invokevirtual 19, 3) ∧ decode cL_isRun 80 = .ok (.iload 6, 2) ∧ decode cL_isRun 82 = .ok (.iconst 1, 1) ∧ decode cL_isRun 83 = .ok (.iadd, 1) ∧ decode cL_isRun 84 = .ok (.if_icmp .ne 21, 3) ∧ decode cL_isRun 87 = .ok (.iload 4, 2) ∧ decode cL_isRun 89 = .ok (.ifCond .eq 12, 3) ∧ decode cL_isRun 92 = .ok (.aload_n 0, 1) ∧ decode cL_isRun 93 = .ok (.invokevirtual 38, 3) ∧ decode cL_isRun 96 = .ok (.iload 4, 2) ∧ decode cL_isRun 98 = .ok (.if_icmp .ne 7, 3) ∧ decode cL_isRun 101 = .ok (.iconst 1, 1) ∧ decode cL_isRun 102 = .ok (.goto 4, 3) ∧ decode cL_isRun 105 = .ok (.iconst 0, 1) ∧ decode cL_isRun 106 = .ok (.istore 9, 2) ∧ decode cL_isRun 108 = .ok (.iload 8, 2) ∧ decode cL_isRun 110 = .ok (.aload_n 0, 1) ∧ decode cL_isRun 111 = .ok (.iload_n 1, 1) ∧ decode cL_isRun 112 = .ok (.invokevirtual 77, 3) ∧ decode cL_isRun 115 = .ok (.iadd, 1) ∧ decode cL_isRun 116 = .ok (.istore 8, 2) ∧ decode cL_isRun 118 = .ok (.aload_n 0, 1) ∧ decode cL_isRun 119 = .ok (.invokestatic 42, 3) ∧ decode cL_isRun 122 = .ok (.lstore 10, 2) ∧ decode cL_isRun 124 = .ok (.iload 9, 2) ∧ decode cL_isRun 126 = .ok (.ifCond .eq 79, 3) ∧ decode cL_isRun 129 = .ok (.aload_n 0, 1) ∧ decode cL_isRun 130 = .ok (.iconst 1, 1) ∧ decode cL_isRun 131 = .ok (.invokevirtual 19, 3) ∧ decode cL_isRun 134 = .ok (.iload 7, 2) ∧ decode cL_isRun 136 = .ok (.iload 8, 2) ∧ decode cL_isRun 138 = .ok (.iadd, 1) ∧ decode cL_isRun 139 = .ok (.if_icmp .ne 66, 3) ∧ decode cL_isRun 142 = .ok (.aload_n 0, 1) ∧ decode cL_isRun 143 = .ok (.invokevirtual 89, 3) ∧ decode cL_isRun 146 = .ok (.ifCond .lt 59, 3) ∧ decode cL_isRun 149 = .ok (.aload_n 0, 1) ∧ decode cL_isRun 150 = .ok (.invokevirtual 89, 3) ∧ decode cL_isRun 153 = .ok (.ifCond .lt 52, 3) ∧ decode cL_isRun 156 = .ok (.aload_n 0, 1) ∧ True := dq_of (l := (77, .invokevirtual 19, 3) :: (80, .iload 6, 2) :: (82, .iconst 1, 1) :: (83, .iadd, 1) :: (84, .if_icmp .ne 21, 3) :: (87, .iload 4, 2) :: (89, .ifCond .eq 12, 3) :: (92, .aload_n 0, 1) :: (93, .invokevirtual 38, 3) :: (96, .iload 4, 2) :: (98, .if_icmp .ne 7, 3) :: (101, .iconst 1, 1) :: (102, .goto 4, 3) :: (105, .iconst 0, 1) :: (106, .istore 9, 2) :: (108, .iload 8, 2) :: (110, .aload_n 0, 1) :: (111, .iload_n 1, 1) :: (112, .invokevirtual 77, 3) :: (115, .iadd, 1) :: (116, .istore 8, 2) :: (118, .aload_n 0, 1) :: (119, .invokestatic 42, 3) :: (122, .lstore 10, 2) :: (124, .iload 9, 2) :: (126, .ifCond .eq 79, 3) :: (129, .aload_n 0, 1) :: (130, .iconst 1, 1) :: (131, .invokevirtual 19, 3) :: (134, .iload 7, 2) :: (136, .iload 8, 2) :: (138, .iadd, 1) :: (139, .if_icmp .ne 66, 3) :: (142, .aload_n 0, 1) :: (143, .invokevirtual 89, 3) :: (146, .ifCond .lt 59, 3) :: (149, .aload_n 0, 1) :: (150, .invokevirtual 89, 3) :: (153, .ifCond .lt 52, 3) :: (156, .aload_n 0, 1) :: []) (by decide +kernel)
theorem e_L_isRun_77 : decode cL_isRun 77 = .ok (.invokevirtual 19, 3) := D_L_isRun_1.1
theorem e_L_isRun_80 : decode cL_isRun 80 = .ok (.iload 6, 2) := D_L_isRun_1.2.1
theorem e_L_isRun_82 : decode cL_isRun 82 = .ok (.iconst 1, 1) := D_L_isRun_1.2.2.1
theorem e_L_isRun_83 : decode cL_isRun 83 = .ok (.iadd, 1) := D_L_isRun_1.2.2.2.1
theorem e_L_isRun_84 : decode cL_isRun 84 = .ok (.if_icmp .ne 21, 3) := D_L_isRun_1.2.2.2.2.1
theorem e_L_isRun_87 : decode cL_isRun 87 = .ok (.iload 4, 2) := D_L_isRun_1.2.2.2.2.2.1
theorem e_L_isRun_89 : decode cL_isRun 89 = .ok (.ifCond .eq 12, 3) := D_L_isRun_1.2.2.2.2.2.2.1
theorem e_L_isRun_92 : decode cL_isRun 92 = .ok (.aload_n 0, 1) := D_L_isRun_1.2.2.2.2.2.2.2.1
theorem e_L_isRun_93 : decode cL_isRun 93 = .ok (.invokevirtual 38, 3) := D_L_isRun_1.2.2.2.2.2.2.2.2.1
theorem e_L_isRun_96 : decode cL_isRun 96 = .ok (.iload 4, 2) := D_L_isRun_1.2.2.2.2.2.2.2.2.2.1
theorem e_L_isRun_98 : decode cL_isRun 98 = .ok (.if_icmp .ne 7, 3) := D_L_isRun_1.2.2.2.2.2.2.2.2.2.2.1
theorem e_L_isRun_101 : decode cL_isRun 101 = .ok (.iconst 1, 1) := D_L_isRun_1.2.2.2.2.2.2.2.2.2.2.2.1
theorem e_L_isRun_102 : decode cL_isRun 102 = .ok (.goto 4, 3) := D_L_isRun_1.2.2.2.2.2.2.2.2.2.2.2.2.1
theorem e_L_isRun_105 : decode cL_isRun 105 = .ok (.iconst 0, 1) := D_L_isRun_1.2.2.2.2.2.2.2.2.2.2.2.2.2.1
theorem e_L_isRun_106 : decode cL_isRun 106 = .ok (.istore 9, 2) := D_L_isRun_1.2.2.2.2.2.2.2.2.2.2.2.2.2.2.1
theorem e_L_isRun_108 : decode cL_isRun 108 = .ok (.iload 8, 2) := D_L_isRun_1.2.2.2.2.2.2.2.2.2.2.2.2.2.2.2.1
theorem e_L_isRun_110 : decode cL_isRun 110 = .ok (.aload_n 0, 1) := D_L_isRun_1.2.2.2.2.2.2.2.2.2.2.2.2.2.2.2.2.1
theorem e_L_isRun_111 : decode cL_isRun 111 = .ok (.iload_n 1, 1) := D_L_isRun_1.2.2.2.2.2.2.2.2.2.2.2.2.2.2.2.2.2.1
theorem e_L_isRun_112 : decode cL_isRun 112 = .ok (.invokevirtual 77, 3) := D_L_isRun_1.2.2.2.2.2.2.2.2.2.2.2.2.2.2.2.2.2.2.1
theorem e_L_isRun_115 : decode cL_isRun 115 = .ok (.iadd, 1) := D_L_isRun_1.2.2.2.2.2.2.2.2.2.2.2.2.2.2.2.2.2.2.2.1
theorem e_L_isRun_116 : decode cL_isRun 116 = .ok (.istore 8, 2) := D_L_isRun_1.2.2.2.2.2.2.2.2.2.2.2.2.2.2.2.2.2.2.2.2.1
theorem e_L_isRun_118 : decode cL_isRun 118 = .ok (.aload_n 0, 1) := D_L_isRun_1.2.2.2.2.2.2.2.2.2.2.2.2.2.2.2.2.2.2.2.2.2.1
theorem e_L_isRun_119 : decode cL_isRun 119 = .ok (.invokestatic 42, 3) := D_L_isRun_1.2.2.2.2.2.2.2.2.2.2.2.2.2.2.2.2.2.2.2.2.2.2.1
theorem e_L_isRun_122 : decode cL_isRun 122 = .ok (.lstore 10, 2) := D_L_isRun_1.2.2.2.2.2.2.2.2.2.2.2.2.2.2.2.2.2.2.2.2.2.2.2.1
theorem e_L_isRun_124 : decode cL_isRun 124 = .ok (.iload 9, 2) := D_L_isRun_1.2.2.2.2.2.2.2.2.2.2.2.2.2.2.2.2.2.2.2.2.2.2.2.2.1
theorem e_L_isRun_126 : decode cL_isRun 126 = .ok (.ifCond .eq 79, 3) := D_L_isRun_1.2.2.2.2.2.2.2.2.2.2.2.2.2.2.2.2.2.2.2.2.2.2.2.2.2.1
theorem e_L_isRun_129 : decode cL_isRun 129 = .ok (.aload_n 0, 1) := D_L_isRun_1.2.2.2.2.2.2.2.2.2.2.2.2.2.2.2.2.2.2.2.2.2.2.2.2.2.2.1
theorem e_L_isRun_130 : decode cL_isRun 130 = .ok (.iconst 1, 1) := D_L_isRun_1.2.2.2.2.2.2.2.2.2.2.2.2.2.2.2.2.2.2.2.2.2.2.2.2.2.2.2.1
theorem e_L_isRun_131 : decode cL_isRun 131 = .ok (.invokevirtual 19, 3) := D_L_isRun_1.2.2.2.2.2.2.2.2.2.2.2.2.2.2.2.2.2.2.2.2.2.2.2.2.2.2.2.2.1
theorem e_L_isRun_134 : decode cL_isRun 134 = .ok (.iload 7, 2) := D_L_isRun_1.2.2.2.2.2.2.2.2.2.2.2.2.2.2.2.2.2.2.2.2.2.2.2.2.2.2.2.2.2.1
theorem e_L_isRun_136 : decode cL_isRun 136 = .ok (.iload 8, 2) := D_L_isRun_1.2.2.2.2.2.2.2.2.2.2.2.2.2.2.2.2.2.2.2.2.2.2.2.2.2.2.2.2.2.2.1
theorem e_L_isRun_138 : decode cL_isRun 138 = .ok (.iadd, 1) := D_L_isRun_1.2.2.2.2.2.2.2.2.2.2.2.2.2.2.2.2.2.2.2.2.2.2.2.2.2.2.2.2.2.2.2.1
theorem e_L_isRun_139 : decode cL_isRun 139 = .ok (.if_icmp .ne 66, 3) := D_L_isRun_1.2.2.2.2.2.2.2.2.2.2.2.2.2.2.2.2.2.2.2.2.2.2.2.2.2.2.2.2.2.2.2.2.1
theorem e_L_isRun_142 : decode cL_isRun 142 = .ok (.aload_n 0, 1) := D_L_isRun_1.2.2.2.2.2.2.2.2.2.2.2.2.2.2.2.2.2.2.2.2.2.2.2.2.2.2.2.2.2.2.2.2.2.1
theorem e_L_isRun_143 : decode cL_isRun 143 = .ok (.invokevirtual 89, 3) := D_L_isRun_1.2.2.2.2.2.2.2.2.2.2.2.2.2.2.2.2.2.2.2.2.2.2.2.2.2.2.2.2.2.2.2.2.2.2.1
theorem e_L_isRun_146 : decode cL_isRun 146 = .ok (.ifCond .lt 59, 3) := D_L_isRun_1.2.2.2.2.2.2.2.2.2.2.2.2.2.2.2.2.2.2.2.2.2.2.2.2.2.2.2.2.2.2.2.2.2.2.2.1
theorem e_L_isRun_149 : decode cL_isRun 149 = .ok (.aload_n 0, 1) := D_L_isRun_1.2.2.2.2.2.2.2.2.2.2.2.2.2.2.2.2.2.2.2.2.2.2.2.2.2.2.2.2.2.2.2.2.2.2.2.2.1
theorem e_L_isRun_150 : decode cL_isRun 150 = .ok (.invokevirtual 89, 3) := D_L_isRun_1.2.2.2.2.2.2.2.2.2.2.2.2.2.2.2.2.2.2.2.2.2.2.2.2.2.2.2.2.2.2.2.2.2.2.2.2.2.1
theorem e_L_isRun_153 : decode cL_isRun 153 = .ok (.ifCond .lt 52, 3) := D_L_isRun_1.2.2.2.2.2.2.2.2.2.2.2.2.2.2.2.2.2.2.2.2.2.2.2.2.2.2.2.2.2.2.2.2.2.2.2.2.2.2.1
theorem e_L_isRun_156 : decode cL_isRun 156 = .ok (.aload_n 0, 1) := D_L_isRun_1.2.2.2.2.2.2.2.2.2.2.2.2.2.2.2.2.2.2.2.2.2.2.2.2.2.2.2.2.2.2.2.2.2.2.2.2.2.2.2.1
set_option maxRecDepth 100000 in
theorem D_L_isRun_2 : decode cL_isRun 157 = .ok (.invokestatic 42, 3) ∧ decode cL_isRun 160 = .ok (.lload_n 2, 1) ∧ decode cL_isRun 161 = .ok (.lcmp, 1) ∧ decode cL_isRun 162 = .ok (.ifCond .ne 43, 3) ∧ decode cL_isRun 165 = .ok (.aload_n 0, 1) ∧ decode cL_isRun 166 = .ok (.iload_n 1, 1) ∧ decode cL_isRun 167 = .ok (.iconst 1, 1) ∧ decode cL_isRun 168 = .ok (.iadd, 1) ∧ decode cL_isRun 169 = .ok (.invokevirtual 77, 3) ∧ decode cL_isRun 172 = .ok (.iload 8, 2) ∧ decode cL_isRun 174 = .ok (.if_icmp .ne 31, 3) ∧ decode cL_isRun 177 = .ok (.aload_n 0, 1) ∧ decode cL_isRun 178 = .ok (.invokestatic 42, 3) ∧ decode cL_isRun 181 = .ok (.lload 10, 2) ∧ decode cL_isRun 183 = .ok (.lcmp, 1) ∧ decode cL_isRun 184 = .ok (.ifCond .ne 21, 3) ∧ decode cL_isRun 187 = .ok (.aload_n 0, 1) ∧ decode cL_isRun 188 = .ok (.invokestatic 92, 3) ∧ decode cL_isRun 191 = .ok (.ifCond .eq 14, 3) ∧ decode cL_isRun 194 = .ok (.aload_n 0, 1) ∧ decode cL_isRun 195 = .ok (.invokestatic 96, 3) ∧ decode cL_isRun 198 = .ok (.ifCond .eq 7, 3) ∧ decode cL_isRun 201 = .ok (.iconst 1, 1) ∧ decode cL_isRun 202 = .ok (.goto 4, 3) ∧ decode cL_isRun 205 = .ok (.iconst 0, 1) ∧ decode cL_isRun 206 = .ok (.istore 9, 2) ∧ decode cL_isRun 208 = .ok (.iload 9, 2) ∧ decode cL_isRun 210 = .ok (.ifCond .eq 23, 3) ∧ decode cL_isRun 213 = .ok (.aload_n 0, 1) ∧ decode cL_isRun 214 = .ok (.invokevirtual 89, 3) ∧ decode cL_isRun 217 = .ok (.ifCond .lt 16, 3) ∧ decode cL_isRun 220 = .ok (.aload_n 0, 1) ∧ decode cL_isRun 221 = .ok (.invokestatic 42, 3) ∧ decode cL_isRun 224 = .ok (.lload_n 2, 1) ∧ decode cL_isRun 225 = .ok (.lcmp, 1) ∧ decode cL_isRun 226 = .ok (.ifCond .ne 7, 3) ∧ decode cL_isRun 229 = .ok (.iconst 1, 1) ∧ decode cL_isRun 230 = .ok (.goto 4, 3) ∧ decode cL_isRun 233 = .ok (.iconst 0, 1) ∧ decode cL_isRun 234 = .ok (.ireturn, 1) ∧ True := dq_of (l := (157, .invokestatic 42, 3) :: (160, .lload_n 2, 1) :: (161, .lcmp, 1) :: (162, .ifCond .ne 43, 3) :: (165, .aload_n 0, 1) :: (166, .iload_n 1, 1) :: (167, .iconst 1, 1) :: (168, .iadd, 1) :: (169, .invokevirtual 77, 3) :: (172, .iload 8, 2) :: (174, .if_icmp .ne 31, 3) :: (177, .aload_n 0, 1) :: (178, .invokestatic 42, 3) :: (181, .lload 10, 2) :: (183, .lcmp, 1) :: (184, .ifCond .ne 21, 3) :: (187, .aload_n 0, 1) :: (188, .invokestatic 92, 3) :: (191, .ifCond .eq 14, 3) :: (194, .aload_n 0, 1) :: (195, .invokestatic 96, 3) :: (198, .ifCond .eq 7, 3) :: (201, .iconst 1, 1) :: (202, .goto 4, 3) :: (205, .iconst 0, 1) :: (206, .istore 9, 2) :: (208, .iload 9, 2) :: (210, .ifCond .eq 23, 3) :: (213, .aload_n 0, 1) :: (214, .invokevirtual 89, 3) :: (217, .ifCond .lt 16, 3) :: (220, .aload_n 0, 1) :: (221, .invokestatic 42, 3) :: (224, .lload_n 2, 1) :: (225, .lcmp, 1) :: (226, .ifCond .ne 7, 3) :: (229, .iconst 1, 1) :: (230, .goto 4, 3) :: (233, .iconst 0, 1) :: (234, .ireturn, 1) :: []) (by decide +kernel)
theorem e_L_isRun_157 : decode cL_isRun 157 = .ok (.invokestatic 42, 3) := D_L_isRun_2.1
theorem e_L_isRun_160 : decode cL_isRun 160 = .ok (.lload_n 2, 1) := D_L_isRun_2.2.1
theorem e_L_isRun_161 : decode cL_isRun 161 = .ok (.lcmp, 1) := D_L_isRun_2.2.2.1
theorem e_L_isRun_162 : decode cL_isRun 162 = .ok (.ifCond .ne 43, 3) := D_L_isRun_2.2.2.2.1
theorem e_L_isRun_165 : decode cL_isRun 165 = .ok (.aload_n 0, 1) := D_L_isRun_2.2.2.2.2.1
theorem e_L_isRun_166 : decode cL_isRun 166 = .ok (.iload_n 1, 1) := D_L_isRun_2.2.2.2.2.2.1
theorem e_L_isRun_167 : decode cL_isRun 167 = .ok (.iconst 1, 1) := D_L_isRun_2.2.2.2.2.2.2.1
theorem e_L_isRun_168 : decode cL_isRun 168 = .ok (.iadd, 1) := D_L_isRun_2.2.2.2.2.2.2.2.1
theorem e_L_isRun_169 : decode cL_isRun 169 = .ok (.invokevirtual 77, 3) := D_L_isRun_2.2.2.2.2.2.2.2.2.1
theorem e_L_isRun_172 : decode cL_isRun 172 = .ok (.iload 8, 2) := D_L_isRun_2.2.2.2.2.2.2.2.2.2.1
theorem e_L_isRun_174 : decode cL_isRun 174 = .ok (.if_icmp .ne 31, 3) := D_L_isRun_2.2.2.2.2.2.2.2.2.2.2.1
theorem e_L_isRun_177 : decode cL_isRun 177 = .ok (.aload_n 0, 1) := D_L_isRun_2.2.2.2.2.2.2.2.2.2.2.2.1
theorem e_L_isRun_178 : decode cL_isRun 178 = .ok (.invokestatic 42, 3) := D_L_isRun_2.2.2.2.2.2.2.2.2.2.2.2.2.1
theorem e_L_isRun_181 : decode cL_isRun 181 = .ok (.lload 10, 2) := D_L_isRun_2.2.2.2.2.2.2.2.2.2.2.2.2.2.1
theorem e_L_isRun_183 : decode cL_isRun 183 = .ok (.lcmp, 1) := D_L_isRun_2.2.2.2.2.2.2.2.2.2.2.2.2.2.2.1
theorem e_L_isRun_184 : decode cL_isRun 184 = .ok (.ifCond .ne 21, 3) := D_L_isRun_2.2.2.2.2.2.2.2.2.2.2.2.2.2.2.2.1
theorem e_L_isRun_187 : decode cL_isRun 187 = .ok (.aload_n 0, 1) := D_L_isRun_2.2.2.2.2.2.2.2.2.2.2.2.2.2.2.2.2.1
theorem e_L_isRun_188 : decode cL_isRun 188 = .ok (.invokestatic 92, 3) := D_L_isRun_2.2.2.2.2.2.2.2.2.2.2.2.2.2.2.2.2.2.1
theorem e_L_isRun_191 : decode cL_isRun 191 = .ok (.ifCond .eq 14, 3) := D_L_isRun_2.2.2.2.2.2.2.2.2.2.2.2.2.2.2.2.2.2.2.1
theorem e_L_isRun_194 : decode cL_isRun 194 = .ok (.aload_n 0, 1) := D_L_isRun_2.2.2.2.2.2.2.2.2.2.2.2.2.2.2.2.2.2.2.2.1
theorem e_L_isRun_195 : decode cL_isRun 195 = .ok (.invokestatic 96, 3) := D_L_isRun_2.2.2.2.2.2.2.2.2.2.2.2.2.2.2.2.2.2.2.2.2.1
theorem e_L_isRun_198 : decode cL_isRun 198 = .ok (.ifCond .eq 7, 3) := D_L_isRun_2.2.2.2.2.2.2.2.2.2.2.2.2.2.2.2.2.2.2.2.2.2.1
theorem e_L_isRun_201 : decode cL_isRun 201 = .ok (.iconst 1, 1) := D_L_isRun_2.2.2.2.2.2.2.2.2.2.2.2.2.2.2.2.2.2.2.2.2.2.2.1
theorem e_L_isRun_202 : decode cL_isRun 202 = .ok (.goto 4, 3) := D_L_isRun_2.2.2.2.2.2.2.2.2.2.2.2.2.2.2.2.2.2.2.2.2.2.2.2.1
theorem e_L_isRun_205 : decode cL_isRun 205 = .ok (.iconst 0, 1) := D_L_isRun_2.2.2.2.2.2.2.2.2.2.2.2.2.2.2.2.2.2.2.2.2.2.2.2.2.1
theorem e_L_isRun_206 : decode cL_isRun 206 = .ok (.istore 9, 2) := D_L_isRun_2.2.2.2.2.2.2.2.2.2.2.2.2.2.2.2.2.2.2.2.2.2.2.2.2.2.1
theorem e_L_isRun_208 : decode cL_isRun 208 = .ok (.iload 9, 2) := D_L_isRun_2.2.2.2.2.2.2.2.2.2.2.2.2.2.2.2.2.2.2.2.2.2.2.2.2.2.2.1
theorem e_L_isRun_210 : decode cL_isRun 210 = .ok (.ifCond .eq 23, 3) := D_L_isRun_2.2.2.2.2.2.2.2.2.2.2.2.2.2.2.2.2.2.2.2.2.2.2.2.2.2.2.2.1
theorem e_L_isRun_213 : decode cL_isRun 213 = .ok (.aload_n 0, 1) := D_L_isRun_2.2.2.2.2.2.2.2.2.2.2.2.2.2.2.2.2.2.2.2.2.2.2.2.2.2.2.2.2.1
theorem e_L_isRun_214 : decode cL_isRun 214 = .ok (.invokevirtual 89, 3) := D_L_isRun_2.2.2.2.2.2.2.2.2.2.2.2.2.2.2.2.2.2.2.2.2.2.2.2.2.2.2.2.2.2.1
theorem e_L_isRun_217 : decode cL_isRun 217 = .ok (.ifCond .lt 16, 3) := D_L_isRun_2.2.2.2.2.2.2.2.2.2.2.2.2.2.2.2.2.2.2.2.2.2.2.2.2.2.2.2.2.2.2.1
theorem e_L_isRun_220 : decode cL_isRun 220 = .ok (.aload_n 0, 1) := D_L_isRun_2.2.2.2.2.2.2.2.2.2.2.2.2.2.2.2.2.2.2.2.2.2.2.2.2.2.2.2.2.2.2.2.1
theorem e_L_isRun_221 : decode cL_isRun 221 = .ok (.invokestatic 42, 3) := D_L_isRun_2.2.2.2.2.2.2.2.2.2.2.2.2.2.2.2.2.2.2.2.2.2.2.2.2.2.2.2.2.2.2.2.2.1
theorem e_L_isRun_224 : decode cL_isRun 224 = .ok (.lload_n 2, 1) := D_L_isRun_2.2.2.2.2.2.2.2.2.2.2.2.2.2.2.2.2.2.2.2.2.2.2.2.2.2.2.2.2.2.2.2.2.2.1
theorem e_L_isRun_225 : decode cL_isRun 225 = .ok (.lcmp, 1) := D_L_isRun_2.2.2.2.2.2.2.2.2.2.2.2.2.2.2.2.2.2.2.2.2.2.2.2.2.2.2.2.2.2.2.2.2.2.2.1
theorem e_L_isRun_226 : decode cL_isRun 226 = .ok (.ifCond .ne 7, 3) := D_L_isRun_2.2.2.2.2.2.2.2.2.2.2.2.2.2.2.2.2.2.2.2.2.2.2.2.2.2.2.2.2.2.2.2.2.2.2.2.1
theorem e_L_isRun_229 : decode cL_isRun 229 = .ok (.iconst 1, 1) := D_L_isRun_2.2.2.2.2.2.2.2.2.2.2.2.2.2.2.2.2.2.2.2.2.2.2.2.2.2.2.2.2.2.2.2.2.2.2.2.2.1
theorem e_L_isRun_230 : decode cL_isRun 230 = .ok (.goto 4, 3) := D_L_isRun_2.2.2.2.2.2.2.2.2.2.2.2.2.2.2.2.2.2.2.2.2.2.2.2.2.2.2.2.2.2.2.2.2.2.2.2.2.2.1
theorem e_L_isRun_233 : decode cL_isRun 233 = .ok (.iconst 0, 1) := D_L_isRun_2.2.2.2.2.2.2.2.2.2.2.2.2.2.2.2.2.2.2.2.2.2.2.2.2.2.2.2.2.2.2.2.2.2.2.2.2.2.2.1
theorem e_L_isRun_234 : decode cL_isRun 234 = .ok (.ireturn, 1) := D_L_isRun_2.2.2.2.2.2.2.2.2.2.2.2.2.2.2.2.2.2.2.2.2.2.2.2.2.2.2.2.2.2.2.2.2.2.2.2.2.2.2.2.1
set_option maxRecDepth 100000 in
theorem D_L_isFinished_0 : decode cL_isFinished 0 = .ok (.aload_n 0, 1) ∧ decode cL_isFinished 1 = .ok (.invokestatic 42, 3) ∧ decode cL_isFinished 4 = .ok (.lstore_n 2, 1) ∧ decode cL_isFinished 5 = .ok (.aload_n 0, 1) ∧ decode cL_isFinished 6 = .ok (.iload_n 1, 1) ∧ decode cL_isFinished 7 = .ok (.invokevirtual 80, 3) ∧ decode cL_isFinished 10 = .ok (.istore 4, 2) ∧ decode cL_isFinished 12 = .ok (.aload_n 0, 1) ∧ decode cL_isFinished 13 = .ok (.invokestatic 42, 3) ∧ decode cL_isFinished 16 = .ok (.lload_n 2, 1) ∧ decode cL_isFinished 17 = .ok (.lcmp, 1) ∧ decode cL_isFinished 18 = .ok (.ifCond .ne 27, 3) ∧ decode cL_isFinished 21 = .ok (.iload 4, 2) ∧ decode cL_isFinished 23 = .ok (.bipush (-4), 2) ∧ decode cL_isFinished 25 = .ok (.if_icmp .eq 16, 3) ∧ decode cL_isFinished 28 = .ok (.iload 4, 2) ∧ decode cL_isFinished 30 = .ok (.ifCond .le 15, 3) ∧ decode cL_isFinished 33 = .ok (.iload 4, 2) ∧ decode cL_isFinished 35 = .ok (.sipush 20000, 3) ∧ decode cL_isFinished 38 = .ok (.if_icmp .gt 7, 3) ∧ decode cL_isFinished 41 = .ok (.iconst 1, 1) ∧ decode cL_isFinished 42 = .ok (.goto 4, 3) ∧ decode cL_isFinished 45 = .ok (.iconst 0, 1) ∧ decode cL_isFinished 46 = .ok (.istore 5, 2) ∧ decode cL_isFinished 48 = .ok (.iload 5, 2) ∧ decode cL_isFinished 50 = .ok (.ifCond .eq 97, 3) ∧ decode cL_isFinished 53 = .ok (.iload 4, 2) ∧ decode cL_isFinished 55 = .ok (.iconst 1, 1) ∧ decode cL_isFinished 56 = .ok (.if_icmp .le 91, 3) ∧ decode cL_isFinished 59 = .ok (.iload 4, 2) ∧ decode cL_isFinished 61 = .ok (.sipush 5000, 3) ∧ decode cL_isFinished 64 = .ok (.if_icmp .gt 83, 3) ∧ decode cL_isFinished 67 = .ok (.aload_n 0, 1) ∧ decode cL_isFinished 68 = .ok (.iconst 5, 1) ∧ decode cL_isFinished 69 = .ok (.invokevirtual 19, 3) ∧ decode cL_isFinished 72 = .ok (.istore 6, 2) ∧ decode cL_isFinished 74 = .ok (.aload_n 0, 1) ∧ decode cL_isFinished 75 = .ok (.iload 4, 2) ∧ decode cL_isFinished 77 = .ok (.iconst 1, 1) ∧ decode cL_isFinished 78 = .ok (.isub, 1) ∧ True := dq_of (l := (0, .aload_n 0, 1) :: (1, .invokestatic 42, 3) :: (4, .lstore_n 2, 1) :: (5, .aload_n 0, 1) :: (6, .iload_n 1, 1) :: (7, .invokevirtual 80, 3) :: (10, .istore 4, 2) :: (12, .aload_n 0, 1) :: (13, .invokestatic 42, 3) :: (16, .lload_n 2, 1) :: (17, .lcmp, 1) :: (18, .ifCond .ne 27, 3) :: (21, .iload 4, 2) :: (23, .bipush (-4), 2) :: (25, .if_icmp .eq 16, 3) :: (28, .iload 4, 2) :: (30, .ifCond .le 15, 3) :: (33, .iload 4, 2) :: (35, .sipush 20000, 3) :: (38, .if_icmp .gt 7, 3) :: (41, .iconst 1, 1) :: (42, .goto 4, 3) :: (45, .iconst 0, 1) :: (46, .istore 5, 2) :: (48, .iload 5, 2) :: (50, .ifCond .eq 97, 3) :: (53, .iload 4, 2) :: (55, .iconst 1, 1) :: (56, .if_icmp .le 91, 3) :: (59, .iload 4, 2) :: (61, .sipush 5000, 3) :: (64, .if_icmp .gt 83, 3) :: (67, .aload_n 0, 1) :: (68, .iconst 5, 1) :: (69, .invokevirtual 19, 3) :: (72, .istore 6, 2) :: (74, .aload_n 0, 1) :: (75, .iload 4, 2) :: (77, .iconst 1, 1) :: (78, .isub, 1) :: []) (by decide +kernel)
theorem e_L_isFinished_0 : decode cL_isFinished 0 = .ok (.aload_n 0, 1) := D_L_isFinished_0.1
theorem e_L_isFinished_1 : decode cL_isFinished 1 = .ok (.invokestatic 42, 3) := D_L_isFinished_0.2.1
theorem e_L_isFinished_4 : decode cL_isFinished 4 = .ok (.lstore_n 2, 1) := D_L_isFinished_0.2.2.1
theorem e_L_isFinished_5 : decode cL_isFinished 5 = .ok (.aload_n 0, 1) := D_L_isFinished_0.2.2.2.1
theorem e_L_isFinished_6 : decode cL_isFinished 6 = .ok (.iload_n 1, 1) := D_L_isFinished_0.2.2.2.2.1
theorem e_L_isFinished_7 : decode cL_isFinished 7 = .ok (.invokevirtual 80, 3) := D_L_isFinished_0.2.2.2.2.2.1
theorem e_L_isFinished_10 : decode cL_isFinished 10 = .ok (.istore 4, 2) := D_L_isFinished_0.2.2.2.2.2.2.1
theorem e_L_isFinished_12 : decode cL_isFinished 12 = .ok (.aload_n 0, 1) := D_L_isFinished_0.2.2.2.2.2.2.2.1
theorem e_L_isFinished_13 : decode cL_isFinished 13 = .ok (.invokestatic 42, 3) := D_L_isFinished_0.2.2.2.2.2.2.2.2.1
theorem e_L_isFinished_16 : decode cL_isFinished 16 = .ok (.lload_n 2, 1) := D_L_isFinished_0.2.2.2.2.2.2.2.2.2.1
theorem e_L_isFinished_17 : decode cL_isFinished 17 = .ok (.lcmp, 1) := D_L_isFinished_0.2.2.2.2.2.2.2.2.2.2.1
theorem e_L_isFinished_18 : decode cL_isFinished 18 = .ok (.ifCond .ne 27, 3) := D_L_isFinished_0.2.2.2.2.2.2.2.2.2.2.2.1
theorem e_L_isFinished_21 : decode cL_isFinished 21 = .ok (.iload 4, 2) := D_L_isFinished_0.2.2.2.2.2.2.2.2.2.2.2.2.1
theorem e_L_isFinished_23 : decode cL_isFinished 23 = .ok (.bipush (-4), 2) := D_L_isFinished_0.2.2.2.2.2.2.2.2.2.2.2.2.2.1
theorem e_L_isFinished_25 : decode cL_isFinished 25 = .ok (.if_icmp .eq 16, 3) := D_L_isFinished_0.2.2.2.2.2.2.2.2.2.2.2.2.2.2.1
theorem e_L_isFinished_28 : decode cL_isFinished 28 = .ok (.iload 4, 2) := D_L_isFinished_0.2.2.2.2.2.2.2.2.2.2.2.2.2.2.2.1
theorem e_L_isFinished_30 : decode cL_isFinished 30 = .ok (.ifCond .le 15, 3) := D_L_isFinished_0.2.2.2.2.2.2.2.2.2.2.2.2.2.2.2.2.1
theorem e_L_isFinished_33 : decode cL_isFinished 33 = .ok (.iload 4, 2) := D_L_isFinished_0.2.2.2.2.2.2.2.2.2.2.2.2.2.2.2.2.2.1
theorem e_L_isFinished_35 : decode cL_isFinished 35 = .ok (.sipush 20000, 3) := D_L_isFinished_0.2.2.2.2.2.2.2.2.2.2.2.2.2.2.2.2.2.2.1
theorem e_L_isFinished_38 : decode cL_isFinished 38 = .ok (.if_icmp .gt 7, 3) := D_L_isFinished_0.2.2.2.2.2.2.2.2.2.2.2.2.2.2.2.2.2.2.2.1
theorem e_L_isFinished_41 : decode cL_isFinished 41 = .ok (.iconst 1, 1) := D_L_isFinished_0.2.2.2.2.2.2.2.2.2.2.2.2.2.2.2.2.2.2.2.2.1
theorem e_L_isFinished_42 : decode cL_isFinished 42 = .ok (.goto 4, 3) := D_L_isFinished_0.2.2.2.2.2.2.2.2.2.2.2.2.2.2.2.2.2.2.2.2.2.1
theorem e_L_isFinished_45 : decode cL_isFinished 45 = .ok (.iconst 0, 1) := D_L_isFinished_0.2.2.2.2.2.2.2.2.2.2.2.2.2.2.2.2.2.2.2.2.2.2.1
theorem e_L_isFinished_46 : decode cL_isFinished 46 = .ok (.istore 5, 2) := D_L_isFinished_0.2.2.2.2.2.2.2.2.2.2.2.2.2.2.2.2.2.2.2.2.2.2.2.1
theorem e_L_isFinished_48 : decode cL_isFinished 48 = .ok (.iload 5, 2) := D_L_isFinished_0.2.2.2.2.2.2.2.2.2.2.2.2.2.2.2.2.2.2.2.2.2.2.2.2.1
theorem e_L_isFinished_50 : decode cL_isFinished 50 = .ok (.ifCond .eq 97, 3) := D_L_isFinished_0.2.2.2.2.2.2.2.2.2.2.2.2.2.2.2.2.2.2.2.2.2.2.2.2.2.1
theorem e_L_isFinished_53 : decode cL_isFinished 53 = .ok (.iload 4, 2) := D_L_isFinished_0.2.2.2.2.2.2.2.2.2.2.2.2.2.2.2.2.2.2.2.2.2.2.2.2.2.2.1
theorem e_L_isFinished_55 : decode cL_isFinished 55 = .ok (.iconst 1, 1) := D_L_isFinished_0.2.2.2.2.2.2.2.2.2.2.2.2.2.2.2.2.2.2.2.2.2.2.2.2.2.2.2.1
theorem e_L_isFinished_56 : decode cL_isFinished 56 = .ok (.if_icmp .le 91, 3) := D_L_isFinished_0.2.2.2.2.2.2.2.2.2.2.2.2.2.2.2.2.2.2.2.2.2.2.2.2.2.2.2.2.1
theorem e_L_isFinished_59 : decode cL_isFinished 59 = .ok (.iload 4, 2) := D_L_isFinished_0.2.2.2.2.2.2.2.2.2.2.2.2.2.2.2.2.2.2.2.2.2.2.2.2.2.2.2.2.2.1
theorem e_L_isFinished_61 : decode cL_isFinished 61 = .ok (.sipush 5000, 3) := D_L_isFinished_0.2.2.2.2.2.2.2.2.2.2.2.2.2.2.2.2.2.2.2.2.2.2.2.2.2.2.2.2.2.2.1
theorem e_L_isFinished_64 : decode cL_isFinished 64 = .ok (.if_icmp .gt 83, 3) := D_L_isFinished_0.2.2.2.2.2.2.2.2.2.2.2.2.2.2.2.2.2.2.2.2.2.2.2.2.2.2.2.2.2.2.2.1
theorem e_L_isFinished_67 : decode cL_isFinished 67 = .ok (.aload_n 0, 1) := D_L_isFinished_0.2.2.2.2.2.2.2.2.2.2.2.2.2.2.2.2.2.2.2.2.2.2.2.2.2.2.2.2.2.2.2.2.1
theorem e_L_isFinished_68 : decode cL_isFinished 68 = .ok (.iconst 5, 1) := D_L_isFinished_0.2.2.2.2.2.2.2.2.2.2.2.2.2.2.2.2.2.2.2.2.2.2.2.2.2.2.2.2.2.2.2.2.2.1
theorem e_L_isFinished_69 : decode cL_isFinished 69 = .ok (.invokevirtual 19, 3) := D_L_isFinished_0.2.2.2.2.2.2.2.2.2.2.2.2.2.2.2.2.2.2.2.2.2.2.2.2.2.2.2.2.2.2.2.2.2.2.1
theorem e_L_isFinished_72 : decode cL_isFinished 72 = .ok (.istore 6, 2) := D_L_isFinished_0.2.2.2.2.2.2.2.2.2.2.2.2.2.2.2.2.2.2.2.2.2.2.2.2.2.2.2.2.2.2.2.2.2.2.2.1
theorem e_L_isFinished_74 : decode cL_isFinished 74 = .ok (.aload_n 0, 1) := D_L_isFinished_0.2.2.2.2.2.2.2.2.2.2.2.2.2.2.2.2.2.2.2.2.2.2.2.2.2.2.2.2.2.2.2.2.2.2.2.2.1
theorem e_L_isFinished_75 : decode cL_isFinished 75 = .ok (.iload 4, 2) := D_L_isFinished_0.2.2.2.2.2.2.2.2.2.2.2.2.2.2.2.2.2.2.2.2.2.2.2.2.2.2.2.2.2.2.2.2.2.2.2.2.2.1
theorem e_L_isFinished_77 : decode cL_isFinished 77 = .ok (.iconst 1, 1) := D_L_isFinished_0.2.2.2.2.2.2.2.2.2.2.2.2.2.2.2.2.2.2.2.2.2.2.2.2.2.2.2.2.2.2.2.2.2.2.2.2.2.2.1
theorem e_L_isFinished_78 : decode cL_isFinished 78 = .ok (.isub, 1) := D_L_isFinished_0.2.2.2.2.2.2.2.2.2.2.2.2.2.2.2.2.2.2.2.2.2.2.2.2.2.2.2.2.2.2.2.2.2.2.2.2.2.2.2.1
set_option maxRecDepth 100000 in
theorem D_L_isFinished_1 : decode cL_isFinished 79 = .ok (.invokevirtual 77, 3) ∧ decode cL_isFinished 82 = .ok (.ifCond .lt 59, 3) ∧ decode cL_isFinished 85 = .ok (.aload_n 0, 1) ∧ decode cL_isFinished 86 = .ok (.iload_n 1, 1) ∧ decode cL_isFinished 87 = .ok (.iconst 0, 1) ∧ decode cL_isFinished 88 = .ok (.invokevirtual 25, 3) ∧ decode cL_isFinished 91 = .ok (.ifCond .le 50, 3) ∧ decode cL_isFinished 94 = .ok (.aload_n 0, 1) ∧ decode cL_isFinished 95 = .ok (.iconst 1, 1) ∧ decode cL_isFinished 96 = .ok (.invokevirtual 77, 3) ∧ decode cL_isFinished 99 = .ok (.ifCond .lt 42, 3) ∧ decode cL_isFinished 102 = .ok (.aload_n 0, 1) ∧ decode cL_isFinished 103 = .ok (.iload_n 1, 1) ∧ decode cL_isFinished 104 = .ok (.iconst 0, 1) ∧ decode cL_isFinished 105 = .ok (.invokevirtual 25, 3) ∧ decode cL_isFinished 108 = .ok (.bipush (-4), 2) ∧ decode cL_isFinished 110 = .ok (.if_icmp .ne 31, 3) ∧ decode cL_isFinished 113 = .ok (.aload_n 0, 1) ∧ decode cL_isFinished 114 = .ok (.iconst 5, 1) ∧ decode cL_isFinished 115 = .ok (.invokevirtual 19, 3) ∧ decode cL_isFinished 118 = .ok (.iload 6, 2) ∧ decode cL_isFinished 120 = .ok (.if_icmp .le 21, 3) ∧ decode cL_isFinished 123 = .ok (.aload_n 0, 1) ∧ decode cL_isFinished 124 = .ok (.invokevirtual 89, 3) ∧ decode cL_isFinished 127 = .ok (.ifCond .lt 14, 3) ∧ decode cL_isFinished 130 = .ok (.aload_n 0, 1) ∧ decode cL_isFinished 131 = .ok (.invokevirtual 89, 3) ∧ decode cL_isFinished 134 = .ok (.ifCond .lt 7, 3) ∧ decode cL_isFinished 137 = .ok (.iconst 1, 1) ∧ decode cL_isFinished 138 = .ok (.goto 4, 3) ∧ decode cL_isFinished 141 = .ok (.iconst 0, 1) ∧ decode cL_isFinished 142 = .ok (.istore 5, 2) ∧ decode cL_isFinished 144 = .ok (.goto 48, 3) ∧ decode cL_isFinished 147 = .ok (.iload 5, 2) ∧ decode cL_isFinished 149 = .ok (.ifCond .eq 43, 3) ∧ decode cL_isFinished 152 = .ok (.iload 4, 2) ∧ decode cL_isFinished 154 = .ok (.bipush (-4), 2) ∧ decode cL_isFinished 156 = .ok (.if_icmp .ne 36, 3) ∧ decode cL_isFinished 159 = .ok (.aload_n 0, 1) ∧ decode cL_isFinished 160 = .ok (.sipush 2000, 3) ∧ True := dq_of (l := (79, .invokevirtual 77, 3) :: (82, .ifCond .lt 59, 3) :: (85, .aload_n 0, 1) :: (86, .iload_n 1, 1) :: (87, .iconst 0, 1) :: (88, .invokevirtual 25, 3) :: (91, .ifCond .le 50, 3) :: (94, .aload_n 0, 1) :: (95, .iconst 1, 1) :: (96, .invokevirtual 77, 3) :: (99, .ifCond .lt 42, 3) :: (102, .aload_n 0, 1) :: (103, .iload_n 1, 1) :: (104, .iconst 0, 1) :: (105, .invokevirtual 25, 3) :: (108, .bipush (-4), 2) :: (110, .if_icmp .ne 31, 3) :: (113, .aload_n 0, 1) :: (114, .iconst 5, 1) :: (115, .invokevirtual 19, 3) :: (118, .iload 6, 2) :: (120, .if_icmp .le 21, 3) :: (123, .aload_n 0, 1) :: (124, .invokevirtual 89, 3) :: (127, .ifCond .lt 14, 3) :: (130, .aload_n 0, 1) :: (131, .invokevirtual 89, 3) :: (134, .ifCond .lt 7, 3) :: (137, .iconst 1, 1) :: (138, .goto 4, 3) :: (141, .iconst 0, 1) :: (142, .istore 5, 2) :: (144, .goto 48, 3) :: (147, .iload 5, 2) :: (149, .ifCond .eq 43, 3) :: (152, .iload 4, 2) :: (154, .bipush (-4), 2) :: (156, .if_icmp .ne 36, 3) :: (159, .aload_n 0, 1) :: (160, .sipush 2000, 3) :: []) (by decide +kernel)
theorem e_L_isFinished_79 : decode cL_isFinished 79 = .ok (.invokevirtual 77, 3) := D_L_isFinished_1.1
theorem e_L_isFinished_82 : decode cL_isFinished 82 = .ok (.ifCond .lt 59, 3) := D_L_isFinished_1.2.1
theorem e_L_isFinished_85 : decode cL_isFinished 85 = .ok (.aload_n 0, 1) := D_L_isFinished_1.2.2.1
theorem e_L_isFinished_86 : decode cL_isFinished 86 = .ok (.iload_n 1, 1) := D_L_isFinished_1.2.2.2.1
theorem e_L_isFinished_87 : decode cL_isFinished 87 = .ok (.iconst 0, 1) := D_L_isFinished_1.2.2.2.2.1
theorem e_L_isFinished_88 : decode cL_isFinished 88 = .ok (.invokevirtual 25, 3) := D_L_isFinished_1.2.2.2.2.2.1
theorem e_L_isFinished_91 : decode cL_isFinished 91 = .ok (.ifCond .le 50, 3) := D_L_isFinished_1.2.2.2.2.2.2.1
theorem e_L_isFinished_94 : decode cL_isFinished 94 = .ok (.aload_n 0, 1) := D_L_isFinished_1.2.2.2.2.2.2.2.1
theorem e_L_isFinished_95 : decode cL_isFinished 95 = .ok (.iconst 1, 1) := D_L_isFinished_1.2.2.2.2.2.2.2.2.1
theorem e_L_isFinished_96 : decode cL_isFinished 96 = .ok (.invokevirtual 77, 3) := D_L_isFinished_1.2.2.2.2.2.2.2.2.2.1
theorem e_L_isFinished_99 : decode cL_isFinished 99 = .ok (.ifCond .lt 42, 3) := D_L_isFinished_1.2.2.2.2.2.2.2.2.2.2.1
theorem e_L_isFinished_102 : decode cL_isFinished 102 = .ok (.aload_n 0, 1) := D_L_isFinished_1.2.2.2.2.2.2.2.2.2.2.2.1
theorem e_L_isFinished_103 : decode cL_isFinished 103 = .ok (.iload_n 1, 1) := D_L_isFinished_1.2.2.2.2.2.2.2.2.2.2.2.2.1
theorem e_L_isFinished_104 : decode cL_isFinished 104 = .ok (.iconst 0, 1) := D_L_isFinished_1.2.2.2.2.2.2.2.2.2.2.2.2.2.1
theorem e_L_isFinished_105 : decode cL_isFinished 105 = .ok (.invokevirtual 25, 3) := D_L_isFinished_1.2.2.2.2.2.2.2.2.2.2.2.2.2.2.1
theorem e_L_isFinished_108 : decode cL_isFinished 108 = .ok (.bipush (-4), 2) := D_L_isFinished_1.2.2.2.2.2.2.2.2.2.2.2.2.2.2.2.1
theorem e_L_isFinished_110 : decode cL_isFinished 110 = .ok (.if_icmp .ne 31, 3) := D_L_isFinished_1.2.2.2.2.2.2.2.2.2.2.2.2.2.2.2.2.1
theorem e_L_isFinished_113 : decode cL_isFinished 113 = .ok (.aload_n 0, 1) := D_L_isFinished_1.2.2.2.2.2.2.2.2.2.2.2.2.2.2.2.2.2.1
theorem e_L_isFinished_114 : decode cL_isFinished 114 = .ok (.iconst 5, 1) := D_L_isFinished_1.2.2.2.2.2.2.2.2.2.2.2.2.2.2.2.2.2.2.1
theorem e_L_isFinished_115 : decode cL_isFinished 115 = .ok (.invokevirtual 19, 3) := D_L_isFinished_1.2.2.2.2.2.2.2.2.2.2.2.2.2.2.2.2.2.2.2.1
theorem e_L_isFinished_118 : decode cL_isFinished 118 = .ok (.iload 6, 2) := D_L_isFinished_1.2.2.2.2.2.2.2.2.2.2.2.2.2.2.2.2.2.2.2.2.1
theorem e_L_isFinished_120 : decode cL_isFinished 120 = .ok (.if_icmp .le 21, 3) := D_L_isFinished_1.2.2.2.2.2.2.2.2.2.2.2.2.2.2.2.2.2.2.2.2.2.1
theorem e_L_isFinished_123 : decode cL_isFinished 123 = .ok (.aload_n 0, 1) := D_L_isFinished_1.2.2.2.2.2.2.2.2.2.2.2.2.2.2.2.2.2.2.2.2.2.2.1
theorem e_L_isFinished_124 : decode cL_isFinished 124 = .ok (.invokevirtual 89, 3) := D_L_isFinished_1.2.2.2.2.2.2.2.2.2.2.2.2.2.2.2.2.2.2.2.2.2.2.2.1
theorem e_L_isFinished_127 : decode cL_isFinished 127 = .ok (.ifCond .lt 14, 3) := D_L_isFinished_1.2.2.2.2.2.2.2.2.2.2.2.2.2.2.2.2.2.2.2.2.2.2.2.2.1
theorem e_L_isFinished_130 : decode cL_isFinished 130 = .ok (.aload_n 0, 1) := D_L_isFinished_1.2.2.2.2.2.2.2.2.2.2.2.2.2.2.2.2.2.2.2.2.2.2.2.2.2.1
theorem e_L_isFinished_131 : decode cL_isFinished 131 = .ok (.invokevirtual 89, 3) := D_L_isFinished_1.2.2.2.2.2.2.2.2.2.2.2.2.2.2.2.2.2.2.2.2.2.2.2.2.2.2.1
theorem e_L_isFinished_134 : decode cL_isFinished 134 = .ok (.ifCond .lt 7, 3) := D_L_isFinished_1.2.2.2.2.2.2.2.2.2.2.2.2.2.2.2.2.2.2.2.2.2.2.2.2.2.2.2.1
theorem e_L_isFinished_137 : decode cL_isFinished 137 = .ok (.iconst 1, 1) := D_L_isFinished_1.2.2.2.2.2.2.2.2.2.2.2.2.2.2.2.2.2.2.2.2.2.2.2.2.2.2.2.2.1
theorem e_L_isFinished_138 : decode cL_isFinished 138 = .ok (.goto 4, 3) := D_L_isFinished_1.2.2.2.2.2.2.2.2.2.2.2.2.2.2.2.2.2.2.2.2.2.2.2.2.2.2.2.2.2.1
theorem e_L_isFinished_141 : decode cL_isFinished 141 = .ok (.iconst 0, 1) := D_L_isFinished_1.2.2.2.2.2.2.2.2.2.2.2.2.2.2.2.2.2.2.2.2.2.2.2.2.2.2.2.2.2.2.1
theorem e_L_isFinished_142 : decode cL_isFinished 142 = .ok (.istore 5, 2) := D_L_isFinished_1.2.2.2.2.2.2.2.2.2.2.2.2.2.2.2.2.2.2.2.2.2.2.2.2.2.2.2.2.2.2.2.1
theorem e_L_isFinished_144 : decode cL_isFinished 144 = .ok (.goto 48, 3) := D_L_isFinished_1.2.2.2.2.2.2.2.2.2.2.2.2.2.2.2.2.2.2.2.2.2.2.2.2.2.2.2.2.2.2.2.2.1
theorem e_L_isFinished_147 : decode cL_isFinished 147 = .ok (.iload 5, 2) := D_L_isFinished_1.2.2.2.2.2.2.2.2.2.2.2.2.2.2.2.2.2.2.2.2.2.2.2.2.2.2.2.2.2.2.2.2.2.1
theorem e_L_isFinished_149 : decode cL_isFinished 149 = .ok (.ifCond .eq 43, 3) := D_L_isFinished_1.2.2.2.2.2.2.2.2.2.2.2.2.2.2.2.2.2.2.2.2.2.2.2.2.2.2.2.2.2.2.2.2.2.2.1
theorem e_L_isFinished_152 : decode cL_isFinished 152 = .ok (.iload 4, 2) := D_L_isFinished_1.2.2.2.2.2.2.2.2.2.2.2.2.2.2.2.2.2.2.2.2.2.2.2.2.2.2.2.2.2.2.2.2.2.2.2.1
theorem e_L_isFinished_154 : decode cL_isFinished 154 = .ok (.bipush (-4), 2) := D_L_isFinished_1.2.2.2.2.2.2.2.2.2.2.2.2.2.2.2.2.2.2.2.2.2.2.2.2.2.2.2.2.2.2.2.2.2.2.2.2.1
theorem e_L_isFinished_156 : decode cL_isFinished 156 = .ok (.if_icmp .ne 36, 3) := D_L_isFinished_1.2.2.2.2.2.2.2.2.2.2.2.2.2.2.2.2.2.2.2.2.2.2.2.2.2.2.2.2.2.2.2.2.2.2.2.2.2.1
theorem e_L_isFinished_159 : decode cL_isFinished 159 = .ok (.aload_n 0, 1) := D_L_isFinished_1.2.2.2.2.2.2.2.2.2.2.2.2.2.2.2.2.2.2.2.2.2.2.2.2.2.2.2.2.2.2.2.2.2.2.2.2.2.2.1
theorem e_L_isFinished_160 : decode cL_isFinished 160 = .ok (.sipush 2000, 3) := D_L_isFinished_1.2.2.2.2.2.2.2.2.2.2.2.2.2.2.2.2.2.2.2.2.2.2.2.2.2.2.2.2.2.2.2.2.2.2.2.2.2.2.2.1
set_option maxRecDepth 100000 in
theorem D_L_isFinished_2 : decode cL_isFinished 163 = .ok (.invokevirtual 77, 3) ∧ decode cL_isFinished 166 = .ok (.ifCond .lt 23, 3) ∧ decode cL_isFinished 169 = .ok (.aload_n 0, 1) ∧ decode cL_isFinished 170 = .ok (.iload_n 1, 1) ∧ decode cL_isFinished 171 = .ok (.iconst 0, 1) ∧ decode cL_isFinished 172 = .ok (.invokevirtual 25, 3) ∧ decode cL_isFinished 175 = .ok (.ifCond .le 14, 3) ∧ decode cL_isFinished 178 = .ok (.aload_n 0, 1) ∧ decode cL_isFinished 179 = .ok (.invokevirtual 89, 3) ∧ decode cL_isFinished 182 = .ok (.ifCond .lt 7, 3) ∧ decode cL_isFinished 185 = .ok (.iconst 1, 1) ∧ decode cL_isFinished 186 = .ok (.goto 4, 3) ∧ decode cL_isFinished 189 = .ok (.iconst 0, 1) ∧ decode cL_isFinished 190 = .ok (.istore 5, 2) ∧ decode cL_isFinished 192 = .ok (.iload 5, 2) ∧ decode cL_isFinished 194 = .ok (.ifCond .eq 16, 3) ∧ decode cL_isFinished 197 = .ok (.aload_n 0, 1) ∧ decode cL_isFinished 198 = .ok (.invokestatic 42, 3) ∧ decode cL_isFinished 201 = .ok (.lload_n 2, 1) ∧ decode cL_isFinished 202 = .ok (.lcmp, 1) ∧ decode cL_isFinished 203 = .ok (.ifCond .ne 7, 3) ∧ decode cL_isFinished 206 = .ok (.iconst 1, 1) ∧ decode cL_isFinished 207 = .ok (.goto 4, 3) ∧ decode cL_isFinished 210 = .ok (.iconst 0, 1) ∧ decode cL_isFinished 211 = .ok (.ireturn, 1) ∧ True := dq_of (l := (163, .invokevirtual 77, 3) :: (166, .ifCond .lt 23, 3) :: (169, .aload_n 0, 1) :: (170, .iload_n 1, 1) :: (171, .iconst 0, 1) :: (172, .invokevirtual 25, 3) :: (175, .ifCond .le 14, 3) :: (178, .aload_n 0, 1) :: (179, .invokevirtual 89, 3) :: (182, .ifCond .lt 7, 3) :: (185, .iconst 1, 1) :: (186, .goto 4, 3) :: (189, .iconst 0, 1) :: (190, .istore 5, 2) :: (192, .iload 5, 2) :: (194, .ifCond .eq 16, 3) :: (197, .aload_n 0, 1) :: (198, .invokestatic 42, 3) :: (201, .lload_n 2, 1) :: (202, .lcmp, 1) :: (203, .ifCond .ne 7, 3) :: (206, .iconst 1, 1) :: (207, .goto 4, 3) :: (210, .iconst 0, 1) :: (211, .ireturn, 1) :: []) (by decide +kernel)
theorem e_L_isFinished_163 : decode cL_isFinished 163 = .ok (.invokevirtual 77, 3) := D_L_isFinished_2.1
theorem e_L_isFinished_166 : decode cL_isFinished 166 = .ok (.ifCond .lt 23, 3) := D_L_isFinished_2.2.1
theorem e_L_isFinished_169 : decode cL_isFinished 169 = .ok (.aload_n 0, 1) := D_L_isFinished_2.2.2.1
theorem e_L_isFinished_170 : decode cL_isFinished 170 = .ok (.iload_n 1, 1) := D_L_isFinished_2.2.2.2.1
theorem e_L_isFinished_171 : decode cL_isFinished 171 = .ok (.iconst 0, 1) := D_L_isFinished_2.2.2.2.2.1
theorem e_L_isFinished_172 : decode cL_isFinished 172 = .ok (.invokevirtual 25, 3) := D_L_isFinished_2.2.2.2.2.2.1
theorem e_L_isFinished_175 : decode cL_isFinished 175 = .ok (.ifCond .le 14, 3) := D_L_isFinished_2.2.2.2.2.2.2.1
theorem e_L_isFinished_178 : decode cL_isFinished 178 = .ok (.aload_n 0, 1) := D_L_isFinished_2.2.2.2.2.2.2.2.1
theorem e_L_isFinished_179 : decode cL_isFinished 179 = .ok (.invokevirtual 89, 3) := D_L_isFinished_2.2.2.2.2.2.2.2.2.1
theorem e_L_isFinished_182 : decode cL_isFinished 182 = .ok (.ifCond .lt 7, 3) := D_L_isFinished_2.2.2.2.2.2.2.2.2.2.1
theorem e_L_isFinished_185 : decode cL_isFinished 185 = .ok (.iconst 1, 1) := D_L_isFinished_2.2.2.2.2.2.2.2.2.2.2.1
theorem e_L_isFinished_186 : decode cL_isFinished 186 = .ok (.goto 4, 3) := D_L_isFinished_2.2.2.2.2.2.2.2.2.2.2.2.1
theorem e_L_isFinished_189 : decode cL_isFinished 189 = .ok (.iconst 0, 1) := D_L_isFinished_2.2.2.2.2.2.2.2.2.2.2.2.2.1
theorem e_L_isFinished_190 : decode cL_isFinished 190 = .ok (.istore 5, 2) := D_L_isFinished_2.2.2.2.2.2.2.2.2.2.2.2.2.2.1
theorem e_L_isFinished_192 : decode cL_isFinished 192 = .ok (.iload 5, 2) := D_L_isFinished_2.2.2.2.2.2.2.2.2.2.2.2.2.2.2.1
theorem e_L_isFinished_194 : decode cL_isFinished 194 = .ok (.ifCond .eq 16, 3) := D_L_isFinished_2.2.2.2.2.2.2.2.2.2.2.2.2.2.2.2.1
theorem e_L_isFinished_197 : decode cL_isFinished 197 = .ok (.aload_n 0, 1) := D_L_isFinished_2.2.2.2.2.2.2.2.2.2.2.2.2.2.2.2.2.1
theorem e_L_isFinished_198 : decode cL_isFinished 198 = .ok (.invokestatic 42, 3) := D_L_isFinished_2.2.2.2.2.2.2.2.2.2.2.2.2.2.2.2.2.2.1
theorem e_L_isFinished_201 : decode cL_isFinished 201 = .ok (.lload_n 2, 1) := D_L_isFinished_2.2.2.2.2.2.2.2.2.2.2.2.2.2.2.2.2.2.2.1
theorem e_L_isFinished_202 : decode cL_isFinished 202 = .ok (.lcmp, 1) := D_L_isFinished_2.2.2.2.2.2.2.2.2.2.2.2.2.2.2.2.2.2.2.2.1
theorem e_L_isFinished_203 : decode cL_isFinished 203 = .ok (.ifCond .ne 7, 3) := D_L_isFinished_2.2.2.2.2.2.2.2.2.2.2.2.2.2.2.2.2.2.2.2.2.1
theorem e_L_isFinished_206 : decode cL_isFinished 206 = .ok (.iconst 1, 1) := D_L_isFinished_2.2.2.2.2.2.2.2.2.2.2.2.2.2.2.2.2.2.2.2.2.2.1
theorem e_L_isFinished_207 : decode cL_isFinished 207 = .ok (.goto 4, 3) := D_L_isFinished_2.2.2.2.2.2.2.2.2.2.2.2.2.2.2.2.2.2.2.2.2.2.2.1
theorem e_L_isFinished_210 : decode cL_isFinished 210 = .ok (.iconst 0, 1) := D_L_isFinished_2.2.2.2.2.2.2.2.2.2.2.2.2.2.2.2.2.2.2.2.2.2.2.2.1
theorem e_L_isFinished_211 : decode cL_isFinished 211 = .ok (.ireturn, 1) := D_L_isFinished_2.2.2.2.2.2.2.2.2.2.2.2.2.2.2.2.2.2.2.2.2.2.2.2.2.1
