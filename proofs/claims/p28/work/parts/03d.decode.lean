set_option maxRecDepth 100000 in
theorem D_X8_queued_0 : decode cX8_queued 0 = .ok (.iload_n 1, 1) ∧ decode cX8_queued 1 = .ok (.ifCond .ge 5, 3) ∧ decode cX8_queued 4 = .ok (.iconst (-1), 1) ∧ decode cX8_queued 5 = .ok (.ireturn, 1) ∧ decode cX8_queued 6 = .ok (.iconst 0, 1) ∧ decode cX8_queued 7 = .ok (.istore_n 2, 1) ∧ decode cX8_queued 8 = .ok (.iload_n 2, 1) ∧ decode cX8_queued 9 = .ok (.aload_n 0, 1) ∧ decode cX8_queued 10 = .ok (.getfield 7, 3) ∧ decode cX8_queued 13 = .ok (.iconst 0, 1) ∧ decode cX8_queued 14 = .ok (.iaload, 1) ∧ decode cX8_queued 15 = .ok (.if_icmp .ge 67, 3) ∧ decode cX8_queued 18 = .ok (.iconst 0, 1) ∧ decode cX8_queued 19 = .ok (.istore_n 3, 1) ∧ decode cX8_queued 20 = .ok (.iconst 0, 1) ∧ decode cX8_queued 21 = .ok (.istore 4, 2) ∧ decode cX8_queued 23 = .ok (.iload 4, 2) ∧ decode cX8_queued 25 = .ok (.aload_n 0, 1) ∧ decode cX8_queued 26 = .ok (.getfield 7, 3) ∧ decode cX8_queued 29 = .ok (.iconst 0, 1) ∧ decode cX8_queued 30 = .ok (.iaload, 1) ∧ decode cX8_queued 31 = .ok (.if_icmp .ge 33, 3) ∧ decode cX8_queued 34 = .ok (.iload_n 3, 1) ∧ decode cX8_queued 35 = .ok (.iload 4, 2) ∧ decode cX8_queued 37 = .ok (.iload_n 2, 1) ∧ decode cX8_queued 38 = .ok (.if_icmp .eq 17, 3) ∧ decode cX8_queued 41 = .ok (.aload_n 0, 1) ∧ decode cX8_queued 42 = .ok (.iload 4, 2) ∧ decode cX8_queued 44 = .ok (.iload_n 2, 1) ∧ decode cX8_queued 45 = .ok (.invokevirtual 115, 3) ∧ decode cX8_queued 48 = .ok (.ifCond .eq 7, 3) ∧ decode cX8_queued 51 = .ok (.iconst 1, 1) ∧ decode cX8_queued 52 = .ok (.goto 4, 3) ∧ decode cX8_queued 55 = .ok (.iconst 0, 1) ∧ decode cX8_queued 56 = .ok (.iadd, 1) ∧ decode cX8_queued 57 = .ok (.istore_n 3, 1) ∧ decode cX8_queued 58 = .ok (.iinc 4 1, 3) ∧ decode cX8_queued 61 = .ok (.goto (-38), 3) ∧ decode cX8_queued 64 = .ok (.iload_n 3, 1) ∧ decode cX8_queued 65 = .ok (.iload_n 1, 1) ∧ True := dq_of (l := (0, .iload_n 1, 1) :: (1, .ifCond .ge 5, 3) :: (4, .iconst (-1), 1) :: (5, .ireturn, 1) :: (6, .iconst 0, 1) :: (7, .istore_n 2, 1) :: (8, .iload_n 2, 1) :: (9, .aload_n 0, 1) :: (10, .getfield 7, 3) :: (13, .iconst 0, 1) :: (14, .iaload, 1) :: (15, .if_icmp .ge 67, 3) :: (18, .iconst 0, 1) :: (19, .istore_n 3, 1) :: (20, .iconst 0, 1) :: (21, .istore 4, 2) :: (23, .iload 4, 2) :: (25, .aload_n 0, 1) :: (26, .getfield 7, 3) :: (29, .iconst 0, 1) :: (30, .iaload, 1) :: (31, .if_icmp .ge 33, 3) :: (34, .iload_n 3, 1) :: (35, .iload 4, 2) :: (37, .iload_n 2, 1) :: (38, .if_icmp .eq 17, 3) :: (41, .aload_n 0, 1) :: (42, .iload 4, 2) :: (44, .iload_n 2, 1) :: (45, .invokevirtual 115, 3) :: (48, .ifCond .eq 7, 3) :: (51, .iconst 1, 1) :: (52, .goto 4, 3) :: (55, .iconst 0, 1) :: (56, .iadd, 1) :: (57, .istore_n 3, 1) :: (58, .iinc 4 1, 3) :: (61, .goto (-38), 3) :: (64, .iload_n 3, 1) :: (65, .iload_n 1, 1) :: []) (by decide +kernel)
theorem e_X8_queued_0 : decode cX8_queued 0 = .ok (.iload_n 1, 1) := D_X8_queued_0.1
theorem e_X8_queued_1 : decode cX8_queued 1 = .ok (.ifCond .ge 5, 3) := D_X8_queued_0.2.1
theorem e_X8_queued_4 : decode cX8_queued 4 = .ok (.iconst (-1), 1) := D_X8_queued_0.2.2.1
theorem e_X8_queued_5 : decode cX8_queued 5 = .ok (.ireturn, 1) := D_X8_queued_0.2.2.2.1
theorem e_X8_queued_6 : decode cX8_queued 6 = .ok (.iconst 0, 1) := D_X8_queued_0.2.2.2.2.1
theorem e_X8_queued_7 : decode cX8_queued 7 = .ok (.istore_n 2, 1) := D_X8_queued_0.2.2.2.2.2.1
theorem e_X8_queued_8 : decode cX8_queued 8 = .ok (.iload_n 2, 1) := D_X8_queued_0.2.2.2.2.2.2.1
theorem e_X8_queued_9 : decode cX8_queued 9 = .ok (.aload_n 0, 1) := D_X8_queued_0.2.2.2.2.2.2.2.1
theorem e_X8_queued_10 : decode cX8_queued 10 = .ok (.getfield 7, 3) := D_X8_queued_0.2.2.2.2.2.2.2.2.1
theorem e_X8_queued_13 : decode cX8_queued 13 = .ok (.iconst 0, 1) := D_X8_queued_0.2.2.2.2.2.2.2.2.2.1
theorem e_X8_queued_14 : decode cX8_queued 14 = .ok (.iaload, 1) := D_X8_queued_0.2.2.2.2.2.2.2.2.2.2.1
theorem e_X8_queued_15 : decode cX8_queued 15 = .ok (.if_icmp .ge 67, 3) := D_X8_queued_0.2.2.2.2.2.2.2.2.2.2.2.1
theorem e_X8_queued_18 : decode cX8_queued 18 = .ok (.iconst 0, 1) := D_X8_queued_0.2.2.2.2.2.2.2.2.2.2.2.2.1
theorem e_X8_queued_19 : decode cX8_queued 19 = .ok (.istore_n 3, 1) := D_X8_queued_0.2.2.2.2.2.2.2.2.2.2.2.2.2.1
theorem e_X8_queued_20 : decode cX8_queued 20 = .ok (.iconst 0, 1) := D_X8_queued_0.2.2.2.2.2.2.2.2.2.2.2.2.2.2.1
theorem e_X8_queued_21 : decode cX8_queued 21 = .ok (.istore 4, 2) := D_X8_queued_0.2.2.2.2.2.2.2.2.2.2.2.2.2.2.2.1
theorem e_X8_queued_23 : decode cX8_queued 23 = .ok (.iload 4, 2) := D_X8_queued_0.2.2.2.2.2.2.2.2.2.2.2.2.2.2.2.2.1
theorem e_X8_queued_25 : decode cX8_queued 25 = .ok (.aload_n 0, 1) := D_X8_queued_0.2.2.2.2.2.2.2.2.2.2.2.2.2.2.2.2.2.1
theorem e_X8_queued_26 : decode cX8_queued 26 = .ok (.getfield 7, 3) := D_X8_queued_0.2.2.2.2.2.2.2.2.2.2.2.2.2.2.2.2.2.2.1
theorem e_X8_queued_29 : decode cX8_queued 29 = .ok (.iconst 0, 1) := D_X8_queued_0.2.2.2.2.2.2.2.2.2.2.2.2.2.2.2.2.2.2.2.1
theorem e_X8_queued_30 : decode cX8_queued 30 = .ok (.iaload, 1) := D_X8_queued_0.2.2.2.2.2.2.2.2.2.2.2.2.2.2.2.2.2.2.2.2.1
theorem e_X8_queued_31 : decode cX8_queued 31 = .ok (.if_icmp .ge 33, 3) := D_X8_queued_0.2.2.2.2.2.2.2.2.2.2.2.2.2.2.2.2.2.2.2.2.2.1
theorem e_X8_queued_34 : decode cX8_queued 34 = .ok (.iload_n 3, 1) := D_X8_queued_0.2.2.2.2.2.2.2.2.2.2.2.2.2.2.2.2.2.2.2.2.2.2.1
theorem e_X8_queued_35 : decode cX8_queued 35 = .ok (.iload 4, 2) := D_X8_queued_0.2.2.2.2.2.2.2.2.2.2.2.2.2.2.2.2.2.2.2.2.2.2.2.1
theorem e_X8_queued_37 : decode cX8_queued 37 = .ok (.iload_n 2, 1) := D_X8_queued_0.2.2.2.2.2.2.2.2.2.2.2.2.2.2.2.2.2.2.2.2.2.2.2.2.1
theorem e_X8_queued_38 : decode cX8_queued 38 = .ok (.if_icmp .eq 17, 3) := D_X8_queued_0.2.2.2.2.2.2.2.2.2.2.2.2.2.2.2.2.2.2.2.2.2.2.2.2.2.1
theorem e_X8_queued_41 : decode cX8_queued 41 = .ok (.aload_n 0, 1) := D_X8_queued_0.2.2.2.2.2.2.2.2.2.2.2.2.2.2.2.2.2.2.2.2.2.2.2.2.2.2.1
theorem e_X8_queued_42 : decode cX8_queued 42 = .ok (.iload 4, 2) := D_X8_queued_0.2.2.2.2.2.2.2.2.2.2.2.2.2.2.2.2.2.2.2.2.2.2.2.2.2.2.2.1
theorem e_X8_queued_44 : decode cX8_queued 44 = .ok (.iload_n 2, 1) := D_X8_queued_0.2.2.2.2.2.2.2.2.2.2.2.2.2.2.2.2.2.2.2.2.2.2.2.2.2.2.2.2.1
theorem e_X8_queued_45 : decode cX8_queued 45 = .ok (.invokevirtual 115, 3) := D_X8_queued_0.2.2.2.2.2.2.2.2.2.2.2.2.2.2.2.2.2.2.2.2.2.2.2.2.2.2.2.2.2.1
theorem e_X8_queued_48 : decode cX8_queued 48 = .ok (.ifCond .eq 7, 3) := D_X8_queued_0.2.2.2.2.2.2.2.2.2.2.2.2.2.2.2.2.2.2.2.2.2.2.2.2.2.2.2.2.2.2.1
theorem e_X8_queued_51 : decode cX8_queued 51 = .ok (.iconst 1, 1) := D_X8_queued_0.2.2.2.2.2.2.2.2.2.2.2.2.2.2.2.2.2.2.2.2.2.2.2.2.2.2.2.2.2.2.2.1
theorem e_X8_queued_52 : decode cX8_queued 52 = .ok (.goto 4, 3) := D_X8_queued_0.2.2.2.2.2.2.2.2.2.2.2.2.2.2.2.2.2.2.2.2.2.2.2.2.2.2.2.2.2.2.2.2.1
theorem e_X8_queued_55 : decode cX8_queued 55 = .ok (.iconst 0, 1) := D_X8_queued_0.2.2.2.2.2.2.2.2.2.2.2.2.2.2.2.2.2.2.2.2.2.2.2.2.2.2.2.2.2.2.2.2.2.1
theorem e_X8_queued_56 : decode cX8_queued 56 = .ok (.iadd, 1) := D_X8_queued_0.2.2.2.2.2.2.2.2.2.2.2.2.2.2.2.2.2.2.2.2.2.2.2.2.2.2.2.2.2.2.2.2.2.2.1
theorem e_X8_queued_57 : decode cX8_queued 57 = .ok (.istore_n 3, 1) := D_X8_queued_0.2.2.2.2.2.2.2.2.2.2.2.2.2.2.2.2.2.2.2.2.2.2.2.2.2.2.2.2.2.2.2.2.2.2.2.1
theorem e_X8_queued_58 : decode cX8_queued 58 = .ok (.iinc 4 1, 3) := D_X8_queued_0.2.2.2.2.2.2.2.2.2.2.2.2.2.2.2.2.2.2.2.2.2.2.2.2.2.2.2.2.2.2.2.2.2.2.2.2.1
theorem e_X8_queued_61 : decode cX8_queued 61 = .ok (.goto (-38), 3) := D_X8_queued_0.2.2.2.2.2.2.2.2.2.2.2.2.2.2.2.2.2.2.2.2.2.2.2.2.2.2.2.2.2.2.2.2.2.2.2.2.2.1
theorem e_X8_queued_64 : decode cX8_queued 64 = .ok (.iload_n 3, 1) := D_X8_queued_0.2.2.2.2.2.2.2.2.2.2.2.2.2.2.2.2.2.2.2.2.2.2.2.2.2.2.2.2.2.2.2.2.2.2.2.2.2.2.1
theorem e_X8_queued_65 : decode cX8_queued 65 = .ok (.iload_n 1, 1) := D_X8_queued_0.2.2.2.2.2.2.2.2.2.2.2.2.2.2.2.2.2.2.2.2.2.2.2.2.2.2.2.2.2.2.2.2.2.2.2.2.2.2.2.1
set_option maxRecDepth 100000 in
theorem D_X8_queued_1 : decode cX8_queued 66 = .ok (.if_icmp .ne 10, 3) ∧ decode cX8_queued 69 = .ok (.aload_n 0, 1) ∧ decode cX8_queued 70 = .ok (.iload_n 2, 1) ∧ decode cX8_queued 71 = .ok (.iconst 0, 1) ∧ decode cX8_queued 72 = .ok (.invokevirtual 64, 3) ∧ decode cX8_queued 75 = .ok (.ireturn, 1) ∧ decode cX8_queued 76 = .ok (.iinc 2 1, 3) ∧ decode cX8_queued 79 = .ok (.goto (-71), 3) ∧ decode cX8_queued 82 = .ok (.bipush (-4), 2) ∧ decode cX8_queued 84 = .ok (.ireturn, 1) ∧ True := dq_of (l := (66, .if_icmp .ne 10, 3) :: (69, .aload_n 0, 1) :: (70, .iload_n 2, 1) :: (71, .iconst 0, 1) :: (72, .invokevirtual 64, 3) :: (75, .ireturn, 1) :: (76, .iinc 2 1, 3) :: (79, .goto (-71), 3) :: (82, .bipush (-4), 2) :: (84, .ireturn, 1) :: []) (by decide +kernel)
theorem e_X8_queued_66 : decode cX8_queued 66 = .ok (.if_icmp .ne 10, 3) := D_X8_queued_1.1
theorem e_X8_queued_69 : decode cX8_queued 69 = .ok (.aload_n 0, 1) := D_X8_queued_1.2.1
theorem e_X8_queued_70 : decode cX8_queued 70 = .ok (.iload_n 2, 1) := D_X8_queued_1.2.2.1
theorem e_X8_queued_71 : decode cX8_queued 71 = .ok (.iconst 0, 1) := D_X8_queued_1.2.2.2.1
theorem e_X8_queued_72 : decode cX8_queued 72 = .ok (.invokevirtual 64, 3) := D_X8_queued_1.2.2.2.2.1
theorem e_X8_queued_75 : decode cX8_queued 75 = .ok (.ireturn, 1) := D_X8_queued_1.2.2.2.2.2.1
theorem e_X8_queued_76 : decode cX8_queued 76 = .ok (.iinc 2 1, 3) := D_X8_queued_1.2.2.2.2.2.2.1
theorem e_X8_queued_79 : decode cX8_queued 79 = .ok (.goto (-71), 3) := D_X8_queued_1.2.2.2.2.2.2.2.1
theorem e_X8_queued_82 : decode cX8_queued 82 = .ok (.bipush (-4), 2) := D_X8_queued_1.2.2.2.2.2.2.2.2.1
theorem e_X8_queued_84 : decode cX8_queued 84 = .ok (.ireturn, 1) := D_X8_queued_1.2.2.2.2.2.2.2.2.2.1
set_option maxRecDepth 100000 in
theorem D_X8_nextJob_0 : decode cX8_nextJob 0 = .ok (.iconst (-1), 1) ∧ decode cX8_nextJob 1 = .ok (.istore_n 1, 1) ∧ decode cX8_nextJob 2 = .ok (.iconst 0, 1) ∧ decode cX8_nextJob 3 = .ok (.istore_n 2, 1) ∧ decode cX8_nextJob 4 = .ok (.iload_n 2, 1) ∧ decode cX8_nextJob 5 = .ok (.aload_n 0, 1) ∧ decode cX8_nextJob 6 = .ok (.getfield 7, 3) ∧ decode cX8_nextJob 9 = .ok (.iconst 0, 1) ∧ decode cX8_nextJob 10 = .ok (.iaload, 1) ∧ decode cX8_nextJob 11 = .ok (.if_icmp .ge 38, 3) ∧ decode cX8_nextJob 14 = .ok (.aload_n 0, 1) ∧ decode cX8_nextJob 15 = .ok (.iload_n 2, 1) ∧ decode cX8_nextJob 16 = .ok (.bipush 7, 2) ∧ decode cX8_nextJob 18 = .ok (.invokevirtual 64, 3) ∧ decode cX8_nextJob 21 = .ok (.ifCond .ne 20, 3) ∧ decode cX8_nextJob 24 = .ok (.iload_n 1, 1) ∧ decode cX8_nextJob 25 = .ok (.ifCond .lt 12, 3) ∧ decode cX8_nextJob 28 = .ok (.aload_n 0, 1) ∧ decode cX8_nextJob 29 = .ok (.iload_n 2, 1) ∧ decode cX8_nextJob 30 = .ok (.iload_n 1, 1) ∧ decode cX8_nextJob 31 = .ok (.invokevirtual 115, 3) ∧ decode cX8_nextJob 34 = .ok (.ifCond .eq 7, 3) ∧ decode cX8_nextJob 37 = .ok (.iload_n 2, 1) ∧ decode cX8_nextJob 38 = .ok (.goto 4, 3) ∧ decode cX8_nextJob 41 = .ok (.iload_n 1, 1) ∧ decode cX8_nextJob 42 = .ok (.istore_n 1, 1) ∧ decode cX8_nextJob 43 = .ok (.iinc 2 1, 3) ∧ decode cX8_nextJob 46 = .ok (.goto (-42), 3) ∧ decode cX8_nextJob 49 = .ok (.iload_n 1, 1) ∧ decode cX8_nextJob 50 = .ok (.ireturn, 1) ∧ True := dq_of (l := (0, .iconst (-1), 1) :: (1, .istore_n 1, 1) :: (2, .iconst 0, 1) :: (3, .istore_n 2, 1) :: (4, .iload_n 2, 1) :: (5, .aload_n 0, 1) :: (6, .getfield 7, 3) :: (9, .iconst 0, 1) :: (10, .iaload, 1) :: (11, .if_icmp .ge 38, 3) :: (14, .aload_n 0, 1) :: (15, .iload_n 2, 1) :: (16, .bipush 7, 2) :: (18, .invokevirtual 64, 3) :: (21, .ifCond .ne 20, 3) :: (24, .iload_n 1, 1) :: (25, .ifCond .lt 12, 3) :: (28, .aload_n 0, 1) :: (29, .iload_n 2, 1) :: (30, .iload_n 1, 1) :: (31, .invokevirtual 115, 3) :: (34, .ifCond .eq 7, 3) :: (37, .iload_n 2, 1) :: (38, .goto 4, 3) :: (41, .iload_n 1, 1) :: (42, .istore_n 1, 1) :: (43, .iinc 2 1, 3) :: (46, .goto (-42), 3) :: (49, .iload_n 1, 1) :: (50, .ireturn, 1) :: []) (by decide +kernel)
theorem e_X8_nextJob_0 : decode cX8_nextJob 0 = .ok (.iconst (-1), 1) := D_X8_nextJob_0.1
theorem e_X8_nextJob_1 : decode cX8_nextJob 1 = .ok (.istore_n 1, 1) := D_X8_nextJob_0.2.1
theorem e_X8_nextJob_2 : decode cX8_nextJob 2 = .ok (.iconst 0, 1) := D_X8_nextJob_0.2.2.1
theorem e_X8_nextJob_3 : decode cX8_nextJob 3 = .ok (.istore_n 2, 1) := D_X8_nextJob_0.2.2.2.1
theorem e_X8_nextJob_4 : decode cX8_nextJob 4 = .ok (.iload_n 2, 1) := D_X8_nextJob_0.2.2.2.2.1
theorem e_X8_nextJob_5 : decode cX8_nextJob 5 = .ok (.aload_n 0, 1) := D_X8_nextJob_0.2.2.2.2.2.1
theorem e_X8_nextJob_6 : decode cX8_nextJob 6 = .ok (.getfield 7, 3) := D_X8_nextJob_0.2.2.2.2.2.2.1
theorem e_X8_nextJob_9 : decode cX8_nextJob 9 = .ok (.iconst 0, 1) := D_X8_nextJob_0.2.2.2.2.2.2.2.1
theorem e_X8_nextJob_10 : decode cX8_nextJob 10 = .ok (.iaload, 1) := D_X8_nextJob_0.2.2.2.2.2.2.2.2.1
theorem e_X8_nextJob_11 : decode cX8_nextJob 11 = .ok (.if_icmp .ge 38, 3) := D_X8_nextJob_0.2.2.2.2.2.2.2.2.2.1
theorem e_X8_nextJob_14 : decode cX8_nextJob 14 = .ok (.aload_n 0, 1) := D_X8_nextJob_0.2.2.2.2.2.2.2.2.2.2.1
theorem e_X8_nextJob_15 : decode cX8_nextJob 15 = .ok (.iload_n 2, 1) := D_X8_nextJob_0.2.2.2.2.2.2.2.2.2.2.2.1
theorem e_X8_nextJob_16 : decode cX8_nextJob 16 = .ok (.bipush 7, 2) := D_X8_nextJob_0.2.2.2.2.2.2.2.2.2.2.2.2.1
theorem e_X8_nextJob_18 : decode cX8_nextJob 18 = .ok (.invokevirtual 64, 3) := D_X8_nextJob_0.2.2.2.2.2.2.2.2.2.2.2.2.2.1
theorem e_X8_nextJob_21 : decode cX8_nextJob 21 = .ok (.ifCond .ne 20, 3) := D_X8_nextJob_0.2.2.2.2.2.2.2.2.2.2.2.2.2.2.1
theorem e_X8_nextJob_24 : decode cX8_nextJob 24 = .ok (.iload_n 1, 1) := D_X8_nextJob_0.2.2.2.2.2.2.2.2.2.2.2.2.2.2.2.1
theorem e_X8_nextJob_25 : decode cX8_nextJob 25 = .ok (.ifCond .lt 12, 3) := D_X8_nextJob_0.2.2.2.2.2.2.2.2.2.2.2.2.2.2.2.2.1
theorem e_X8_nextJob_28 : decode cX8_nextJob 28 = .ok (.aload_n 0, 1) := D_X8_nextJob_0.2.2.2.2.2.2.2.2.2.2.2.2.2.2.2.2.2.1
theorem e_X8_nextJob_29 : decode cX8_nextJob 29 = .ok (.iload_n 2, 1) := D_X8_nextJob_0.2.2.2.2.2.2.2.2.2.2.2.2.2.2.2.2.2.2.1
theorem e_X8_nextJob_30 : decode cX8_nextJob 30 = .ok (.iload_n 1, 1) := D_X8_nextJob_0.2.2.2.2.2.2.2.2.2.2.2.2.2.2.2.2.2.2.2.1
theorem e_X8_nextJob_31 : decode cX8_nextJob 31 = .ok (.invokevirtual 115, 3) := D_X8_nextJob_0.2.2.2.2.2.2.2.2.2.2.2.2.2.2.2.2.2.2.2.2.1
theorem e_X8_nextJob_34 : decode cX8_nextJob 34 = .ok (.ifCond .eq 7, 3) := D_X8_nextJob_0.2.2.2.2.2.2.2.2.2.2.2.2.2.2.2.2.2.2.2.2.2.1
theorem e_X8_nextJob_37 : decode cX8_nextJob 37 = .ok (.iload_n 2, 1) := D_X8_nextJob_0.2.2.2.2.2.2.2.2.2.2.2.2.2.2.2.2.2.2.2.2.2.2.1
theorem e_X8_nextJob_38 : decode cX8_nextJob 38 = .ok (.goto 4, 3) := D_X8_nextJob_0.2.2.2.2.2.2.2.2.2.2.2.2.2.2.2.2.2.2.2.2.2.2.2.1
theorem e_X8_nextJob_41 : decode cX8_nextJob 41 = .ok (.iload_n 1, 1) := D_X8_nextJob_0.2.2.2.2.2.2.2.2.2.2.2.2.2.2.2.2.2.2.2.2.2.2.2.2.1
theorem e_X8_nextJob_42 : decode cX8_nextJob 42 = .ok (.istore_n 1, 1) := D_X8_nextJob_0.2.2.2.2.2.2.2.2.2.2.2.2.2.2.2.2.2.2.2.2.2.2.2.2.2.1
theorem e_X8_nextJob_43 : decode cX8_nextJob 43 = .ok (.iinc 2 1, 3) := D_X8_nextJob_0.2.2.2.2.2.2.2.2.2.2.2.2.2.2.2.2.2.2.2.2.2.2.2.2.2.2.1
theorem e_X8_nextJob_46 : decode cX8_nextJob 46 = .ok (.goto (-42), 3) := D_X8_nextJob_0.2.2.2.2.2.2.2.2.2.2.2.2.2.2.2.2.2.2.2.2.2.2.2.2.2.2.2.1
theorem e_X8_nextJob_49 : decode cX8_nextJob 49 = .ok (.iload_n 1, 1) := D_X8_nextJob_0.2.2.2.2.2.2.2.2.2.2.2.2.2.2.2.2.2.2.2.2.2.2.2.2.2.2.2.2.1
theorem e_X8_nextJob_50 : decode cX8_nextJob 50 = .ok (.ireturn, 1) := D_X8_nextJob_0.2.2.2.2.2.2.2.2.2.2.2.2.2.2.2.2.2.2.2.2.2.2.2.2.2.2.2.2.2.1
set_option maxRecDepth 100000 in
theorem D_X8_staplesOf_0 : decode cX8_staplesOf 0 = .ok (.aload_n 0, 1) ∧ decode cX8_staplesOf 1 = .ok (.iload_n 1, 1) ∧ decode cX8_staplesOf 2 = .ok (.iconst 5, 1) ∧ decode cX8_staplesOf 3 = .ok (.invokevirtual 64, 3) ∧ decode cX8_staplesOf 6 = .ok (.iconst 4, 1) ∧ decode cX8_staplesOf 7 = .ok (.idiv, 1) ∧ decode cX8_staplesOf 8 = .ok (.ireturn, 1) ∧ True := dq_of (l := (0, .aload_n 0, 1) :: (1, .iload_n 1, 1) :: (2, .iconst 5, 1) :: (3, .invokevirtual 64, 3) :: (6, .iconst 4, 1) :: (7, .idiv, 1) :: (8, .ireturn, 1) :: []) (by decide +kernel)
theorem e_X8_staplesOf_0 : decode cX8_staplesOf 0 = .ok (.aload_n 0, 1) := D_X8_staplesOf_0.1
theorem e_X8_staplesOf_1 : decode cX8_staplesOf 1 = .ok (.iload_n 1, 1) := D_X8_staplesOf_0.2.1
theorem e_X8_staplesOf_2 : decode cX8_staplesOf 2 = .ok (.iconst 5, 1) := D_X8_staplesOf_0.2.2.1
theorem e_X8_staplesOf_3 : decode cX8_staplesOf 3 = .ok (.invokevirtual 64, 3) := D_X8_staplesOf_0.2.2.2.1
theorem e_X8_staplesOf_6 : decode cX8_staplesOf 6 = .ok (.iconst 4, 1) := D_X8_staplesOf_0.2.2.2.2.1
theorem e_X8_staplesOf_7 : decode cX8_staplesOf 7 = .ok (.idiv, 1) := D_X8_staplesOf_0.2.2.2.2.2.1
theorem e_X8_staplesOf_8 : decode cX8_staplesOf 8 = .ok (.ireturn, 1) := D_X8_staplesOf_0.2.2.2.2.2.2.1
set_option maxRecDepth 100000 in
theorem D_X8_hasSet_0 : decode cX8_hasSet 0 = .ok (.aload_n 0, 1) ∧ decode cX8_hasSet 1 = .ok (.iload_n 1, 1) ∧ decode cX8_hasSet 2 = .ok (.invokevirtual 118, 3) ∧ decode cX8_hasSet 5 = .ok (.ifCond .le 30, 3) ∧ decode cX8_hasSet 8 = .ok (.aload_n 0, 1) ∧ decode cX8_hasSet 9 = .ok (.iload_n 1, 1) ∧ decode cX8_hasSet 10 = .ok (.bipush 8, 2) ∧ decode cX8_hasSet 12 = .ok (.invokevirtual 64, 3) ∧ decode cX8_hasSet 15 = .ok (.aload_n 0, 1) ∧ decode cX8_hasSet 16 = .ok (.iload_n 1, 1) ∧ decode cX8_hasSet 17 = .ok (.invokevirtual 97, 3) ∧ decode cX8_hasSet 20 = .ok (.idiv, 1) ∧ decode cX8_hasSet 21 = .ok (.aload_n 0, 1) ∧ decode cX8_hasSet 22 = .ok (.iload_n 1, 1) ∧ decode cX8_hasSet 23 = .ok (.bipush 9, 2) ∧ decode cX8_hasSet 25 = .ok (.invokevirtual 64, 3) ∧ decode cX8_hasSet 28 = .ok (.if_icmp .le 7, 3) ∧ decode cX8_hasSet 31 = .ok (.iconst 1, 1) ∧ decode cX8_hasSet 32 = .ok (.goto 4, 3) ∧ decode cX8_hasSet 35 = .ok (.iconst 0, 1) ∧ decode cX8_hasSet 36 = .ok (.ireturn, 1) ∧ True := dq_of (l := (0, .aload_n 0, 1) :: (1, .iload_n 1, 1) :: (2, .invokevirtual 118, 3) :: (5, .ifCond .le 30, 3) :: (8, .aload_n 0, 1) :: (9, .iload_n 1, 1) :: (10, .bipush 8, 2) :: (12, .invokevirtual 64, 3) :: (15, .aload_n 0, 1) :: (16, .iload_n 1, 1) :: (17, .invokevirtual 97, 3) :: (20, .idiv, 1) :: (21, .aload_n 0, 1) :: (22, .iload_n 1, 1) :: (23, .bipush 9, 2) :: (25, .invokevirtual 64, 3) :: (28, .if_icmp .le 7, 3) :: (31, .iconst 1, 1) :: (32, .goto 4, 3) :: (35, .iconst 0, 1) :: (36, .ireturn, 1) :: []) (by decide +kernel)
theorem e_X8_hasSet_0 : decode cX8_hasSet 0 = .ok (.aload_n 0, 1) := D_X8_hasSet_0.1
theorem e_X8_hasSet_1 : decode cX8_hasSet 1 = .ok (.iload_n 1, 1) := D_X8_hasSet_0.2.1
theorem e_X8_hasSet_2 : decode cX8_hasSet 2 = .ok (.invokevirtual 118, 3) := D_X8_hasSet_0.2.2.1
theorem e_X8_hasSet_5 : decode cX8_hasSet 5 = .ok (.ifCond .le 30, 3) := D_X8_hasSet_0.2.2.2.1
theorem e_X8_hasSet_8 : decode cX8_hasSet 8 = .ok (.aload_n 0, 1) := D_X8_hasSet_0.2.2.2.2.1
theorem e_X8_hasSet_9 : decode cX8_hasSet 9 = .ok (.iload_n 1, 1) := D_X8_hasSet_0.2.2.2.2.2.1
theorem e_X8_hasSet_10 : decode cX8_hasSet 10 = .ok (.bipush 8, 2) := D_X8_hasSet_0.2.2.2.2.2.2.1
theorem e_X8_hasSet_12 : decode cX8_hasSet 12 = .ok (.invokevirtual 64, 3) := D_X8_hasSet_0.2.2.2.2.2.2.2.1
theorem e_X8_hasSet_15 : decode cX8_hasSet 15 = .ok (.aload_n 0, 1) := D_X8_hasSet_0.2.2.2.2.2.2.2.2.1
theorem e_X8_hasSet_16 : decode cX8_hasSet 16 = .ok (.iload_n 1, 1) := D_X8_hasSet_0.2.2.2.2.2.2.2.2.2.1
theorem e_X8_hasSet_17 : decode cX8_hasSet 17 = .ok (.invokevirtual 97, 3) := D_X8_hasSet_0.2.2.2.2.2.2.2.2.2.2.1
theorem e_X8_hasSet_20 : decode cX8_hasSet 20 = .ok (.idiv, 1) := D_X8_hasSet_0.2.2.2.2.2.2.2.2.2.2.2.1
theorem e_X8_hasSet_21 : decode cX8_hasSet 21 = .ok (.aload_n 0, 1) := D_X8_hasSet_0.2.2.2.2.2.2.2.2.2.2.2.2.1
theorem e_X8_hasSet_22 : decode cX8_hasSet 22 = .ok (.iload_n 1, 1) := D_X8_hasSet_0.2.2.2.2.2.2.2.2.2.2.2.2.2.1
theorem e_X8_hasSet_23 : decode cX8_hasSet 23 = .ok (.bipush 9, 2) := D_X8_hasSet_0.2.2.2.2.2.2.2.2.2.2.2.2.2.2.1
theorem e_X8_hasSet_25 : decode cX8_hasSet 25 = .ok (.invokevirtual 64, 3) := D_X8_hasSet_0.2.2.2.2.2.2.2.2.2.2.2.2.2.2.2.1
theorem e_X8_hasSet_28 : decode cX8_hasSet 28 = .ok (.if_icmp .le 7, 3) := D_X8_hasSet_0.2.2.2.2.2.2.2.2.2.2.2.2.2.2.2.2.1
theorem e_X8_hasSet_31 : decode cX8_hasSet 31 = .ok (.iconst 1, 1) := D_X8_hasSet_0.2.2.2.2.2.2.2.2.2.2.2.2.2.2.2.2.2.1
theorem e_X8_hasSet_32 : decode cX8_hasSet 32 = .ok (.goto 4, 3) := D_X8_hasSet_0.2.2.2.2.2.2.2.2.2.2.2.2.2.2.2.2.2.2.1
theorem e_X8_hasSet_35 : decode cX8_hasSet 35 = .ok (.iconst 0, 1) := D_X8_hasSet_0.2.2.2.2.2.2.2.2.2.2.2.2.2.2.2.2.2.2.2.1
theorem e_X8_hasSet_36 : decode cX8_hasSet 36 = .ok (.ireturn, 1) := D_X8_hasSet_0.2.2.2.2.2.2.2.2.2.2.2.2.2.2.2.2.2.2.2.2.1
set_option maxRecDepth 100000 in
theorem D_X8_whyStop_0 : decode cX8_whyStop 0 = .ok (.iload_n 1, 1) ∧ decode cX8_whyStop 1 = .ok (.ifCond .ge 5, 3) ∧ decode cX8_whyStop 4 = .ok (.iconst 1, 1) ∧ decode cX8_whyStop 5 = .ok (.ireturn, 1) ∧ decode cX8_whyStop 6 = .ok (.aload_n 0, 1) ∧ decode cX8_whyStop 7 = .ok (.iload_n 1, 1) ∧ decode cX8_whyStop 8 = .ok (.invokevirtual 121, 3) ∧ decode cX8_whyStop 11 = .ok (.ifCond .eq 23, 3) ∧ decode cX8_whyStop 14 = .ok (.aload_n 0, 1) ∧ decode cX8_whyStop 15 = .ok (.getfield 7, 3) ∧ decode cX8_whyStop 18 = .ok (.iconst 3, 1) ∧ decode cX8_whyStop 19 = .ok (.iaload, 1) ∧ decode cX8_whyStop 20 = .ok (.aload_n 0, 1) ∧ decode cX8_whyStop 21 = .ok (.iload_n 1, 1) ∧ decode cX8_whyStop 22 = .ok (.invokevirtual 118, 3) ∧ decode cX8_whyStop 25 = .ok (.if_icmp .ge 7, 3) ∧ decode cX8_whyStop 28 = .ok (.iconst 4, 1) ∧ decode cX8_whyStop 29 = .ok (.goto 4, 3) ∧ decode cX8_whyStop 32 = .ok (.iconst 0, 1) ∧ decode cX8_whyStop 33 = .ok (.ireturn, 1) ∧ decode cX8_whyStop 34 = .ok (.aload_n 0, 1) ∧ decode cX8_whyStop 35 = .ok (.aload_n 0, 1) ∧ decode cX8_whyStop 36 = .ok (.iload_n 1, 1) ∧ decode cX8_whyStop 37 = .ok (.iconst 3, 1) ∧ decode cX8_whyStop 38 = .ok (.invokevirtual 64, 3) ∧ decode cX8_whyStop 41 = .ok (.aload_n 0, 1) ∧ decode cX8_whyStop 42 = .ok (.iload_n 1, 1) ∧ decode cX8_whyStop 43 = .ok (.iconst 4, 1) ∧ decode cX8_whyStop 44 = .ok (.invokevirtual 64, 3) ∧ decode cX8_whyStop 47 = .ok (.invokevirtual 50, 3) ∧ decode cX8_whyStop 50 = .ok (.ifCond .ne 7, 3) ∧ decode cX8_whyStop 53 = .ok (.iconst 2, 1) ∧ decode cX8_whyStop 54 = .ok (.goto 24, 3) ∧ decode cX8_whyStop 57 = .ok (.aload_n 0, 1) ∧ decode cX8_whyStop 58 = .ok (.getfield 7, 3) ∧ decode cX8_whyStop 61 = .ok (.iconst 2, 1) ∧ decode cX8_whyStop 62 = .ok (.iaload, 1) ∧ decode cX8_whyStop 63 = .ok (.aload_n 0, 1) ∧ decode cX8_whyStop 64 = .ok (.getfield 7, 3) ∧ decode cX8_whyStop 67 = .ok (.bipush 15, 2) ∧ True := dq_of (l := (0, .iload_n 1, 1) :: (1, .ifCond .ge 5, 3) :: (4, .iconst 1, 1) :: (5, .ireturn, 1) :: (6, .aload_n 0, 1) :: (7, .iload_n 1, 1) :: (8, .invokevirtual 121, 3) :: (11, .ifCond .eq 23, 3) :: (14, .aload_n 0, 1) :: (15, .getfield 7, 3) :: (18, .iconst 3, 1) :: (19, .iaload, 1) :: (20, .aload_n 0, 1) :: (21, .iload_n 1, 1) :: (22, .invokevirtual 118, 3) :: (25, .if_icmp .ge 7, 3) :: (28, .iconst 4, 1) :: (29, .goto 4, 3) :: (32, .iconst 0, 1) :: (33, .ireturn, 1) :: (34, .aload_n 0, 1) :: (35, .aload_n 0, 1) :: (36, .iload_n 1, 1) :: (37, .iconst 3, 1) :: (38, .invokevirtual 64, 3) :: (41, .aload_n 0, 1) :: (42, .iload_n 1, 1) :: (43, .iconst 4, 1) :: (44, .invokevirtual 64, 3) :: (47, .invokevirtual 50, 3) :: (50, .ifCond .ne 7, 3) :: (53, .iconst 2, 1) :: (54, .goto 24, 3) :: (57, .aload_n 0, 1) :: (58, .getfield 7, 3) :: (61, .iconst 2, 1) :: (62, .iaload, 1) :: (63, .aload_n 0, 1) :: (64, .getfield 7, 3) :: (67, .bipush 15, 2) :: []) (by decide +kernel)
theorem e_X8_whyStop_0 : decode cX8_whyStop 0 = .ok (.iload_n 1, 1) := D_X8_whyStop_0.1
theorem e_X8_whyStop_1 : decode cX8_whyStop 1 = .ok (.ifCond .ge 5, 3) := D_X8_whyStop_0.2.1
theorem e_X8_whyStop_4 : decode cX8_whyStop 4 = .ok (.iconst 1, 1) := D_X8_whyStop_0.2.2.1
theorem e_X8_whyStop_5 : decode cX8_whyStop 5 = .ok (.ireturn, 1) := D_X8_whyStop_0.2.2.2.1
theorem e_X8_whyStop_6 : decode cX8_whyStop 6 = .ok (.aload_n 0, 1) := D_X8_whyStop_0.2.2.2.2.1
theorem e_X8_whyStop_7 : decode cX8_whyStop 7 = .ok (.iload_n 1, 1) := D_X8_whyStop_0.2.2.2.2.2.1
theorem e_X8_whyStop_8 : decode cX8_whyStop 8 = .ok (.invokevirtual 121, 3) := D_X8_whyStop_0.2.2.2.2.2.2.1
theorem e_X8_whyStop_11 : decode cX8_whyStop 11 = .ok (.ifCond .eq 23, 3) := D_X8_whyStop_0.2.2.2.2.2.2.2.1
theorem e_X8_whyStop_14 : decode cX8_whyStop 14 = .ok (.aload_n 0, 1) := D_X8_whyStop_0.2.2.2.2.2.2.2.2.1
theorem e_X8_whyStop_15 : decode cX8_whyStop 15 = .ok (.getfield 7, 3) := D_X8_whyStop_0.2.2.2.2.2.2.2.2.2.1
theorem e_X8_whyStop_18 : decode cX8_whyStop 18 = .ok (.iconst 3, 1) := D_X8_whyStop_0.2.2.2.2.2.2.2.2.2.2.1
theorem e_X8_whyStop_19 : decode cX8_whyStop 19 = .ok (.iaload, 1) := D_X8_whyStop_0.2.2.2.2.2.2.2.2.2.2.2.1
theorem e_X8_whyStop_20 : decode cX8_whyStop 20 = .ok (.aload_n 0, 1) := D_X8_whyStop_0.2.2.2.2.2.2.2.2.2.2.2.2.1
theorem e_X8_whyStop_21 : decode cX8_whyStop 21 = .ok (.iload_n 1, 1) := D_X8_whyStop_0.2.2.2.2.2.2.2.2.2.2.2.2.2.1
theorem e_X8_whyStop_22 : decode cX8_whyStop 22 = .ok (.invokevirtual 118, 3) := D_X8_whyStop_0.2.2.2.2.2.2.2.2.2.2.2.2.2.2.1
theorem e_X8_whyStop_25 : decode cX8_whyStop 25 = .ok (.if_icmp .ge 7, 3) := D_X8_whyStop_0.2.2.2.2.2.2.2.2.2.2.2.2.2.2.2.1
theorem e_X8_whyStop_28 : decode cX8_whyStop 28 = .ok (.iconst 4, 1) := D_X8_whyStop_0.2.2.2.2.2.2.2.2.2.2.2.2.2.2.2.2.1
theorem e_X8_whyStop_29 : decode cX8_whyStop 29 = .ok (.goto 4, 3) := D_X8_whyStop_0.2.2.2.2.2.2.2.2.2.2.2.2.2.2.2.2.2.1
theorem e_X8_whyStop_32 : decode cX8_whyStop 32 = .ok (.iconst 0, 1) := D_X8_whyStop_0.2.2.2.2.2.2.2.2.2.2.2.2.2.2.2.2.2.2.1
theorem e_X8_whyStop_33 : decode cX8_whyStop 33 = .ok (.ireturn, 1) := D_X8_whyStop_0.2.2.2.2.2.2.2.2.2.2.2.2.2.2.2.2.2.2.2.1
theorem e_X8_whyStop_34 : decode cX8_whyStop 34 = .ok (.aload_n 0, 1) := D_X8_whyStop_0.2.2.2.2.2.2.2.2.2.2.2.2.2.2.2.2.2.2.2.2.1
theorem e_X8_whyStop_35 : decode cX8_whyStop 35 = .ok (.aload_n 0, 1) := D_X8_whyStop_0.2.2.2.2.2.2.2.2.2.2.2.2.2.2.2.2.2.2.2.2.2.1
theorem e_X8_whyStop_36 : decode cX8_whyStop 36 = .ok (.iload_n 1, 1) := D_X8_whyStop_0.2.2.2.2.2.2.2.2.2.2.2.2.2.2.2.2.2.2.2.2.2.2.1
theorem e_X8_whyStop_37 : decode cX8_whyStop 37 = .ok (.iconst 3, 1) := D_X8_whyStop_0.2.2.2.2.2.2.2.2.2.2.2.2.2.2.2.2.2.2.2.2.2.2.2.1
theorem e_X8_whyStop_38 : decode cX8_whyStop 38 = .ok (.invokevirtual 64, 3) := D_X8_whyStop_0.2.2.2.2.2.2.2.2.2.2.2.2.2.2.2.2.2.2.2.2.2.2.2.2.1
theorem e_X8_whyStop_41 : decode cX8_whyStop 41 = .ok (.aload_n 0, 1) := D_X8_whyStop_0.2.2.2.2.2.2.2.2.2.2.2.2.2.2.2.2.2.2.2.2.2.2.2.2.2.1
theorem e_X8_whyStop_42 : decode cX8_whyStop 42 = .ok (.iload_n 1, 1) := D_X8_whyStop_0.2.2.2.2.2.2.2.2.2.2.2.2.2.2.2.2.2.2.2.2.2.2.2.2.2.2.1
theorem e_X8_whyStop_43 : decode cX8_whyStop 43 = .ok (.iconst 4, 1) := D_X8_whyStop_0.2.2.2.2.2.2.2.2.2.2.2.2.2.2.2.2.2.2.2.2.2.2.2.2.2.2.2.1
theorem e_X8_whyStop_44 : decode cX8_whyStop 44 = .ok (.invokevirtual 64, 3) := D_X8_whyStop_0.2.2.2.2.2.2.2.2.2.2.2.2.2.2.2.2.2.2.2.2.2.2.2.2.2.2.2.2.1
theorem e_X8_whyStop_47 : decode cX8_whyStop 47 = .ok (.invokevirtual 50, 3) := D_X8_whyStop_0.2.2.2.2.2.2.2.2.2.2.2.2.2.2.2.2.2.2.2.2.2.2.2.2.2.2.2.2.2.1
theorem e_X8_whyStop_50 : decode cX8_whyStop 50 = .ok (.ifCond .ne 7, 3) := D_X8_whyStop_0.2.2.2.2.2.2.2.2.2.2.2.2.2.2.2.2.2.2.2.2.2.2.2.2.2.2.2.2.2.2.1
theorem e_X8_whyStop_53 : decode cX8_whyStop 53 = .ok (.iconst 2, 1) := D_X8_whyStop_0.2.2.2.2.2.2.2.2.2.2.2.2.2.2.2.2.2.2.2.2.2.2.2.2.2.2.2.2.2.2.2.1
theorem e_X8_whyStop_54 : decode cX8_whyStop 54 = .ok (.goto 24, 3) := D_X8_whyStop_0.2.2.2.2.2.2.2.2.2.2.2.2.2.2.2.2.2.2.2.2.2.2.2.2.2.2.2.2.2.2.2.2.1
theorem e_X8_whyStop_57 : decode cX8_whyStop 57 = .ok (.aload_n 0, 1) := D_X8_whyStop_0.2.2.2.2.2.2.2.2.2.2.2.2.2.2.2.2.2.2.2.2.2.2.2.2.2.2.2.2.2.2.2.2.2.1
theorem e_X8_whyStop_58 : decode cX8_whyStop 58 = .ok (.getfield 7, 3) := D_X8_whyStop_0.2.2.2.2.2.2.2.2.2.2.2.2.2.2.2.2.2.2.2.2.2.2.2.2.2.2.2.2.2.2.2.2.2.2.1
theorem e_X8_whyStop_61 : decode cX8_whyStop 61 = .ok (.iconst 2, 1) := D_X8_whyStop_0.2.2.2.2.2.2.2.2.2.2.2.2.2.2.2.2.2.2.2.2.2.2.2.2.2.2.2.2.2.2.2.2.2.2.2.1
theorem e_X8_whyStop_62 : decode cX8_whyStop 62 = .ok (.iaload, 1) := D_X8_whyStop_0.2.2.2.2.2.2.2.2.2.2.2.2.2.2.2.2.2.2.2.2.2.2.2.2.2.2.2.2.2.2.2.2.2.2.2.2.1
theorem e_X8_whyStop_63 : decode cX8_whyStop 63 = .ok (.aload_n 0, 1) := D_X8_whyStop_0.2.2.2.2.2.2.2.2.2.2.2.2.2.2.2.2.2.2.2.2.2.2.2.2.2.2.2.2.2.2.2.2.2.2.2.2.2.1
theorem e_X8_whyStop_64 : decode cX8_whyStop 64 = .ok (.getfield 7, 3) := D_X8_whyStop_0.2.2.2.2.2.2.2.2.2.2.2.2.2.2.2.2.2.2.2.2.2.2.2.2.2.2.2.2.2.2.2.2.2.2.2.2.2.2.1
theorem e_X8_whyStop_67 : decode cX8_whyStop 67 = .ok (.bipush 15, 2) := D_X8_whyStop_0.2.2.2.2.2.2.2.2.2.2.2.2.2.2.2.2.2.2.2.2.2.2.2.2.2.2.2.2.2.2.2.2.2.2.2.2.2.2.2.1
set_option maxRecDepth 100000 in
theorem D_X8_whyStop_1 : decode cX8_whyStop 69 = .ok (.iaload, 1) ∧ decode cX8_whyStop 70 = .ok (.if_icmp .lt 7, 3) ∧ decode cX8_whyStop 73 = .ok (.iconst 3, 1) ∧ decode cX8_whyStop 74 = .ok (.goto 4, 3) ∧ decode cX8_whyStop 77 = .ok (.iconst 0, 1) ∧ decode cX8_whyStop 78 = .ok (.ireturn, 1) ∧ True := dq_of (l := (69, .iaload, 1) :: (70, .if_icmp .lt 7, 3) :: (73, .iconst 3, 1) :: (74, .goto 4, 3) :: (77, .iconst 0, 1) :: (78, .ireturn, 1) :: []) (by decide +kernel)
theorem e_X8_whyStop_69 : decode cX8_whyStop 69 = .ok (.iaload, 1) := D_X8_whyStop_1.1
theorem e_X8_whyStop_70 : decode cX8_whyStop 70 = .ok (.if_icmp .lt 7, 3) := D_X8_whyStop_1.2.1
theorem e_X8_whyStop_73 : decode cX8_whyStop 73 = .ok (.iconst 3, 1) := D_X8_whyStop_1.2.2.1
theorem e_X8_whyStop_74 : decode cX8_whyStop 74 = .ok (.goto 4, 3) := D_X8_whyStop_1.2.2.2.1
theorem e_X8_whyStop_77 : decode cX8_whyStop 77 = .ok (.iconst 0, 1) := D_X8_whyStop_1.2.2.2.2.1
theorem e_X8_whyStop_78 : decode cX8_whyStop 78 = .ok (.ireturn, 1) := D_X8_whyStop_1.2.2.2.2.2.1
set_option maxRecDepth 100000 in
theorem D_X8_leaves_0 : decode cX8_leaves 0 = .ok (.aload_n 0, 1) ∧ decode cX8_leaves 1 = .ok (.iload_n 1, 1) ∧ decode cX8_leaves 2 = .ok (.bipush 8, 2) ∧ decode cX8_leaves 4 = .ok (.invokevirtual 64, 3) ∧ decode cX8_leaves 7 = .ok (.aload_n 0, 1) ∧ decode cX8_leaves 8 = .ok (.iload_n 1, 1) ∧ decode cX8_leaves 9 = .ok (.invokevirtual 103, 3) ∧ decode cX8_leaves 12 = .ok (.if_icmp .ne 31, 3) ∧ decode cX8_leaves 15 = .ok (.aload_n 0, 1) ∧ decode cX8_leaves 16 = .ok (.iload_n 1, 1) ∧ decode cX8_leaves 17 = .ok (.invokevirtual 118, 3) ∧ decode cX8_leaves 20 = .ok (.ifCond .eq 19, 3) ∧ decode cX8_leaves 23 = .ok (.aload_n 0, 1) ∧ decode cX8_leaves 24 = .ok (.iload_n 1, 1) ∧ decode cX8_leaves 25 = .ok (.bipush 9, 2) ∧ decode cX8_leaves 27 = .ok (.invokevirtual 64, 3) ∧ decode cX8_leaves 30 = .ok (.aload_n 0, 1) ∧ decode cX8_leaves 31 = .ok (.iload_n 1, 1) ∧ decode cX8_leaves 32 = .ok (.iconst 2, 1) ∧ decode cX8_leaves 33 = .ok (.invokevirtual 64, 3) ∧ decode cX8_leaves 36 = .ok (.if_icmp .ne 7, 3) ∧ decode cX8_leaves 39 = .ok (.iconst 1, 1) ∧ decode cX8_leaves 40 = .ok (.goto 4, 3) ∧ decode cX8_leaves 43 = .ok (.iconst 0, 1) ∧ decode cX8_leaves 44 = .ok (.istore_n 2, 1) ∧ decode cX8_leaves 45 = .ok (.iload_n 2, 1) ∧ decode cX8_leaves 46 = .ok (.ifCond .eq 54, 3) ∧ decode cX8_leaves 49 = .ok (.aload_n 0, 1) ∧ decode cX8_leaves 50 = .ok (.getfield 7, 3) ∧ decode cX8_leaves 53 = .ok (.bipush 7, 2) ∧ decode cX8_leaves 55 = .ok (.aload_n 0, 1) ∧ decode cX8_leaves 56 = .ok (.getfield 7, 3) ∧ decode cX8_leaves 59 = .ok (.bipush 7, 2) ∧ decode cX8_leaves 61 = .ok (.iaload, 1) ∧ decode cX8_leaves 62 = .ok (.aload_n 0, 1) ∧ decode cX8_leaves 63 = .ok (.iload_n 1, 1) ∧ decode cX8_leaves 64 = .ok (.iconst 0, 1) ∧ decode cX8_leaves 65 = .ok (.invokevirtual 64, 3) ∧ decode cX8_leaves 68 = .ok (.if_icmp .ne 8, 3) ∧ decode cX8_leaves 71 = .ok (.bipush (-4), 2) ∧ True := dq_of (l := (0, .aload_n 0, 1) :: (1, .iload_n 1, 1) :: (2, .bipush 8, 2) :: (4, .invokevirtual 64, 3) :: (7, .aload_n 0, 1) :: (8, .iload_n 1, 1) :: (9, .invokevirtual 103, 3) :: (12, .if_icmp .ne 31, 3) :: (15, .aload_n 0, 1) :: (16, .iload_n 1, 1) :: (17, .invokevirtual 118, 3) :: (20, .ifCond .eq 19, 3) :: (23, .aload_n 0, 1) :: (24, .iload_n 1, 1) :: (25, .bipush 9, 2) :: (27, .invokevirtual 64, 3) :: (30, .aload_n 0, 1) :: (31, .iload_n 1, 1) :: (32, .iconst 2, 1) :: (33, .invokevirtual 64, 3) :: (36, .if_icmp .ne 7, 3) :: (39, .iconst 1, 1) :: (40, .goto 4, 3) :: (43, .iconst 0, 1) :: (44, .istore_n 2, 1) :: (45, .iload_n 2, 1) :: (46, .ifCond .eq 54, 3) :: (49, .aload_n 0, 1) :: (50, .getfield 7, 3) :: (53, .bipush 7, 2) :: (55, .aload_n 0, 1) :: (56, .getfield 7, 3) :: (59, .bipush 7, 2) :: (61, .iaload, 1) :: (62, .aload_n 0, 1) :: (63, .iload_n 1, 1) :: (64, .iconst 0, 1) :: (65, .invokevirtual 64, 3) :: (68, .if_icmp .ne 8, 3) :: (71, .bipush (-4), 2) :: []) (by decide +kernel)
theorem e_X8_leaves_0 : decode cX8_leaves 0 = .ok (.aload_n 0, 1) := D_X8_leaves_0.1
theorem e_X8_leaves_1 : decode cX8_leaves 1 = .ok (.iload_n 1, 1) := D_X8_leaves_0.2.1
theorem e_X8_leaves_2 : decode cX8_leaves 2 = .ok (.bipush 8, 2) := D_X8_leaves_0.2.2.1
theorem e_X8_leaves_4 : decode cX8_leaves 4 = .ok (.invokevirtual 64, 3) := D_X8_leaves_0.2.2.2.1
theorem e_X8_leaves_7 : decode cX8_leaves 7 = .ok (.aload_n 0, 1) := D_X8_leaves_0.2.2.2.2.1
theorem e_X8_leaves_8 : decode cX8_leaves 8 = .ok (.iload_n 1, 1) := D_X8_leaves_0.2.2.2.2.2.1
theorem e_X8_leaves_9 : decode cX8_leaves 9 = .ok (.invokevirtual 103, 3) := D_X8_leaves_0.2.2.2.2.2.2.1
theorem e_X8_leaves_12 : decode cX8_leaves 12 = .ok (.if_icmp .ne 31, 3) := D_X8_leaves_0.2.2.2.2.2.2.2.1
theorem e_X8_leaves_15 : decode cX8_leaves 15 = .ok (.aload_n 0, 1) := D_X8_leaves_0.2.2.2.2.2.2.2.2.1
theorem e_X8_leaves_16 : decode cX8_leaves 16 = .ok (.iload_n 1, 1) := D_X8_leaves_0.2.2.2.2.2.2.2.2.2.1
theorem e_X8_leaves_17 : decode cX8_leaves 17 = .ok (.invokevirtual 118, 3) := D_X8_leaves_0.2.2.2.2.2.2.2.2.2.2.1
theorem e_X8_leaves_20 : decode cX8_leaves 20 = .ok (.ifCond .eq 19, 3) := D_X8_leaves_0.2.2.2.2.2.2.2.2.2.2.2.1
theorem e_X8_leaves_23 : decode cX8_leaves 23 = .ok (.aload_n 0, 1) := D_X8_leaves_0.2.2.2.2.2.2.2.2.2.2.2.2.1
theorem e_X8_leaves_24 : decode cX8_leaves 24 = .ok (.iload_n 1, 1) := D_X8_leaves_0.2.2.2.2.2.2.2.2.2.2.2.2.2.1
theorem e_X8_leaves_25 : decode cX8_leaves 25 = .ok (.bipush 9, 2) := D_X8_leaves_0.2.2.2.2.2.2.2.2.2.2.2.2.2.2.1
theorem e_X8_leaves_27 : decode cX8_leaves 27 = .ok (.invokevirtual 64, 3) := D_X8_leaves_0.2.2.2.2.2.2.2.2.2.2.2.2.2.2.2.1
theorem e_X8_leaves_30 : decode cX8_leaves 30 = .ok (.aload_n 0, 1) := D_X8_leaves_0.2.2.2.2.2.2.2.2.2.2.2.2.2.2.2.2.1
theorem e_X8_leaves_31 : decode cX8_leaves 31 = .ok (.iload_n 1, 1) := D_X8_leaves_0.2.2.2.2.2.2.2.2.2.2.2.2.2.2.2.2.2.1
theorem e_X8_leaves_32 : decode cX8_leaves 32 = .ok (.iconst 2, 1) := D_X8_leaves_0.2.2.2.2.2.2.2.2.2.2.2.2.2.2.2.2.2.2.1
theorem e_X8_leaves_33 : decode cX8_leaves 33 = .ok (.invokevirtual 64, 3) := D_X8_leaves_0.2.2.2.2.2.2.2.2.2.2.2.2.2.2.2.2.2.2.2.1
theorem e_X8_leaves_36 : decode cX8_leaves 36 = .ok (.if_icmp .ne 7, 3) := D_X8_leaves_0.2.2.2.2.2.2.2.2.2.2.2.2.2.2.2.2.2.2.2.2.1
theorem e_X8_leaves_39 : decode cX8_leaves 39 = .ok (.iconst 1, 1) := D_X8_leaves_0.2.2.2.2.2.2.2.2.2.2.2.2.2.2.2.2.2.2.2.2.2.1
theorem e_X8_leaves_40 : decode cX8_leaves 40 = .ok (.goto 4, 3) := D_X8_leaves_0.2.2.2.2.2.2.2.2.2.2.2.2.2.2.2.2.2.2.2.2.2.2.1
theorem e_X8_leaves_43 : decode cX8_leaves 43 = .ok (.iconst 0, 1) := D_X8_leaves_0.2.2.2.2.2.2.2.2.2.2.2.2.2.2.2.2.2.2.2.2.2.2.2.1
theorem e_X8_leaves_44 : decode cX8_leaves 44 = .ok (.istore_n 2, 1) := D_X8_leaves_0.2.2.2.2.2.2.2.2.2.2.2.2.2.2.2.2.2.2.2.2.2.2.2.2.1
theorem e_X8_leaves_45 : decode cX8_leaves 45 = .ok (.iload_n 2, 1) := D_X8_leaves_0.2.2.2.2.2.2.2.2.2.2.2.2.2.2.2.2.2.2.2.2.2.2.2.2.2.1
theorem e_X8_leaves_46 : decode cX8_leaves 46 = .ok (.ifCond .eq 54, 3) := D_X8_leaves_0.2.2.2.2.2.2.2.2.2.2.2.2.2.2.2.2.2.2.2.2.2.2.2.2.2.2.1
theorem e_X8_leaves_49 : decode cX8_leaves 49 = .ok (.aload_n 0, 1) := D_X8_leaves_0.2.2.2.2.2.2.2.2.2.2.2.2.2.2.2.2.2.2.2.2.2.2.2.2.2.2.2.1
theorem e_X8_leaves_50 : decode cX8_leaves 50 = .ok (.getfield 7, 3) := D_X8_leaves_0.2.2.2.2.2.2.2.2.2.2.2.2.2.2.2.2.2.2.2.2.2.2.2.2.2.2.2.2.1
theorem e_X8_leaves_53 : decode cX8_leaves 53 = .ok (.bipush 7, 2) := D_X8_leaves_0.2.2.2.2.2.2.2.2.2.2.2.2.2.2.2.2.2.2.2.2.2.2.2.2.2.2.2.2.2.1
theorem e_X8_leaves_55 : decode cX8_leaves 55 = .ok (.aload_n 0, 1) := D_X8_leaves_0.2.2.2.2.2.2.2.2.2.2.2.2.2.2.2.2.2.2.2.2.2.2.2.2.2.2.2.2.2.2.1
theorem e_X8_leaves_56 : decode cX8_leaves 56 = .ok (.getfield 7, 3) := D_X8_leaves_0.2.2.2.2.2.2.2.2.2.2.2.2.2.2.2.2.2.2.2.2.2.2.2.2.2.2.2.2.2.2.2.1
theorem e_X8_leaves_59 : decode cX8_leaves 59 = .ok (.bipush 7, 2) := D_X8_leaves_0.2.2.2.2.2.2.2.2.2.2.2.2.2.2.2.2.2.2.2.2.2.2.2.2.2.2.2.2.2.2.2.2.1
theorem e_X8_leaves_61 : decode cX8_leaves 61 = .ok (.iaload, 1) := D_X8_leaves_0.2.2.2.2.2.2.2.2.2.2.2.2.2.2.2.2.2.2.2.2.2.2.2.2.2.2.2.2.2.2.2.2.2.1
theorem e_X8_leaves_62 : decode cX8_leaves 62 = .ok (.aload_n 0, 1) := D_X8_leaves_0.2.2.2.2.2.2.2.2.2.2.2.2.2.2.2.2.2.2.2.2.2.2.2.2.2.2.2.2.2.2.2.2.2.2.1
theorem e_X8_leaves_63 : decode cX8_leaves 63 = .ok (.iload_n 1, 1) := D_X8_leaves_0.2.2.2.2.2.2.2.2.2.2.2.2.2.2.2.2.2.2.2.2.2.2.2.2.2.2.2.2.2.2.2.2.2.2.2.1
theorem e_X8_leaves_64 : decode cX8_leaves 64 = .ok (.iconst 0, 1) := D_X8_leaves_0.2.2.2.2.2.2.2.2.2.2.2.2.2.2.2.2.2.2.2.2.2.2.2.2.2.2.2.2.2.2.2.2.2.2.2.2.1
theorem e_X8_leaves_65 : decode cX8_leaves 65 = .ok (.invokevirtual 64, 3) := D_X8_leaves_0.2.2.2.2.2.2.2.2.2.2.2.2.2.2.2.2.2.2.2.2.2.2.2.2.2.2.2.2.2.2.2.2.2.2.2.2.2.1
theorem e_X8_leaves_68 : decode cX8_leaves 68 = .ok (.if_icmp .ne 8, 3) := D_X8_leaves_0.2.2.2.2.2.2.2.2.2.2.2.2.2.2.2.2.2.2.2.2.2.2.2.2.2.2.2.2.2.2.2.2.2.2.2.2.2.2.1
theorem e_X8_leaves_71 : decode cX8_leaves 71 = .ok (.bipush (-4), 2) := D_X8_leaves_0.2.2.2.2.2.2.2.2.2.2.2.2.2.2.2.2.2.2.2.2.2.2.2.2.2.2.2.2.2.2.2.2.2.2.2.2.2.2.2.1
set_option maxRecDepth 100000 in
theorem D_X8_leaves_1 : decode cX8_leaves 73 = .ok (.goto 10, 3) ∧ decode cX8_leaves 76 = .ok (.aload_n 0, 1) ∧ decode cX8_leaves 77 = .ok (.getfield 7, 3) ∧ decode cX8_leaves 80 = .ok (.bipush 7, 2) ∧ decode cX8_leaves 82 = .ok (.iaload, 1) ∧ decode cX8_leaves 83 = .ok (.iastore, 1) ∧ decode cX8_leaves 84 = .ok (.aload_n 0, 1) ∧ decode cX8_leaves 85 = .ok (.iload_n 1, 1) ∧ decode cX8_leaves 86 = .ok (.invokevirtual 94, 3) ∧ decode cX8_leaves 89 = .ok (.aload_n 0, 1) ∧ decode cX8_leaves 90 = .ok (.getfield 7, 3) ∧ decode cX8_leaves 93 = .ok (.bipush 21, 2) ∧ decode cX8_leaves 95 = .ok (.dup2, 1) ∧ decode cX8_leaves 96 = .ok (.iaload, 1) ∧ decode cX8_leaves 97 = .ok (.iconst 1, 1) ∧ decode cX8_leaves 98 = .ok (.iadd, 1) ∧ decode cX8_leaves 99 = .ok (.iastore, 1) ∧ decode cX8_leaves 100 = .ok (.return_, 1) ∧ True := dq_of (l := (73, .goto 10, 3) :: (76, .aload_n 0, 1) :: (77, .getfield 7, 3) :: (80, .bipush 7, 2) :: (82, .iaload, 1) :: (83, .iastore, 1) :: (84, .aload_n 0, 1) :: (85, .iload_n 1, 1) :: (86, .invokevirtual 94, 3) :: (89, .aload_n 0, 1) :: (90, .getfield 7, 3) :: (93, .bipush 21, 2) :: (95, .dup2, 1) :: (96, .iaload, 1) :: (97, .iconst 1, 1) :: (98, .iadd, 1) :: (99, .iastore, 1) :: (100, .return_, 1) :: []) (by decide +kernel)
theorem e_X8_leaves_73 : decode cX8_leaves 73 = .ok (.goto 10, 3) := D_X8_leaves_1.1
theorem e_X8_leaves_76 : decode cX8_leaves 76 = .ok (.aload_n 0, 1) := D_X8_leaves_1.2.1
theorem e_X8_leaves_77 : decode cX8_leaves 77 = .ok (.getfield 7, 3) := D_X8_leaves_1.2.2.1
theorem e_X8_leaves_80 : decode cX8_leaves 80 = .ok (.bipush 7, 2) := D_X8_leaves_1.2.2.2.1
theorem e_X8_leaves_82 : decode cX8_leaves 82 = .ok (.iaload, 1) := D_X8_leaves_1.2.2.2.2.1
theorem e_X8_leaves_83 : decode cX8_leaves 83 = .ok (.iastore, 1) := D_X8_leaves_1.2.2.2.2.2.1
theorem e_X8_leaves_84 : decode cX8_leaves 84 = .ok (.aload_n 0, 1) := D_X8_leaves_1.2.2.2.2.2.2.1
theorem e_X8_leaves_85 : decode cX8_leaves 85 = .ok (.iload_n 1, 1) := D_X8_leaves_1.2.2.2.2.2.2.2.1
theorem e_X8_leaves_86 : decode cX8_leaves 86 = .ok (.invokevirtual 94, 3) := D_X8_leaves_1.2.2.2.2.2.2.2.2.1
theorem e_X8_leaves_89 : decode cX8_leaves 89 = .ok (.aload_n 0, 1) := D_X8_leaves_1.2.2.2.2.2.2.2.2.2.1
theorem e_X8_leaves_90 : decode cX8_leaves 90 = .ok (.getfield 7, 3) := D_X8_leaves_1.2.2.2.2.2.2.2.2.2.2.1
theorem e_X8_leaves_93 : decode cX8_leaves 93 = .ok (.bipush 21, 2) := D_X8_leaves_1.2.2.2.2.2.2.2.2.2.2.2.1
theorem e_X8_leaves_95 : decode cX8_leaves 95 = .ok (.dup2, 1) := D_X8_leaves_1.2.2.2.2.2.2.2.2.2.2.2.2.1
theorem e_X8_leaves_96 : decode cX8_leaves 96 = .ok (.iaload, 1) := D_X8_leaves_1.2.2.2.2.2.2.2.2.2.2.2.2.2.1
theorem e_X8_leaves_97 : decode cX8_leaves 97 = .ok (.iconst 1, 1) := D_X8_leaves_1.2.2.2.2.2.2.2.2.2.2.2.2.2.2.1
theorem e_X8_leaves_98 : decode cX8_leaves 98 = .ok (.iadd, 1) := D_X8_leaves_1.2.2.2.2.2.2.2.2.2.2.2.2.2.2.2.1
theorem e_X8_leaves_99 : decode cX8_leaves 99 = .ok (.iastore, 1) := D_X8_leaves_1.2.2.2.2.2.2.2.2.2.2.2.2.2.2.2.2.1
theorem e_X8_leaves_100 : decode cX8_leaves 100 = .ok (.return_, 1) := D_X8_leaves_1.2.2.2.2.2.2.2.2.2.2.2.2.2.2.2.2.2.1
set_option maxRecDepth 100000 in
theorem D_X8_stapled_0 : decode cX8_stapled 0 = .ok (.aload_n 0, 1) ∧ decode cX8_stapled 1 = .ok (.iload_n 1, 1) ∧ decode cX8_stapled 2 = .ok (.invokevirtual 118, 3) ∧ decode cX8_stapled 5 = .ok (.aload_n 0, 1) ∧ decode cX8_stapled 6 = .ok (.getfield 7, 3) ∧ decode cX8_stapled 9 = .ok (.iconst 3, 1) ∧ decode cX8_stapled 10 = .ok (.iaload, 1) ∧ decode cX8_stapled 11 = .ok (.if_icmp .ge 11, 3) ∧ decode cX8_stapled 14 = .ok (.aload_n 0, 1) ∧ decode cX8_stapled 15 = .ok (.iload_n 1, 1) ∧ decode cX8_stapled 16 = .ok (.invokevirtual 118, 3) ∧ decode cX8_stapled 19 = .ok (.goto 9, 3) ∧ decode cX8_stapled 22 = .ok (.aload_n 0, 1) ∧ decode cX8_stapled 23 = .ok (.getfield 7, 3) ∧ decode cX8_stapled 26 = .ok (.iconst 3, 1) ∧ decode cX8_stapled 27 = .ok (.iaload, 1) ∧ decode cX8_stapled 28 = .ok (.istore_n 2, 1) ∧ decode cX8_stapled 29 = .ok (.aload_n 0, 1) ∧ decode cX8_stapled 30 = .ok (.getfield 7, 3) ∧ decode cX8_stapled 33 = .ok (.iconst 3, 1) ∧ decode cX8_stapled 34 = .ok (.dup2, 1) ∧ decode cX8_stapled 35 = .ok (.iaload, 1) ∧ decode cX8_stapled 36 = .ok (.iload_n 2, 1) ∧ decode cX8_stapled 37 = .ok (.isub, 1) ∧ decode cX8_stapled 38 = .ok (.iastore, 1) ∧ decode cX8_stapled 39 = .ok (.aload_n 0, 1) ∧ decode cX8_stapled 40 = .ok (.getfield 7, 3) ∧ decode cX8_stapled 43 = .ok (.bipush 20, 2) ∧ decode cX8_stapled 45 = .ok (.dup2, 1) ∧ decode cX8_stapled 46 = .ok (.iaload, 1) ∧ decode cX8_stapled 47 = .ok (.iload_n 2, 1) ∧ decode cX8_stapled 48 = .ok (.iadd, 1) ∧ decode cX8_stapled 49 = .ok (.iastore, 1) ∧ decode cX8_stapled 50 = .ok (.aload_n 0, 1) ∧ decode cX8_stapled 51 = .ok (.getfield 7, 3) ∧ decode cX8_stapled 54 = .ok (.iload_n 1, 1) ∧ decode cX8_stapled 55 = .ok (.invokestatic 60, 3) ∧ decode cX8_stapled 58 = .ok (.bipush 9, 2) ∧ decode cX8_stapled 60 = .ok (.iadd, 1) ∧ decode cX8_stapled 61 = .ok (.dup2, 1) ∧ True := dq_of (l := (0, .aload_n 0, 1) :: (1, .iload_n 1, 1) :: (2, .invokevirtual 118, 3) :: (5, .aload_n 0, 1) :: (6, .getfield 7, 3) :: (9, .iconst 3, 1) :: (10, .iaload, 1) :: (11, .if_icmp .ge 11, 3) :: (14, .aload_n 0, 1) :: (15, .iload_n 1, 1) :: (16, .invokevirtual 118, 3) :: (19, .goto 9, 3) :: (22, .aload_n 0, 1) :: (23, .getfield 7, 3) :: (26, .iconst 3, 1) :: (27, .iaload, 1) :: (28, .istore_n 2, 1) :: (29, .aload_n 0, 1) :: (30, .getfield 7, 3) :: (33, .iconst 3, 1) :: (34, .dup2, 1) :: (35, .iaload, 1) :: (36, .iload_n 2, 1) :: (37, .isub, 1) :: (38, .iastore, 1) :: (39, .aload_n 0, 1) :: (40, .getfield 7, 3) :: (43, .bipush 20, 2) :: (45, .dup2, 1) :: (46, .iaload, 1) :: (47, .iload_n 2, 1) :: (48, .iadd, 1) :: (49, .iastore, 1) :: (50, .aload_n 0, 1) :: (51, .getfield 7, 3) :: (54, .iload_n 1, 1) :: (55, .invokestatic 60, 3) :: (58, .bipush 9, 2) :: (60, .iadd, 1) :: (61, .dup2, 1) :: []) (by decide +kernel)
theorem e_X8_stapled_0 : decode cX8_stapled 0 = .ok (.aload_n 0, 1) := D_X8_stapled_0.1
theorem e_X8_stapled_1 : decode cX8_stapled 1 = .ok (.iload_n 1, 1) := D_X8_stapled_0.2.1
theorem e_X8_stapled_2 : decode cX8_stapled 2 = .ok (.invokevirtual 118, 3) := D_X8_stapled_0.2.2.1
theorem e_X8_stapled_5 : decode cX8_stapled 5 = .ok (.aload_n 0, 1) := D_X8_stapled_0.2.2.2.1
theorem e_X8_stapled_6 : decode cX8_stapled 6 = .ok (.getfield 7, 3) := D_X8_stapled_0.2.2.2.2.1
theorem e_X8_stapled_9 : decode cX8_stapled 9 = .ok (.iconst 3, 1) := D_X8_stapled_0.2.2.2.2.2.1
theorem e_X8_stapled_10 : decode cX8_stapled 10 = .ok (.iaload, 1) := D_X8_stapled_0.2.2.2.2.2.2.1
theorem e_X8_stapled_11 : decode cX8_stapled 11 = .ok (.if_icmp .ge 11, 3) := D_X8_stapled_0.2.2.2.2.2.2.2.1
theorem e_X8_stapled_14 : decode cX8_stapled 14 = .ok (.aload_n 0, 1) := D_X8_stapled_0.2.2.2.2.2.2.2.2.1
theorem e_X8_stapled_15 : decode cX8_stapled 15 = .ok (.iload_n 1, 1) := D_X8_stapled_0.2.2.2.2.2.2.2.2.2.1
theorem e_X8_stapled_16 : decode cX8_stapled 16 = .ok (.invokevirtual 118, 3) := D_X8_stapled_0.2.2.2.2.2.2.2.2.2.2.1
theorem e_X8_stapled_19 : decode cX8_stapled 19 = .ok (.goto 9, 3) := D_X8_stapled_0.2.2.2.2.2.2.2.2.2.2.2.1
theorem e_X8_stapled_22 : decode cX8_stapled 22 = .ok (.aload_n 0, 1) := D_X8_stapled_0.2.2.2.2.2.2.2.2.2.2.2.2.1
theorem e_X8_stapled_23 : decode cX8_stapled 23 = .ok (.getfield 7, 3) := D_X8_stapled_0.2.2.2.2.2.2.2.2.2.2.2.2.2.1
theorem e_X8_stapled_26 : decode cX8_stapled 26 = .ok (.iconst 3, 1) := D_X8_stapled_0.2.2.2.2.2.2.2.2.2.2.2.2.2.2.1
theorem e_X8_stapled_27 : decode cX8_stapled 27 = .ok (.iaload, 1) := D_X8_stapled_0.2.2.2.2.2.2.2.2.2.2.2.2.2.2.2.1
theorem e_X8_stapled_28 : decode cX8_stapled 28 = .ok (.istore_n 2, 1) := D_X8_stapled_0.2.2.2.2.2.2.2.2.2.2.2.2.2.2.2.2.1
theorem e_X8_stapled_29 : decode cX8_stapled 29 = .ok (.aload_n 0, 1) := D_X8_stapled_0.2.2.2.2.2.2.2.2.2.2.2.2.2.2.2.2.2.1
theorem e_X8_stapled_30 : decode cX8_stapled 30 = .ok (.getfield 7, 3) := D_X8_stapled_0.2.2.2.2.2.2.2.2.2.2.2.2.2.2.2.2.2.2.1
theorem e_X8_stapled_33 : decode cX8_stapled 33 = .ok (.iconst 3, 1) := D_X8_stapled_0.2.2.2.2.2.2.2.2.2.2.2.2.2.2.2.2.2.2.2.1
theorem e_X8_stapled_34 : decode cX8_stapled 34 = .ok (.dup2, 1) := D_X8_stapled_0.2.2.2.2.2.2.2.2.2.2.2.2.2.2.2.2.2.2.2.2.1
theorem e_X8_stapled_35 : decode cX8_stapled 35 = .ok (.iaload, 1) := D_X8_stapled_0.2.2.2.2.2.2.2.2.2.2.2.2.2.2.2.2.2.2.2.2.2.1
theorem e_X8_stapled_36 : decode cX8_stapled 36 = .ok (.iload_n 2, 1) := D_X8_stapled_0.2.2.2.2.2.2.2.2.2.2.2.2.2.2.2.2.2.2.2.2.2.2.1
theorem e_X8_stapled_37 : decode cX8_stapled 37 = .ok (.isub, 1) := D_X8_stapled_0.2.2.2.2.2.2.2.2.2.2.2.2.2.2.2.2.2.2.2.2.2.2.2.1
theorem e_X8_stapled_38 : decode cX8_stapled 38 = .ok (.iastore, 1) := D_X8_stapled_0.2.2.2.2.2.2.2.2.2.2.2.2.2.2.2.2.2.2.2.2.2.2.2.2.1
theorem e_X8_stapled_39 : decode cX8_stapled 39 = .ok (.aload_n 0, 1) := D_X8_stapled_0.2.2.2.2.2.2.2.2.2.2.2.2.2.2.2.2.2.2.2.2.2.2.2.2.2.1
theorem e_X8_stapled_40 : decode cX8_stapled 40 = .ok (.getfield 7, 3) := D_X8_stapled_0.2.2.2.2.2.2.2.2.2.2.2.2.2.2.2.2.2.2.2.2.2.2.2.2.2.2.1
theorem e_X8_stapled_43 : decode cX8_stapled 43 = .ok (.bipush 20, 2) := D_X8_stapled_0.2.2.2.2.2.2.2.2.2.2.2.2.2.2.2.2.2.2.2.2.2.2.2.2.2.2.2.1
theorem e_X8_stapled_45 : decode cX8_stapled 45 = .ok (.dup2, 1) := D_X8_stapled_0.2.2.2.2.2.2.2.2.2.2.2.2.2.2.2.2.2.2.2.2.2.2.2.2.2.2.2.2.1
theorem e_X8_stapled_46 : decode cX8_stapled 46 = .ok (.iaload, 1) := D_X8_stapled_0.2.2.2.2.2.2.2.2.2.2.2.2.2.2.2.2.2.2.2.2.2.2.2.2.2.2.2.2.2.1
theorem e_X8_stapled_47 : decode cX8_stapled 47 = .ok (.iload_n 2, 1) := D_X8_stapled_0.2.2.2.2.2.2.2.2.2.2.2.2.2.2.2.2.2.2.2.2.2.2.2.2.2.2.2.2.2.2.1
theorem e_X8_stapled_48 : decode cX8_stapled 48 = .ok (.iadd, 1) := D_X8_stapled_0.2.2.2.2.2.2.2.2.2.2.2.2.2.2.2.2.2.2.2.2.2.2.2.2.2.2.2.2.2.2.2.1
theorem e_X8_stapled_49 : decode cX8_stapled 49 = .ok (.iastore, 1) := D_X8_stapled_0.2.2.2.2.2.2.2.2.2.2.2.2.2.2.2.2.2.2.2.2.2.2.2.2.2.2.2.2.2.2.2.2.1
theorem e_X8_stapled_50 : decode cX8_stapled 50 = .ok (.aload_n 0, 1) := D_X8_stapled_0.2.2.2.2.2.2.2.2.2.2.2.2.2.2.2.2.2.2.2.2.2.2.2.2.2.2.2.2.2.2.2.2.2.1
theorem e_X8_stapled_51 : decode cX8_stapled 51 = .ok (.getfield 7, 3) := D_X8_stapled_0.2.2.2.2.2.2.2.2.2.2.2.2.2.2.2.2.2.2.2.2.2.2.2.2.2.2.2.2.2.2.2.2.2.2.1
theorem e_X8_stapled_54 : decode cX8_stapled 54 = .ok (.iload_n 1, 1) := D_X8_stapled_0.2.2.2.2.2.2.2.2.2.2.2.2.2.2.2.2.2.2.2.2.2.2.2.2.2.2.2.2.2.2.2.2.2.2.2.1
theorem e_X8_stapled_55 : decode cX8_stapled 55 = .ok (.invokestatic 60, 3) := D_X8_stapled_0.2.2.2.2.2.2.2.2.2.2.2.2.2.2.2.2.2.2.2.2.2.2.2.2.2.2.2.2.2.2.2.2.2.2.2.2.1
theorem e_X8_stapled_58 : decode cX8_stapled 58 = .ok (.bipush 9, 2) := D_X8_stapled_0.2.2.2.2.2.2.2.2.2.2.2.2.2.2.2.2.2.2.2.2.2.2.2.2.2.2.2.2.2.2.2.2.2.2.2.2.2.1
theorem e_X8_stapled_60 : decode cX8_stapled 60 = .ok (.iadd, 1) := D_X8_stapled_0.2.2.2.2.2.2.2.2.2.2.2.2.2.2.2.2.2.2.2.2.2.2.2.2.2.2.2.2.2.2.2.2.2.2.2.2.2.2.1
theorem e_X8_stapled_61 : decode cX8_stapled 61 = .ok (.dup2, 1) := D_X8_stapled_0.2.2.2.2.2.2.2.2.2.2.2.2.2.2.2.2.2.2.2.2.2.2.2.2.2.2.2.2.2.2.2.2.2.2.2.2.2.2.2.1
set_option maxRecDepth 100000 in
theorem D_X8_stapled_1 : decode cX8_stapled 62 = .ok (.iaload, 1) ∧ decode cX8_stapled 63 = .ok (.iconst 1, 1) ∧ decode cX8_stapled 64 = .ok (.iadd, 1) ∧ decode cX8_stapled 65 = .ok (.iastore, 1) ∧ decode cX8_stapled 66 = .ok (.aload_n 0, 1) ∧ decode cX8_stapled 67 = .ok (.iload_n 1, 1) ∧ decode cX8_stapled 68 = .ok (.invokevirtual 124, 3) ∧ decode cX8_stapled 71 = .ok (.return_, 1) ∧ True := dq_of (l := (62, .iaload, 1) :: (63, .iconst 1, 1) :: (64, .iadd, 1) :: (65, .iastore, 1) :: (66, .aload_n 0, 1) :: (67, .iload_n 1, 1) :: (68, .invokevirtual 124, 3) :: (71, .return_, 1) :: []) (by decide +kernel)
theorem e_X8_stapled_62 : decode cX8_stapled 62 = .ok (.iaload, 1) := D_X8_stapled_1.1
theorem e_X8_stapled_63 : decode cX8_stapled 63 = .ok (.iconst 1, 1) := D_X8_stapled_1.2.1
theorem e_X8_stapled_64 : decode cX8_stapled 64 = .ok (.iadd, 1) := D_X8_stapled_1.2.2.1
theorem e_X8_stapled_65 : decode cX8_stapled 65 = .ok (.iastore, 1) := D_X8_stapled_1.2.2.2.1
theorem e_X8_stapled_66 : decode cX8_stapled 66 = .ok (.aload_n 0, 1) := D_X8_stapled_1.2.2.2.2.1
theorem e_X8_stapled_67 : decode cX8_stapled 67 = .ok (.iload_n 1, 1) := D_X8_stapled_1.2.2.2.2.2.1
theorem e_X8_stapled_68 : decode cX8_stapled 68 = .ok (.invokevirtual 124, 3) := D_X8_stapled_1.2.2.2.2.2.2.1
theorem e_X8_stapled_71 : decode cX8_stapled 71 = .ok (.return_, 1) := D_X8_stapled_1.2.2.2.2.2.2.2.1
set_option maxRecDepth 100000 in
theorem D_X8_takesPaper_0 : decode cX8_takesPaper 0 = .ok (.iconst 0, 1) ∧ decode cX8_takesPaper 1 = .ok (.istore_n 3, 1) ∧ decode cX8_takesPaper 2 = .ok (.aload_n 0, 1) ∧ decode cX8_takesPaper 3 = .ok (.iload_n 3, 1) ∧ decode cX8_takesPaper 4 = .ok (.iload_n 1, 1) ∧ decode cX8_takesPaper 5 = .ok (.iload_n 2, 1) ∧ decode cX8_takesPaper 6 = .ok (.invokevirtual 47, 3) ∧ decode cX8_takesPaper 9 = .ok (.ifCond .eq 19, 3) ∧ decode cX8_takesPaper 12 = .ok (.aload_n 0, 1) ∧ decode cX8_takesPaper 13 = .ok (.getfield 7, 3) ∧ decode cX8_takesPaper 16 = .ok (.bipush 25, 2) ∧ decode cX8_takesPaper 18 = .ok (.iconst 3, 1) ∧ decode cX8_takesPaper 19 = .ok (.iload_n 3, 1) ∧ decode cX8_takesPaper 20 = .ok (.imul, 1) ∧ decode cX8_takesPaper 21 = .ok (.iadd, 1) ∧ decode cX8_takesPaper 22 = .ok (.iconst 2, 1) ∧ decode cX8_takesPaper 23 = .ok (.iadd, 1) ∧ decode cX8_takesPaper 24 = .ok (.iaload, 1) ∧ decode cX8_takesPaper 25 = .ok (.ifCond .ne 9, 3) ∧ decode cX8_takesPaper 28 = .ok (.iinc 3 1, 3) ∧ decode cX8_takesPaper 31 = .ok (.goto (-29), 3) ∧ decode cX8_takesPaper 34 = .ok (.aload_n 0, 1) ∧ decode cX8_takesPaper 35 = .ok (.getfield 7, 3) ∧ decode cX8_takesPaper 38 = .ok (.bipush 25, 2) ∧ decode cX8_takesPaper 40 = .ok (.iconst 3, 1) ∧ decode cX8_takesPaper 41 = .ok (.iload_n 3, 1) ∧ decode cX8_takesPaper 42 = .ok (.imul, 1) ∧ decode cX8_takesPaper 43 = .ok (.iadd, 1) ∧ decode cX8_takesPaper 44 = .ok (.iconst 2, 1) ∧ decode cX8_takesPaper 45 = .ok (.iadd, 1) ∧ decode cX8_takesPaper 46 = .ok (.dup2, 1) ∧ decode cX8_takesPaper 47 = .ok (.iaload, 1) ∧ decode cX8_takesPaper 48 = .ok (.iconst 1, 1) ∧ decode cX8_takesPaper 49 = .ok (.isub, 1) ∧ decode cX8_takesPaper 50 = .ok (.iastore, 1) ∧ decode cX8_takesPaper 51 = .ok (.aload_n 0, 1) ∧ decode cX8_takesPaper 52 = .ok (.getfield 7, 3) ∧ decode cX8_takesPaper 55 = .ok (.bipush 16, 2) ∧ decode cX8_takesPaper 57 = .ok (.dup2, 1) ∧ decode cX8_takesPaper 58 = .ok (.iaload, 1) ∧ True := dq_of (l := (0, .iconst 0, 1) :: (1, .istore_n 3, 1) :: (2, .aload_n 0, 1) :: (3, .iload_n 3, 1) :: (4, .iload_n 1, 1) :: (5, .iload_n 2, 1) :: (6, .invokevirtual 47, 3) :: (9, .ifCond .eq 19, 3) :: (12, .aload_n 0, 1) :: (13, .getfield 7, 3) :: (16, .bipush 25, 2) :: (18, .iconst 3, 1) :: (19, .iload_n 3, 1) :: (20, .imul, 1) :: (21, .iadd, 1) :: (22, .iconst 2, 1) :: (23, .iadd, 1) :: (24, .iaload, 1) :: (25, .ifCond .ne 9, 3) :: (28, .iinc 3 1, 3) :: (31, .goto (-29), 3) :: (34, .aload_n 0, 1) :: (35, .getfield 7, 3) :: (38, .bipush 25, 2) :: (40, .iconst 3, 1) :: (41, .iload_n 3, 1) :: (42, .imul, 1) :: (43, .iadd, 1) :: (44, .iconst 2, 1) :: (45, .iadd, 1) :: (46, .dup2, 1) :: (47, .iaload, 1) :: (48, .iconst 1, 1) :: (49, .isub, 1) :: (50, .iastore, 1) :: (51, .aload_n 0, 1) :: (52, .getfield 7, 3) :: (55, .bipush 16, 2) :: (57, .dup2, 1) :: (58, .iaload, 1) :: []) (by decide +kernel)
theorem e_X8_takesPaper_0 : decode cX8_takesPaper 0 = .ok (.iconst 0, 1) := D_X8_takesPaper_0.1
theorem e_X8_takesPaper_1 : decode cX8_takesPaper 1 = .ok (.istore_n 3, 1) := D_X8_takesPaper_0.2.1
theorem e_X8_takesPaper_2 : decode cX8_takesPaper 2 = .ok (.aload_n 0, 1) := D_X8_takesPaper_0.2.2.1
theorem e_X8_takesPaper_3 : decode cX8_takesPaper 3 = .ok (.iload_n 3, 1) := D_X8_takesPaper_0.2.2.2.1
theorem e_X8_takesPaper_4 : decode cX8_takesPaper 4 = .ok (.iload_n 1, 1) := D_X8_takesPaper_0.2.2.2.2.1
theorem e_X8_takesPaper_5 : decode cX8_takesPaper 5 = .ok (.iload_n 2, 1) := D_X8_takesPaper_0.2.2.2.2.2.1
theorem e_X8_takesPaper_6 : decode cX8_takesPaper 6 = .ok (.invokevirtual 47, 3) := D_X8_takesPaper_0.2.2.2.2.2.2.1
theorem e_X8_takesPaper_9 : decode cX8_takesPaper 9 = .ok (.ifCond .eq 19, 3) := D_X8_takesPaper_0.2.2.2.2.2.2.2.1
theorem e_X8_takesPaper_12 : decode cX8_takesPaper 12 = .ok (.aload_n 0, 1) := D_X8_takesPaper_0.2.2.2.2.2.2.2.2.1
theorem e_X8_takesPaper_13 : decode cX8_takesPaper 13 = .ok (.getfield 7, 3) := D_X8_takesPaper_0.2.2.2.2.2.2.2.2.2.1
theorem e_X8_takesPaper_16 : decode cX8_takesPaper 16 = .ok (.bipush 25, 2) := D_X8_takesPaper_0.2.2.2.2.2.2.2.2.2.2.1
theorem e_X8_takesPaper_18 : decode cX8_takesPaper 18 = .ok (.iconst 3, 1) := D_X8_takesPaper_0.2.2.2.2.2.2.2.2.2.2.2.1
theorem e_X8_takesPaper_19 : decode cX8_takesPaper 19 = .ok (.iload_n 3, 1) := D_X8_takesPaper_0.2.2.2.2.2.2.2.2.2.2.2.2.1
theorem e_X8_takesPaper_20 : decode cX8_takesPaper 20 = .ok (.imul, 1) := D_X8_takesPaper_0.2.2.2.2.2.2.2.2.2.2.2.2.2.1
theorem e_X8_takesPaper_21 : decode cX8_takesPaper 21 = .ok (.iadd, 1) := D_X8_takesPaper_0.2.2.2.2.2.2.2.2.2.2.2.2.2.2.1
theorem e_X8_takesPaper_22 : decode cX8_takesPaper 22 = .ok (.iconst 2, 1) := D_X8_takesPaper_0.2.2.2.2.2.2.2.2.2.2.2.2.2.2.2.1
theorem e_X8_takesPaper_23 : decode cX8_takesPaper 23 = .ok (.iadd, 1) := D_X8_takesPaper_0.2.2.2.2.2.2.2.2.2.2.2.2.2.2.2.2.1
theorem e_X8_takesPaper_24 : decode cX8_takesPaper 24 = .ok (.iaload, 1) := D_X8_takesPaper_0.2.2.2.2.2.2.2.2.2.2.2.2.2.2.2.2.2.1
theorem e_X8_takesPaper_25 : decode cX8_takesPaper 25 = .ok (.ifCond .ne 9, 3) := D_X8_takesPaper_0.2.2.2.2.2.2.2.2.2.2.2.2.2.2.2.2.2.2.1
theorem e_X8_takesPaper_28 : decode cX8_takesPaper 28 = .ok (.iinc 3 1, 3) := D_X8_takesPaper_0.2.2.2.2.2.2.2.2.2.2.2.2.2.2.2.2.2.2.2.1
theorem e_X8_takesPaper_31 : decode cX8_takesPaper 31 = .ok (.goto (-29), 3) := D_X8_takesPaper_0.2.2.2.2.2.2.2.2.2.2.2.2.2.2.2.2.2.2.2.2.1
theorem e_X8_takesPaper_34 : decode cX8_takesPaper 34 = .ok (.aload_n 0, 1) := D_X8_takesPaper_0.2.2.2.2.2.2.2.2.2.2.2.2.2.2.2.2.2.2.2.2.2.1
theorem e_X8_takesPaper_35 : decode cX8_takesPaper 35 = .ok (.getfield 7, 3) := D_X8_takesPaper_0.2.2.2.2.2.2.2.2.2.2.2.2.2.2.2.2.2.2.2.2.2.2.1
theorem e_X8_takesPaper_38 : decode cX8_takesPaper 38 = .ok (.bipush 25, 2) := D_X8_takesPaper_0.2.2.2.2.2.2.2.2.2.2.2.2.2.2.2.2.2.2.2.2.2.2.2.1
theorem e_X8_takesPaper_40 : decode cX8_takesPaper 40 = .ok (.iconst 3, 1) := D_X8_takesPaper_0.2.2.2.2.2.2.2.2.2.2.2.2.2.2.2.2.2.2.2.2.2.2.2.2.1
theorem e_X8_takesPaper_41 : decode cX8_takesPaper 41 = .ok (.iload_n 3, 1) := D_X8_takesPaper_0.2.2.2.2.2.2.2.2.2.2.2.2.2.2.2.2.2.2.2.2.2.2.2.2.2.1
theorem e_X8_takesPaper_42 : decode cX8_takesPaper 42 = .ok (.imul, 1) := D_X8_takesPaper_0.2.2.2.2.2.2.2.2.2.2.2.2.2.2.2.2.2.2.2.2.2.2.2.2.2.2.1
theorem e_X8_takesPaper_43 : decode cX8_takesPaper 43 = .ok (.iadd, 1) := D_X8_takesPaper_0.2.2.2.2.2.2.2.2.2.2.2.2.2.2.2.2.2.2.2.2.2.2.2.2.2.2.2.1
theorem e_X8_takesPaper_44 : decode cX8_takesPaper 44 = .ok (.iconst 2, 1) := D_X8_takesPaper_0.2.2.2.2.2.2.2.2.2.2.2.2.2.2.2.2.2.2.2.2.2.2.2.2.2.2.2.2.1
theorem e_X8_takesPaper_45 : decode cX8_takesPaper 45 = .ok (.iadd, 1) := D_X8_takesPaper_0.2.2.2.2.2.2.2.2.2.2.2.2.2.2.2.2.2.2.2.2.2.2.2.2.2.2.2.2.2.1
theorem e_X8_takesPaper_46 : decode cX8_takesPaper 46 = .ok (.dup2, 1) := D_X8_takesPaper_0.2.2.2.2.2.2.2.2.2.2.2.2.2.2.2.2.2.2.2.2.2.2.2.2.2.2.2.2.2.2.1
theorem e_X8_takesPaper_47 : decode cX8_takesPaper 47 = .ok (.iaload, 1) := D_X8_takesPaper_0.2.2.2.2.2.2.2.2.2.2.2.2.2.2.2.2.2.2.2.2.2.2.2.2.2.2.2.2.2.2.2.1
theorem e_X8_takesPaper_48 : decode cX8_takesPaper 48 = .ok (.iconst 1, 1) := D_X8_takesPaper_0.2.2.2.2.2.2.2.2.2.2.2.2.2.2.2.2.2.2.2.2.2.2.2.2.2.2.2.2.2.2.2.2.1
theorem e_X8_takesPaper_49 : decode cX8_takesPaper 49 = .ok (.isub, 1) := D_X8_takesPaper_0.2.2.2.2.2.2.2.2.2.2.2.2.2.2.2.2.2.2.2.2.2.2.2.2.2.2.2.2.2.2.2.2.2.1
theorem e_X8_takesPaper_50 : decode cX8_takesPaper 50 = .ok (.iastore, 1) := D_X8_takesPaper_0.2.2.2.2.2.2.2.2.2.2.2.2.2.2.2.2.2.2.2.2.2.2.2.2.2.2.2.2.2.2.2.2.2.2.1
theorem e_X8_takesPaper_51 : decode cX8_takesPaper 51 = .ok (.aload_n 0, 1) := D_X8_takesPaper_0.2.2.2.2.2.2.2.2.2.2.2.2.2.2.2.2.2.2.2.2.2.2.2.2.2.2.2.2.2.2.2.2.2.2.2.1
theorem e_X8_takesPaper_52 : decode cX8_takesPaper 52 = .ok (.getfield 7, 3) := D_X8_takesPaper_0.2.2.2.2.2.2.2.2.2.2.2.2.2.2.2.2.2.2.2.2.2.2.2.2.2.2.2.2.2.2.2.2.2.2.2.2.1
theorem e_X8_takesPaper_55 : decode cX8_takesPaper 55 = .ok (.bipush 16, 2) := D_X8_takesPaper_0.2.2.2.2.2.2.2.2.2.2.2.2.2.2.2.2.2.2.2.2.2.2.2.2.2.2.2.2.2.2.2.2.2.2.2.2.2.1
theorem e_X8_takesPaper_57 : decode cX8_takesPaper 57 = .ok (.dup2, 1) := D_X8_takesPaper_0.2.2.2.2.2.2.2.2.2.2.2.2.2.2.2.2.2.2.2.2.2.2.2.2.2.2.2.2.2.2.2.2.2.2.2.2.2.2.1
theorem e_X8_takesPaper_58 : decode cX8_takesPaper 58 = .ok (.iaload, 1) := D_X8_takesPaper_0.2.2.2.2.2.2.2.2.2.2.2.2.2.2.2.2.2.2.2.2.2.2.2.2.2.2.2.2.2.2.2.2.2.2.2.2.2.2.2.1
set_option maxRecDepth 100000 in
theorem D_X8_takesPaper_1 : decode cX8_takesPaper 59 = .ok (.iconst 1, 1) ∧ decode cX8_takesPaper 60 = .ok (.iadd, 1) ∧ decode cX8_takesPaper 61 = .ok (.iastore, 1) ∧ decode cX8_takesPaper 62 = .ok (.iconst 0, 1) ∧ decode cX8_takesPaper 63 = .ok (.istore 4, 2) ∧ decode cX8_takesPaper 65 = .ok (.iload 4, 2) ∧ decode cX8_takesPaper 67 = .ok (.aload_n 0, 1) ∧ decode cX8_takesPaper 68 = .ok (.getfield 7, 3) ∧ decode cX8_takesPaper 71 = .ok (.bipush 9, 2) ∧ decode cX8_takesPaper 73 = .ok (.iaload, 1) ∧ decode cX8_takesPaper 74 = .ok (.if_icmp .ge 43, 3) ∧ decode cX8_takesPaper 77 = .ok (.aload_n 0, 1) ∧ decode cX8_takesPaper 78 = .ok (.getfield 7, 3) ∧ decode cX8_takesPaper 81 = .ok (.bipush 37, 2) ∧ decode cX8_takesPaper 83 = .ok (.iconst 3, 1) ∧ decode cX8_takesPaper 84 = .ok (.iload 4, 2) ∧ decode cX8_takesPaper 86 = .ok (.imul, 1) ∧ decode cX8_takesPaper 87 = .ok (.iadd, 1) ∧ decode cX8_takesPaper 88 = .ok (.iaload, 1) ∧ decode cX8_takesPaper 89 = .ok (.iload_n 1, 1) ∧ decode cX8_takesPaper 90 = .ok (.if_icmp .ne 21, 3) ∧ decode cX8_takesPaper 93 = .ok (.aload_n 0, 1) ∧ decode cX8_takesPaper 94 = .ok (.getfield 7, 3) ∧ decode cX8_takesPaper 97 = .ok (.bipush 37, 2) ∧ decode cX8_takesPaper 99 = .ok (.iconst 3, 1) ∧ decode cX8_takesPaper 100 = .ok (.iload 4, 2) ∧ decode cX8_takesPaper 102 = .ok (.imul, 1) ∧ decode cX8_takesPaper 103 = .ok (.iadd, 1) ∧ decode cX8_takesPaper 104 = .ok (.iconst 1, 1) ∧ decode cX8_takesPaper 105 = .ok (.iadd, 1) ∧ decode cX8_takesPaper 106 = .ok (.iaload, 1) ∧ decode cX8_takesPaper 107 = .ok (.iload_n 2, 1) ∧ decode cX8_takesPaper 108 = .ok (.if_icmp .eq 9, 3) ∧ decode cX8_takesPaper 111 = .ok (.iinc 4 1, 3) ∧ decode cX8_takesPaper 114 = .ok (.goto (-49), 3) ∧ decode cX8_takesPaper 117 = .ok (.iload 4, 2) ∧ decode cX8_takesPaper 119 = .ok (.aload_n 0, 1) ∧ decode cX8_takesPaper 120 = .ok (.getfield 7, 3) ∧ decode cX8_takesPaper 123 = .ok (.bipush 9, 2) ∧ decode cX8_takesPaper 125 = .ok (.iaload, 1) ∧ True := dq_of (l := (59, .iconst 1, 1) :: (60, .iadd, 1) :: (61, .iastore, 1) :: (62, .iconst 0, 1) :: (63, .istore 4, 2) :: (65, .iload 4, 2) :: (67, .aload_n 0, 1) :: (68, .getfield 7, 3) :: (71, .bipush 9, 2) :: (73, .iaload, 1) :: (74, .if_icmp .ge 43, 3) :: (77, .aload_n 0, 1) :: (78, .getfield 7, 3) :: (81, .bipush 37, 2) :: (83, .iconst 3, 1) :: (84, .iload 4, 2) :: (86, .imul, 1) :: (87, .iadd, 1) :: (88, .iaload, 1) :: (89, .iload_n 1, 1) :: (90, .if_icmp .ne 21, 3) :: (93, .aload_n 0, 1) :: (94, .getfield 7, 3) :: (97, .bipush 37, 2) :: (99, .iconst 3, 1) :: (100, .iload 4, 2) :: (102, .imul, 1) :: (103, .iadd, 1) :: (104, .iconst 1, 1) :: (105, .iadd, 1) :: (106, .iaload, 1) :: (107, .iload_n 2, 1) :: (108, .if_icmp .eq 9, 3) :: (111, .iinc 4 1, 3) :: (114, .goto (-49), 3) :: (117, .iload 4, 2) :: (119, .aload_n 0, 1) :: (120, .getfield 7, 3) :: (123, .bipush 9, 2) :: (125, .iaload, 1) :: []) (by decide +kernel)
theorem e_X8_takesPaper_59 : decode cX8_takesPaper 59 = .ok (.iconst 1, 1) := D_X8_takesPaper_1.1
theorem e_X8_takesPaper_60 : decode cX8_takesPaper 60 = .ok (.iadd, 1) := D_X8_takesPaper_1.2.1
theorem e_X8_takesPaper_61 : decode cX8_takesPaper 61 = .ok (.iastore, 1) := D_X8_takesPaper_1.2.2.1
theorem e_X8_takesPaper_62 : decode cX8_takesPaper 62 = .ok (.iconst 0, 1) := D_X8_takesPaper_1.2.2.2.1
theorem e_X8_takesPaper_63 : decode cX8_takesPaper 63 = .ok (.istore 4, 2) := D_X8_takesPaper_1.2.2.2.2.1
theorem e_X8_takesPaper_65 : decode cX8_takesPaper 65 = .ok (.iload 4, 2) := D_X8_takesPaper_1.2.2.2.2.2.1
theorem e_X8_takesPaper_67 : decode cX8_takesPaper 67 = .ok (.aload_n 0, 1) := D_X8_takesPaper_1.2.2.2.2.2.2.1
theorem e_X8_takesPaper_68 : decode cX8_takesPaper 68 = .ok (.getfield 7, 3) := D_X8_takesPaper_1.2.2.2.2.2.2.2.1
theorem e_X8_takesPaper_71 : decode cX8_takesPaper 71 = .ok (.bipush 9, 2) := D_X8_takesPaper_1.2.2.2.2.2.2.2.2.1
theorem e_X8_takesPaper_73 : decode cX8_takesPaper 73 = .ok (.iaload, 1) := D_X8_takesPaper_1.2.2.2.2.2.2.2.2.2.1
theorem e_X8_takesPaper_74 : decode cX8_takesPaper 74 = .ok (.if_icmp .ge 43, 3) := D_X8_takesPaper_1.2.2.2.2.2.2.2.2.2.2.1
theorem e_X8_takesPaper_77 : decode cX8_takesPaper 77 = .ok (.aload_n 0, 1) := D_X8_takesPaper_1.2.2.2.2.2.2.2.2.2.2.2.1
theorem e_X8_takesPaper_78 : decode cX8_takesPaper 78 = .ok (.getfield 7, 3) := D_X8_takesPaper_1.2.2.2.2.2.2.2.2.2.2.2.2.1
theorem e_X8_takesPaper_81 : decode cX8_takesPaper 81 = .ok (.bipush 37, 2) := D_X8_takesPaper_1.2.2.2.2.2.2.2.2.2.2.2.2.2.1
theorem e_X8_takesPaper_83 : decode cX8_takesPaper 83 = .ok (.iconst 3, 1) := D_X8_takesPaper_1.2.2.2.2.2.2.2.2.2.2.2.2.2.2.1
theorem e_X8_takesPaper_84 : decode cX8_takesPaper 84 = .ok (.iload 4, 2) := D_X8_takesPaper_1.2.2.2.2.2.2.2.2.2.2.2.2.2.2.2.1
theorem e_X8_takesPaper_86 : decode cX8_takesPaper 86 = .ok (.imul, 1) := D_X8_takesPaper_1.2.2.2.2.2.2.2.2.2.2.2.2.2.2.2.2.1
theorem e_X8_takesPaper_87 : decode cX8_takesPaper 87 = .ok (.iadd, 1) := D_X8_takesPaper_1.2.2.2.2.2.2.2.2.2.2.2.2.2.2.2.2.2.1
theorem e_X8_takesPaper_88 : decode cX8_takesPaper 88 = .ok (.iaload, 1) := D_X8_takesPaper_1.2.2.2.2.2.2.2.2.2.2.2.2.2.2.2.2.2.2.1
theorem e_X8_takesPaper_89 : decode cX8_takesPaper 89 = .ok (.iload_n 1, 1) := D_X8_takesPaper_1.2.2.2.2.2.2.2.2.2.2.2.2.2.2.2.2.2.2.2.1
theorem e_X8_takesPaper_90 : decode cX8_takesPaper 90 = .ok (.if_icmp .ne 21, 3) := D_X8_takesPaper_1.2.2.2.2.2.2.2.2.2.2.2.2.2.2.2.2.2.2.2.2.1
theorem e_X8_takesPaper_93 : decode cX8_takesPaper 93 = .ok (.aload_n 0, 1) := D_X8_takesPaper_1.2.2.2.2.2.2.2.2.2.2.2.2.2.2.2.2.2.2.2.2.2.1
theorem e_X8_takesPaper_94 : decode cX8_takesPaper 94 = .ok (.getfield 7, 3) := D_X8_takesPaper_1.2.2.2.2.2.2.2.2.2.2.2.2.2.2.2.2.2.2.2.2.2.2.1
theorem e_X8_takesPaper_97 : decode cX8_takesPaper 97 = .ok (.bipush 37, 2) := D_X8_takesPaper_1.2.2.2.2.2.2.2.2.2.2.2.2.2.2.2.2.2.2.2.2.2.2.2.1
theorem e_X8_takesPaper_99 : decode cX8_takesPaper 99 = .ok (.iconst 3, 1) := D_X8_takesPaper_1.2.2.2.2.2.2.2.2.2.2.2.2.2.2.2.2.2.2.2.2.2.2.2.2.1
theorem e_X8_takesPaper_100 : decode cX8_takesPaper 100 = .ok (.iload 4, 2) := D_X8_takesPaper_1.2.2.2.2.2.2.2.2.2.2.2.2.2.2.2.2.2.2.2.2.2.2.2.2.2.1
theorem e_X8_takesPaper_102 : decode cX8_takesPaper 102 = .ok (.imul, 1) := D_X8_takesPaper_1.2.2.2.2.2.2.2.2.2.2.2.2.2.2.2.2.2.2.2.2.2.2.2.2.2.2.1
theorem e_X8_takesPaper_103 : decode cX8_takesPaper 103 = .ok (.iadd, 1) := D_X8_takesPaper_1.2.2.2.2.2.2.2.2.2.2.2.2.2.2.2.2.2.2.2.2.2.2.2.2.2.2.2.1
theorem e_X8_takesPaper_104 : decode cX8_takesPaper 104 = .ok (.iconst 1, 1) := D_X8_takesPaper_1.2.2.2.2.2.2.2.2.2.2.2.2.2.2.2.2.2.2.2.2.2.2.2.2.2.2.2.2.1
theorem e_X8_takesPaper_105 : decode cX8_takesPaper 105 = .ok (.iadd, 1) := D_X8_takesPaper_1.2.2.2.2.2.2.2.2.2.2.2.2.2.2.2.2.2.2.2.2.2.2.2.2.2.2.2.2.2.1
theorem e_X8_takesPaper_106 : decode cX8_takesPaper 106 = .ok (.iaload, 1) := D_X8_takesPaper_1.2.2.2.2.2.2.2.2.2.2.2.2.2.2.2.2.2.2.2.2.2.2.2.2.2.2.2.2.2.2.1
theorem e_X8_takesPaper_107 : decode cX8_takesPaper 107 = .ok (.iload_n 2, 1) := D_X8_takesPaper_1.2.2.2.2.2.2.2.2.2.2.2.2.2.2.2.2.2.2.2.2.2.2.2.2.2.2.2.2.2.2.2.1
theorem e_X8_takesPaper_108 : decode cX8_takesPaper 108 = .ok (.if_icmp .eq 9, 3) := D_X8_takesPaper_1.2.2.2.2.2.2.2.2.2.2.2.2.2.2.2.2.2.2.2.2.2.2.2.2.2.2.2.2.2.2.2.2.1
theorem e_X8_takesPaper_111 : decode cX8_takesPaper 111 = .ok (.iinc 4 1, 3) := D_X8_takesPaper_1.2.2.2.2.2.2.2.2.2.2.2.2.2.2.2.2.2.2.2.2.2.2.2.2.2.2.2.2.2.2.2.2.2.1
theorem e_X8_takesPaper_114 : decode cX8_takesPaper 114 = .ok (.goto (-49), 3) := D_X8_takesPaper_1.2.2.2.2.2.2.2.2.2.2.2.2.2.2.2.2.2.2.2.2.2.2.2.2.2.2.2.2.2.2.2.2.2.2.1
theorem e_X8_takesPaper_117 : decode cX8_takesPaper 117 = .ok (.iload 4, 2) := D_X8_takesPaper_1.2.2.2.2.2.2.2.2.2.2.2.2.2.2.2.2.2.2.2.2.2.2.2.2.2.2.2.2.2.2.2.2.2.2.2.1
theorem e_X8_takesPaper_119 : decode cX8_takesPaper 119 = .ok (.aload_n 0, 1) := D_X8_takesPaper_1.2.2.2.2.2.2.2.2.2.2.2.2.2.2.2.2.2.2.2.2.2.2.2.2.2.2.2.2.2.2.2.2.2.2.2.2.1
theorem e_X8_takesPaper_120 : decode cX8_takesPaper 120 = .ok (.getfield 7, 3) := D_X8_takesPaper_1.2.2.2.2.2.2.2.2.2.2.2.2.2.2.2.2.2.2.2.2.2.2.2.2.2.2.2.2.2.2.2.2.2.2.2.2.2.1
theorem e_X8_takesPaper_123 : decode cX8_takesPaper 123 = .ok (.bipush 9, 2) := D_X8_takesPaper_1.2.2.2.2.2.2.2.2.2.2.2.2.2.2.2.2.2.2.2.2.2.2.2.2.2.2.2.2.2.2.2.2.2.2.2.2.2.2.1
theorem e_X8_takesPaper_125 : decode cX8_takesPaper 125 = .ok (.iaload, 1) := D_X8_takesPaper_1.2.2.2.2.2.2.2.2.2.2.2.2.2.2.2.2.2.2.2.2.2.2.2.2.2.2.2.2.2.2.2.2.2.2.2.2.2.2.2.1
set_option maxRecDepth 100000 in
theorem D_X8_takesPaper_2 : decode cX8_takesPaper 126 = .ok (.if_icmp .ne 57, 3) ∧ decode cX8_takesPaper 129 = .ok (.aload_n 0, 1) ∧ decode cX8_takesPaper 130 = .ok (.getfield 7, 3) ∧ decode cX8_takesPaper 133 = .ok (.bipush 37, 2) ∧ decode cX8_takesPaper 135 = .ok (.iconst 3, 1) ∧ decode cX8_takesPaper 136 = .ok (.iload 4, 2) ∧ decode cX8_takesPaper 138 = .ok (.imul, 1) ∧ decode cX8_takesPaper 139 = .ok (.iadd, 1) ∧ decode cX8_takesPaper 140 = .ok (.iload_n 1, 1) ∧ decode cX8_takesPaper 141 = .ok (.iastore, 1) ∧ decode cX8_takesPaper 142 = .ok (.aload_n 0, 1) ∧ decode cX8_takesPaper 143 = .ok (.getfield 7, 3) ∧ decode cX8_takesPaper 146 = .ok (.bipush 37, 2) ∧ decode cX8_takesPaper 148 = .ok (.iconst 3, 1) ∧ decode cX8_takesPaper 149 = .ok (.iload 4, 2) ∧ decode cX8_takesPaper 151 = .ok (.imul, 1) ∧ decode cX8_takesPaper 152 = .ok (.iadd, 1) ∧ decode cX8_takesPaper 153 = .ok (.iconst 1, 1) ∧ decode cX8_takesPaper 154 = .ok (.iadd, 1) ∧ decode cX8_takesPaper 155 = .ok (.iload_n 2, 1) ∧ decode cX8_takesPaper 156 = .ok (.iastore, 1) ∧ decode cX8_takesPaper 157 = .ok (.aload_n 0, 1) ∧ decode cX8_takesPaper 158 = .ok (.getfield 7, 3) ∧ decode cX8_takesPaper 161 = .ok (.bipush 37, 2) ∧ decode cX8_takesPaper 163 = .ok (.iconst 3, 1) ∧ decode cX8_takesPaper 164 = .ok (.iload 4, 2) ∧ decode cX8_takesPaper 166 = .ok (.imul, 1) ∧ decode cX8_takesPaper 167 = .ok (.iadd, 1) ∧ decode cX8_takesPaper 168 = .ok (.iconst 2, 1) ∧ decode cX8_takesPaper 169 = .ok (.iadd, 1) ∧ decode cX8_takesPaper 170 = .ok (.iconst 0, 1) ∧ decode cX8_takesPaper 171 = .ok (.iastore, 1) ∧ decode cX8_takesPaper 172 = .ok (.aload_n 0, 1) ∧ decode cX8_takesPaper 173 = .ok (.getfield 7, 3) ∧ decode cX8_takesPaper 176 = .ok (.bipush 9, 2) ∧ decode cX8_takesPaper 178 = .ok (.dup2, 1) ∧ decode cX8_takesPaper 179 = .ok (.iaload, 1) ∧ decode cX8_takesPaper 180 = .ok (.iconst 1, 1) ∧ decode cX8_takesPaper 181 = .ok (.iadd, 1) ∧ decode cX8_takesPaper 182 = .ok (.iastore, 1) ∧ True := dq_of (l := (126, .if_icmp .ne 57, 3) :: (129, .aload_n 0, 1) :: (130, .getfield 7, 3) :: (133, .bipush 37, 2) :: (135, .iconst 3, 1) :: (136, .iload 4, 2) :: (138, .imul, 1) :: (139, .iadd, 1) :: (140, .iload_n 1, 1) :: (141, .iastore, 1) :: (142, .aload_n 0, 1) :: (143, .getfield 7, 3) :: (146, .bipush 37, 2) :: (148, .iconst 3, 1) :: (149, .iload 4, 2) :: (151, .imul, 1) :: (152, .iadd, 1) :: (153, .iconst 1, 1) :: (154, .iadd, 1) :: (155, .iload_n 2, 1) :: (156, .iastore, 1) :: (157, .aload_n 0, 1) :: (158, .getfield 7, 3) :: (161, .bipush 37, 2) :: (163, .iconst 3, 1) :: (164, .iload 4, 2) :: (166, .imul, 1) :: (167, .iadd, 1) :: (168, .iconst 2, 1) :: (169, .iadd, 1) :: (170, .iconst 0, 1) :: (171, .iastore, 1) :: (172, .aload_n 0, 1) :: (173, .getfield 7, 3) :: (176, .bipush 9, 2) :: (178, .dup2, 1) :: (179, .iaload, 1) :: (180, .iconst 1, 1) :: (181, .iadd, 1) :: (182, .iastore, 1) :: []) (by decide +kernel)
theorem e_X8_takesPaper_126 : decode cX8_takesPaper 126 = .ok (.if_icmp .ne 57, 3) := D_X8_takesPaper_2.1
theorem e_X8_takesPaper_129 : decode cX8_takesPaper 129 = .ok (.aload_n 0, 1) := D_X8_takesPaper_2.2.1
theorem e_X8_takesPaper_130 : decode cX8_takesPaper 130 = .ok (.getfield 7, 3) := D_X8_takesPaper_2.2.2.1
theorem e_X8_takesPaper_133 : decode cX8_takesPaper 133 = .ok (.bipush 37, 2) := D_X8_takesPaper_2.2.2.2.1
theorem e_X8_takesPaper_135 : decode cX8_takesPaper 135 = .ok (.iconst 3, 1) := D_X8_takesPaper_2.2.2.2.2.1
theorem e_X8_takesPaper_136 : decode cX8_takesPaper 136 = .ok (.iload 4, 2) := D_X8_takesPaper_2.2.2.2.2.2.1
theorem e_X8_takesPaper_138 : decode cX8_takesPaper 138 = .ok (.imul, 1) := D_X8_takesPaper_2.2.2.2.2.2.2.1
theorem e_X8_takesPaper_139 : decode cX8_takesPaper 139 = .ok (.iadd, 1) := D_X8_takesPaper_2.2.2.2.2.2.2.2.1
theorem e_X8_takesPaper_140 : decode cX8_takesPaper 140 = .ok (.iload_n 1, 1) := D_X8_takesPaper_2.2.2.2.2.2.2.2.2.1
theorem e_X8_takesPaper_141 : decode cX8_takesPaper 141 = .ok (.iastore, 1) := D_X8_takesPaper_2.2.2.2.2.2.2.2.2.2.1
theorem e_X8_takesPaper_142 : decode cX8_takesPaper 142 = .ok (.aload_n 0, 1) := D_X8_takesPaper_2.2.2.2.2.2.2.2.2.2.2.1
theorem e_X8_takesPaper_143 : decode cX8_takesPaper 143 = .ok (.getfield 7, 3) := D_X8_takesPaper_2.2.2.2.2.2.2.2.2.2.2.2.1
theorem e_X8_takesPaper_146 : decode cX8_takesPaper 146 = .ok (.bipush 37, 2) := D_X8_takesPaper_2.2.2.2.2.2.2.2.2.2.2.2.2.1
theorem e_X8_takesPaper_148 : decode cX8_takesPaper 148 = .ok (.iconst 3, 1) := D_X8_takesPaper_2.2.2.2.2.2.2.2.2.2.2.2.2.2.1
theorem e_X8_takesPaper_149 : decode cX8_takesPaper 149 = .ok (.iload 4, 2) := D_X8_takesPaper_2.2.2.2.2.2.2.2.2.2.2.2.2.2.2.1
theorem e_X8_takesPaper_151 : decode cX8_takesPaper 151 = .ok (.imul, 1) := D_X8_takesPaper_2.2.2.2.2.2.2.2.2.2.2.2.2.2.2.2.1
theorem e_X8_takesPaper_152 : decode cX8_takesPaper 152 = .ok (.iadd, 1) := D_X8_takesPaper_2.2.2.2.2.2.2.2.2.2.2.2.2.2.2.2.2.1
theorem e_X8_takesPaper_153 : decode cX8_takesPaper 153 = .ok (.iconst 1, 1) := D_X8_takesPaper_2.2.2.2.2.2.2.2.2.2.2.2.2.2.2.2.2.2.1
theorem e_X8_takesPaper_154 : decode cX8_takesPaper 154 = .ok (.iadd, 1) := D_X8_takesPaper_2.2.2.2.2.2.2.2.2.2.2.2.2.2.2.2.2.2.2.1
theorem e_X8_takesPaper_155 : decode cX8_takesPaper 155 = .ok (.iload_n 2, 1) := D_X8_takesPaper_2.2.2.2.2.2.2.2.2.2.2.2.2.2.2.2.2.2.2.2.1
theorem e_X8_takesPaper_156 : decode cX8_takesPaper 156 = .ok (.iastore, 1) := D_X8_takesPaper_2.2.2.2.2.2.2.2.2.2.2.2.2.2.2.2.2.2.2.2.2.1
theorem e_X8_takesPaper_157 : decode cX8_takesPaper 157 = .ok (.aload_n 0, 1) := D_X8_takesPaper_2.2.2.2.2.2.2.2.2.2.2.2.2.2.2.2.2.2.2.2.2.2.1
theorem e_X8_takesPaper_158 : decode cX8_takesPaper 158 = .ok (.getfield 7, 3) := D_X8_takesPaper_2.2.2.2.2.2.2.2.2.2.2.2.2.2.2.2.2.2.2.2.2.2.2.1
theorem e_X8_takesPaper_161 : decode cX8_takesPaper 161 = .ok (.bipush 37, 2) := D_X8_takesPaper_2.2.2.2.2.2.2.2.2.2.2.2.2.2.2.2.2.2.2.2.2.2.2.2.1
theorem e_X8_takesPaper_163 : decode cX8_takesPaper 163 = .ok (.iconst 3, 1) := D_X8_takesPaper_2.2.2.2.2.2.2.2.2.2.2.2.2.2.2.2.2.2.2.2.2.2.2.2.2.1
theorem e_X8_takesPaper_164 : decode cX8_takesPaper 164 = .ok (.iload 4, 2) := D_X8_takesPaper_2.2.2.2.2.2.2.2.2.2.2.2.2.2.2.2.2.2.2.2.2.2.2.2.2.2.1
theorem e_X8_takesPaper_166 : decode cX8_takesPaper 166 = .ok (.imul, 1) := D_X8_takesPaper_2.2.2.2.2.2.2.2.2.2.2.2.2.2.2.2.2.2.2.2.2.2.2.2.2.2.2.1
theorem e_X8_takesPaper_167 : decode cX8_takesPaper 167 = .ok (.iadd, 1) := D_X8_takesPaper_2.2.2.2.2.2.2.2.2.2.2.2.2.2.2.2.2.2.2.2.2.2.2.2.2.2.2.2.1
theorem e_X8_takesPaper_168 : decode cX8_takesPaper 168 = .ok (.iconst 2, 1) := D_X8_takesPaper_2.2.2.2.2.2.2.2.2.2.2.2.2.2.2.2.2.2.2.2.2.2.2.2.2.2.2.2.2.1
theorem e_X8_takesPaper_169 : decode cX8_takesPaper 169 = .ok (.iadd, 1) := D_X8_takesPaper_2.2.2.2.2.2.2.2.2.2.2.2.2.2.2.2.2.2.2.2.2.2.2.2.2.2.2.2.2.2.1
theorem e_X8_takesPaper_170 : decode cX8_takesPaper 170 = .ok (.iconst 0, 1) := D_X8_takesPaper_2.2.2.2.2.2.2.2.2.2.2.2.2.2.2.2.2.2.2.2.2.2.2.2.2.2.2.2.2.2.2.1
theorem e_X8_takesPaper_171 : decode cX8_takesPaper 171 = .ok (.iastore, 1) := D_X8_takesPaper_2.2.2.2.2.2.2.2.2.2.2.2.2.2.2.2.2.2.2.2.2.2.2.2.2.2.2.2.2.2.2.2.1
theorem e_X8_takesPaper_172 : decode cX8_takesPaper 172 = .ok (.aload_n 0, 1) := D_X8_takesPaper_2.2.2.2.2.2.2.2.2.2.2.2.2.2.2.2.2.2.2.2.2.2.2.2.2.2.2.2.2.2.2.2.2.1
theorem e_X8_takesPaper_173 : decode cX8_takesPaper 173 = .ok (.getfield 7, 3) := D_X8_takesPaper_2.2.2.2.2.2.2.2.2.2.2.2.2.2.2.2.2.2.2.2.2.2.2.2.2.2.2.2.2.2.2.2.2.2.1
theorem e_X8_takesPaper_176 : decode cX8_takesPaper 176 = .ok (.bipush 9, 2) := D_X8_takesPaper_2.2.2.2.2.2.2.2.2.2.2.2.2.2.2.2.2.2.2.2.2.2.2.2.2.2.2.2.2.2.2.2.2.2.2.1
theorem e_X8_takesPaper_178 : decode cX8_takesPaper 178 = .ok (.dup2, 1) := D_X8_takesPaper_2.2.2.2.2.2.2.2.2.2.2.2.2.2.2.2.2.2.2.2.2.2.2.2.2.2.2.2.2.2.2.2.2.2.2.2.1
theorem e_X8_takesPaper_179 : decode cX8_takesPaper 179 = .ok (.iaload, 1) := D_X8_takesPaper_2.2.2.2.2.2.2.2.2.2.2.2.2.2.2.2.2.2.2.2.2.2.2.2.2.2.2.2.2.2.2.2.2.2.2.2.2.1
theorem e_X8_takesPaper_180 : decode cX8_takesPaper 180 = .ok (.iconst 1, 1) := D_X8_takesPaper_2.2.2.2.2.2.2.2.2.2.2.2.2.2.2.2.2.2.2.2.2.2.2.2.2.2.2.2.2.2.2.2.2.2.2.2.2.2.1
theorem e_X8_takesPaper_181 : decode cX8_takesPaper 181 = .ok (.iadd, 1) := D_X8_takesPaper_2.2.2.2.2.2.2.2.2.2.2.2.2.2.2.2.2.2.2.2.2.2.2.2.2.2.2.2.2.2.2.2.2.2.2.2.2.2.2.1
theorem e_X8_takesPaper_182 : decode cX8_takesPaper 182 = .ok (.iastore, 1) := D_X8_takesPaper_2.2.2.2.2.2.2.2.2.2.2.2.2.2.2.2.2.2.2.2.2.2.2.2.2.2.2.2.2.2.2.2.2.2.2.2.2.2.2.2.1
set_option maxRecDepth 100000 in
theorem D_X8_takesPaper_3 : decode cX8_takesPaper 183 = .ok (.aload_n 0, 1) ∧ decode cX8_takesPaper 184 = .ok (.getfield 7, 3) ∧ decode cX8_takesPaper 187 = .ok (.bipush 37, 2) ∧ decode cX8_takesPaper 189 = .ok (.iconst 3, 1) ∧ decode cX8_takesPaper 190 = .ok (.iload 4, 2) ∧ decode cX8_takesPaper 192 = .ok (.imul, 1) ∧ decode cX8_takesPaper 193 = .ok (.iadd, 1) ∧ decode cX8_takesPaper 194 = .ok (.iconst 2, 1) ∧ decode cX8_takesPaper 195 = .ok (.iadd, 1) ∧ decode cX8_takesPaper 196 = .ok (.dup2, 1) ∧ decode cX8_takesPaper 197 = .ok (.iaload, 1) ∧ decode cX8_takesPaper 198 = .ok (.iconst 1, 1) ∧ decode cX8_takesPaper 199 = .ok (.iadd, 1) ∧ decode cX8_takesPaper 200 = .ok (.iastore, 1) ∧ decode cX8_takesPaper 201 = .ok (.return_, 1) ∧ True := dq_of (l := (183, .aload_n 0, 1) :: (184, .getfield 7, 3) :: (187, .bipush 37, 2) :: (189, .iconst 3, 1) :: (190, .iload 4, 2) :: (192, .imul, 1) :: (193, .iadd, 1) :: (194, .iconst 2, 1) :: (195, .iadd, 1) :: (196, .dup2, 1) :: (197, .iaload, 1) :: (198, .iconst 1, 1) :: (199, .iadd, 1) :: (200, .iastore, 1) :: (201, .return_, 1) :: []) (by decide +kernel)
theorem e_X8_takesPaper_183 : decode cX8_takesPaper 183 = .ok (.aload_n 0, 1) := D_X8_takesPaper_3.1
theorem e_X8_takesPaper_184 : decode cX8_takesPaper 184 = .ok (.getfield 7, 3) := D_X8_takesPaper_3.2.1
theorem e_X8_takesPaper_187 : decode cX8_takesPaper 187 = .ok (.bipush 37, 2) := D_X8_takesPaper_3.2.2.1
theorem e_X8_takesPaper_189 : decode cX8_takesPaper 189 = .ok (.iconst 3, 1) := D_X8_takesPaper_3.2.2.2.1
theorem e_X8_takesPaper_190 : decode cX8_takesPaper 190 = .ok (.iload 4, 2) := D_X8_takesPaper_3.2.2.2.2.1
theorem e_X8_takesPaper_192 : decode cX8_takesPaper 192 = .ok (.imul, 1) := D_X8_takesPaper_3.2.2.2.2.2.1
theorem e_X8_takesPaper_193 : decode cX8_takesPaper 193 = .ok (.iadd, 1) := D_X8_takesPaper_3.2.2.2.2.2.2.1
theorem e_X8_takesPaper_194 : decode cX8_takesPaper 194 = .ok (.iconst 2, 1) := D_X8_takesPaper_3.2.2.2.2.2.2.2.1
theorem e_X8_takesPaper_195 : decode cX8_takesPaper 195 = .ok (.iadd, 1) := D_X8_takesPaper_3.2.2.2.2.2.2.2.2.1
theorem e_X8_takesPaper_196 : decode cX8_takesPaper 196 = .ok (.dup2, 1) := D_X8_takesPaper_3.2.2.2.2.2.2.2.2.2.1
theorem e_X8_takesPaper_197 : decode cX8_takesPaper 197 = .ok (.iaload, 1) := D_X8_takesPaper_3.2.2.2.2.2.2.2.2.2.2.1
theorem e_X8_takesPaper_198 : decode cX8_takesPaper 198 = .ok (.iconst 1, 1) := D_X8_takesPaper_3.2.2.2.2.2.2.2.2.2.2.2.1
theorem e_X8_takesPaper_199 : decode cX8_takesPaper 199 = .ok (.iadd, 1) := D_X8_takesPaper_3.2.2.2.2.2.2.2.2.2.2.2.2.1
theorem e_X8_takesPaper_200 : decode cX8_takesPaper 200 = .ok (.iastore, 1) := D_X8_takesPaper_3.2.2.2.2.2.2.2.2.2.2.2.2.2.1
theorem e_X8_takesPaper_201 : decode cX8_takesPaper 201 = .ok (.return_, 1) := D_X8_takesPaper_3.2.2.2.2.2.2.2.2.2.2.2.2.2.2.1
set_option maxRecDepth 100000 in
theorem D_X8_sides_0 : decode cX8_sides 0 = .ok (.aload_n 0, 1) ∧ decode cX8_sides 1 = .ok (.iload_n 1, 1) ∧ decode cX8_sides 2 = .ok (.iconst 5, 1) ∧ decode cX8_sides 3 = .ok (.invokevirtual 64, 3) ∧ decode cX8_sides 6 = .ok (.iconst 1, 1) ∧ decode cX8_sides 7 = .ok (.iand, 1) ∧ decode cX8_sides 8 = .ok (.iconst 1, 1) ∧ decode cX8_sides 9 = .ok (.if_icmp .ne 33, 3) ∧ decode cX8_sides 12 = .ok (.aload_n 0, 1) ∧ decode cX8_sides 13 = .ok (.iload_n 1, 1) ∧ decode cX8_sides 14 = .ok (.invokevirtual 106, 3) ∧ decode cX8_sides 17 = .ok (.aload_n 0, 1) ∧ decode cX8_sides 18 = .ok (.iload_n 1, 1) ∧ decode cX8_sides 19 = .ok (.invokevirtual 97, 3) ∧ decode cX8_sides 22 = .ok (.iconst 1, 1) ∧ decode cX8_sides 23 = .ok (.isub, 1) ∧ decode cX8_sides 24 = .ok (.if_icmp .lt 14, 3) ∧ decode cX8_sides 27 = .ok (.aload_n 0, 1) ∧ decode cX8_sides 28 = .ok (.iload_n 1, 1) ∧ decode cX8_sides 29 = .ok (.iconst 1, 1) ∧ decode cX8_sides 30 = .ok (.invokevirtual 64, 3) ∧ decode cX8_sides 33 = .ok (.iconst 2, 1) ∧ decode cX8_sides 34 = .ok (.irem, 1) ∧ decode cX8_sides 35 = .ok (.ifCond .ne 7, 3) ∧ decode cX8_sides 38 = .ok (.iconst 1, 1) ∧ decode cX8_sides 39 = .ok (.goto 4, 3) ∧ decode cX8_sides 42 = .ok (.iconst 0, 1) ∧ decode cX8_sides 43 = .ok (.istore_n 2, 1) ∧ decode cX8_sides 44 = .ok (.iload_n 2, 1) ∧ decode cX8_sides 45 = .ok (.ifCond .eq 7, 3) ∧ decode cX8_sides 48 = .ok (.iconst 2, 1) ∧ decode cX8_sides 49 = .ok (.goto 4, 3) ∧ decode cX8_sides 52 = .ok (.iconst 1, 1) ∧ decode cX8_sides 53 = .ok (.ireturn, 1) ∧ True := dq_of (l := (0, .aload_n 0, 1) :: (1, .iload_n 1, 1) :: (2, .iconst 5, 1) :: (3, .invokevirtual 64, 3) :: (6, .iconst 1, 1) :: (7, .iand, 1) :: (8, .iconst 1, 1) :: (9, .if_icmp .ne 33, 3) :: (12, .aload_n 0, 1) :: (13, .iload_n 1, 1) :: (14, .invokevirtual 106, 3) :: (17, .aload_n 0, 1) :: (18, .iload_n 1, 1) :: (19, .invokevirtual 97, 3) :: (22, .iconst 1, 1) :: (23, .isub, 1) :: (24, .if_icmp .lt 14, 3) :: (27, .aload_n 0, 1) :: (28, .iload_n 1, 1) :: (29, .iconst 1, 1) :: (30, .invokevirtual 64, 3) :: (33, .iconst 2, 1) :: (34, .irem, 1) :: (35, .ifCond .ne 7, 3) :: (38, .iconst 1, 1) :: (39, .goto 4, 3) :: (42, .iconst 0, 1) :: (43, .istore_n 2, 1) :: (44, .iload_n 2, 1) :: (45, .ifCond .eq 7, 3) :: (48, .iconst 2, 1) :: (49, .goto 4, 3) :: (52, .iconst 1, 1) :: (53, .ireturn, 1) :: []) (by decide +kernel)
theorem e_X8_sides_0 : decode cX8_sides 0 = .ok (.aload_n 0, 1) := D_X8_sides_0.1
theorem e_X8_sides_1 : decode cX8_sides 1 = .ok (.iload_n 1, 1) := D_X8_sides_0.2.1
theorem e_X8_sides_2 : decode cX8_sides 2 = .ok (.iconst 5, 1) := D_X8_sides_0.2.2.1
theorem e_X8_sides_3 : decode cX8_sides 3 = .ok (.invokevirtual 64, 3) := D_X8_sides_0.2.2.2.1
theorem e_X8_sides_6 : decode cX8_sides 6 = .ok (.iconst 1, 1) := D_X8_sides_0.2.2.2.2.1
theorem e_X8_sides_7 : decode cX8_sides 7 = .ok (.iand, 1) := D_X8_sides_0.2.2.2.2.2.1
theorem e_X8_sides_8 : decode cX8_sides 8 = .ok (.iconst 1, 1) := D_X8_sides_0.2.2.2.2.2.2.1
theorem e_X8_sides_9 : decode cX8_sides 9 = .ok (.if_icmp .ne 33, 3) := D_X8_sides_0.2.2.2.2.2.2.2.1
theorem e_X8_sides_12 : decode cX8_sides 12 = .ok (.aload_n 0, 1) := D_X8_sides_0.2.2.2.2.2.2.2.2.1
theorem e_X8_sides_13 : decode cX8_sides 13 = .ok (.iload_n 1, 1) := D_X8_sides_0.2.2.2.2.2.2.2.2.2.1
theorem e_X8_sides_14 : decode cX8_sides 14 = .ok (.invokevirtual 106, 3) := D_X8_sides_0.2.2.2.2.2.2.2.2.2.2.1
theorem e_X8_sides_17 : decode cX8_sides 17 = .ok (.aload_n 0, 1) := D_X8_sides_0.2.2.2.2.2.2.2.2.2.2.2.1
theorem e_X8_sides_18 : decode cX8_sides 18 = .ok (.iload_n 1, 1) := D_X8_sides_0.2.2.2.2.2.2.2.2.2.2.2.2.1
theorem e_X8_sides_19 : decode cX8_sides 19 = .ok (.invokevirtual 97, 3) := D_X8_sides_0.2.2.2.2.2.2.2.2.2.2.2.2.2.1
theorem e_X8_sides_22 : decode cX8_sides 22 = .ok (.iconst 1, 1) := D_X8_sides_0.2.2.2.2.2.2.2.2.2.2.2.2.2.2.1
theorem e_X8_sides_23 : decode cX8_sides 23 = .ok (.isub, 1) := D_X8_sides_0.2.2.2.2.2.2.2.2.2.2.2.2.2.2.2.1
theorem e_X8_sides_24 : decode cX8_sides 24 = .ok (.if_icmp .lt 14, 3) := D_X8_sides_0.2.2.2.2.2.2.2.2.2.2.2.2.2.2.2.2.1
theorem e_X8_sides_27 : decode cX8_sides 27 = .ok (.aload_n 0, 1) := D_X8_sides_0.2.2.2.2.2.2.2.2.2.2.2.2.2.2.2.2.2.1
theorem e_X8_sides_28 : decode cX8_sides 28 = .ok (.iload_n 1, 1) := D_X8_sides_0.2.2.2.2.2.2.2.2.2.2.2.2.2.2.2.2.2.2.1
theorem e_X8_sides_29 : decode cX8_sides 29 = .ok (.iconst 1, 1) := D_X8_sides_0.2.2.2.2.2.2.2.2.2.2.2.2.2.2.2.2.2.2.2.1
theorem e_X8_sides_30 : decode cX8_sides 30 = .ok (.invokevirtual 64, 3) := D_X8_sides_0.2.2.2.2.2.2.2.2.2.2.2.2.2.2.2.2.2.2.2.2.1
theorem e_X8_sides_33 : decode cX8_sides 33 = .ok (.iconst 2, 1) := D_X8_sides_0.2.2.2.2.2.2.2.2.2.2.2.2.2.2.2.2.2.2.2.2.2.1
theorem e_X8_sides_34 : decode cX8_sides 34 = .ok (.irem, 1) := D_X8_sides_0.2.2.2.2.2.2.2.2.2.2.2.2.2.2.2.2.2.2.2.2.2.2.1
theorem e_X8_sides_35 : decode cX8_sides 35 = .ok (.ifCond .ne 7, 3) := D_X8_sides_0.2.2.2.2.2.2.2.2.2.2.2.2.2.2.2.2.2.2.2.2.2.2.2.1
theorem e_X8_sides_38 : decode cX8_sides 38 = .ok (.iconst 1, 1) := D_X8_sides_0.2.2.2.2.2.2.2.2.2.2.2.2.2.2.2.2.2.2.2.2.2.2.2.2.1
theorem e_X8_sides_39 : decode cX8_sides 39 = .ok (.goto 4, 3) := D_X8_sides_0.2.2.2.2.2.2.2.2.2.2.2.2.2.2.2.2.2.2.2.2.2.2.2.2.2.1
theorem e_X8_sides_42 : decode cX8_sides 42 = .ok (.iconst 0, 1) := D_X8_sides_0.2.2.2.2.2.2.2.2.2.2.2.2.2.2.2.2.2.2.2.2.2.2.2.2.2.2.1
theorem e_X8_sides_43 : decode cX8_sides 43 = .ok (.istore_n 2, 1) := D_X8_sides_0.2.2.2.2.2.2.2.2.2.2.2.2.2.2.2.2.2.2.2.2.2.2.2.2.2.2.2.1
theorem e_X8_sides_44 : decode cX8_sides 44 = .ok (.iload_n 2, 1) := D_X8_sides_0.2.2.2.2.2.2.2.2.2.2.2.2.2.2.2.2.2.2.2.2.2.2.2.2.2.2.2.2.1
theorem e_X8_sides_45 : decode cX8_sides 45 = .ok (.ifCond .eq 7, 3) := D_X8_sides_0.2.2.2.2.2.2.2.2.2.2.2.2.2.2.2.2.2.2.2.2.2.2.2.2.2.2.2.2.2.1
theorem e_X8_sides_48 : decode cX8_sides 48 = .ok (.iconst 2, 1) := D_X8_sides_0.2.2.2.2.2.2.2.2.2.2.2.2.2.2.2.2.2.2.2.2.2.2.2.2.2.2.2.2.2.2.1
theorem e_X8_sides_49 : decode cX8_sides 49 = .ok (.goto 4, 3) := D_X8_sides_0.2.2.2.2.2.2.2.2.2.2.2.2.2.2.2.2.2.2.2.2.2.2.2.2.2.2.2.2.2.2.2.1
theorem e_X8_sides_52 : decode cX8_sides 52 = .ok (.iconst 1, 1) := D_X8_sides_0.2.2.2.2.2.2.2.2.2.2.2.2.2.2.2.2.2.2.2.2.2.2.2.2.2.2.2.2.2.2.2.2.1
theorem e_X8_sides_53 : decode cX8_sides 53 = .ok (.ireturn, 1) := D_X8_sides_0.2.2.2.2.2.2.2.2.2.2.2.2.2.2.2.2.2.2.2.2.2.2.2.2.2.2.2.2.2.2.2.2.2.1
set_option maxRecDepth 100000 in
theorem D_X8_beginsSheet_0 : decode cX8_beginsSheet 0 = .ok (.aload_n 0, 1) ∧ decode cX8_beginsSheet 1 = .ok (.aload_n 0, 1) ∧ decode cX8_beginsSheet 2 = .ok (.iload_n 1, 1) ∧ decode cX8_beginsSheet 3 = .ok (.iconst 3, 1) ∧ decode cX8_beginsSheet 4 = .ok (.invokevirtual 64, 3) ∧ decode cX8_beginsSheet 7 = .ok (.aload_n 0, 1) ∧ decode cX8_beginsSheet 8 = .ok (.iload_n 1, 1) ∧ decode cX8_beginsSheet 9 = .ok (.iconst 4, 1) ∧ decode cX8_beginsSheet 10 = .ok (.invokevirtual 64, 3) ∧ decode cX8_beginsSheet 13 = .ok (.invokevirtual 127, 3) ∧ decode cX8_beginsSheet 16 = .ok (.aload_n 0, 1) ∧ decode cX8_beginsSheet 17 = .ok (.iload_n 1, 1) ∧ decode cX8_beginsSheet 18 = .ok (.invokevirtual 131, 3) ∧ decode cX8_beginsSheet 21 = .ok (.istore_n 2, 1) ∧ decode cX8_beginsSheet 22 = .ok (.aload_n 0, 1) ∧ decode cX8_beginsSheet 23 = .ok (.getfield 7, 3) ∧ decode cX8_beginsSheet 26 = .ok (.bipush 7, 2) ∧ decode cX8_beginsSheet 28 = .ok (.aload_n 0, 1) ∧ decode cX8_beginsSheet 29 = .ok (.iload_n 1, 1) ∧ decode cX8_beginsSheet 30 = .ok (.iconst 0, 1) ∧ decode cX8_beginsSheet 31 = .ok (.invokevirtual 64, 3) ∧ decode cX8_beginsSheet 34 = .ok (.iastore, 1) ∧ decode cX8_beginsSheet 35 = .ok (.aload_n 0, 1) ∧ decode cX8_beginsSheet 36 = .ok (.getfield 7, 3) ∧ decode cX8_beginsSheet 39 = .ok (.iconst 5, 1) ∧ decode cX8_beginsSheet 40 = .ok (.iconst 1, 1) ∧ decode cX8_beginsSheet 41 = .ok (.iastore, 1) ∧ decode cX8_beginsSheet 42 = .ok (.aload_n 0, 1) ∧ decode cX8_beginsSheet 43 = .ok (.getfield 7, 3) ∧ decode cX8_beginsSheet 46 = .ok (.bipush 6, 2) ∧ decode cX8_beginsSheet 48 = .ok (.aload_n 0, 1) ∧ decode cX8_beginsSheet 49 = .ok (.iload_n 1, 1) ∧ decode cX8_beginsSheet 50 = .ok (.iconst 0, 1) ∧ decode cX8_beginsSheet 51 = .ok (.invokevirtual 64, 3) ∧ decode cX8_beginsSheet 54 = .ok (.iastore, 1) ∧ decode cX8_beginsSheet 55 = .ok (.aload_n 0, 1) ∧ decode cX8_beginsSheet 56 = .ok (.getfield 7, 3) ∧ decode cX8_beginsSheet 59 = .ok (.iconst 4, 1) ∧ decode cX8_beginsSheet 60 = .ok (.iload_n 2, 1) ∧ decode cX8_beginsSheet 61 = .ok (.aload_n 0, 1) ∧ True := dq_of (l := (0, .aload_n 0, 1) :: (1, .aload_n 0, 1) :: (2, .iload_n 1, 1) :: (3, .iconst 3, 1) :: (4, .invokevirtual 64, 3) :: (7, .aload_n 0, 1) :: (8, .iload_n 1, 1) :: (9, .iconst 4, 1) :: (10, .invokevirtual 64, 3) :: (13, .invokevirtual 127, 3) :: (16, .aload_n 0, 1) :: (17, .iload_n 1, 1) :: (18, .invokevirtual 131, 3) :: (21, .istore_n 2, 1) :: (22, .aload_n 0, 1) :: (23, .getfield 7, 3) :: (26, .bipush 7, 2) :: (28, .aload_n 0, 1) :: (29, .iload_n 1, 1) :: (30, .iconst 0, 1) :: (31, .invokevirtual 64, 3) :: (34, .iastore, 1) :: (35, .aload_n 0, 1) :: (36, .getfield 7, 3) :: (39, .iconst 5, 1) :: (40, .iconst 1, 1) :: (41, .iastore, 1) :: (42, .aload_n 0, 1) :: (43, .getfield 7, 3) :: (46, .bipush 6, 2) :: (48, .aload_n 0, 1) :: (49, .iload_n 1, 1) :: (50, .iconst 0, 1) :: (51, .invokevirtual 64, 3) :: (54, .iastore, 1) :: (55, .aload_n 0, 1) :: (56, .getfield 7, 3) :: (59, .iconst 4, 1) :: (60, .iload_n 2, 1) :: (61, .aload_n 0, 1) :: []) (by decide +kernel)
theorem e_X8_beginsSheet_0 : decode cX8_beginsSheet 0 = .ok (.aload_n 0, 1) := D_X8_beginsSheet_0.1
theorem e_X8_beginsSheet_1 : decode cX8_beginsSheet 1 = .ok (.aload_n 0, 1) := D_X8_beginsSheet_0.2.1
theorem e_X8_beginsSheet_2 : decode cX8_beginsSheet 2 = .ok (.iload_n 1, 1) := D_X8_beginsSheet_0.2.2.1
theorem e_X8_beginsSheet_3 : decode cX8_beginsSheet 3 = .ok (.iconst 3, 1) := D_X8_beginsSheet_0.2.2.2.1
theorem e_X8_beginsSheet_4 : decode cX8_beginsSheet 4 = .ok (.invokevirtual 64, 3) := D_X8_beginsSheet_0.2.2.2.2.1
theorem e_X8_beginsSheet_7 : decode cX8_beginsSheet 7 = .ok (.aload_n 0, 1) := D_X8_beginsSheet_0.2.2.2.2.2.1
theorem e_X8_beginsSheet_8 : decode cX8_beginsSheet 8 = .ok (.iload_n 1, 1) := D_X8_beginsSheet_0.2.2.2.2.2.2.1
theorem e_X8_beginsSheet_9 : decode cX8_beginsSheet 9 = .ok (.iconst 4, 1) := D_X8_beginsSheet_0.2.2.2.2.2.2.2.1
theorem e_X8_beginsSheet_10 : decode cX8_beginsSheet 10 = .ok (.invokevirtual 64, 3) := D_X8_beginsSheet_0.2.2.2.2.2.2.2.2.1
theorem e_X8_beginsSheet_13 : decode cX8_beginsSheet 13 = .ok (.invokevirtual 127, 3) := D_X8_beginsSheet_0.2.2.2.2.2.2.2.2.2.1
theorem e_X8_beginsSheet_16 : decode cX8_beginsSheet 16 = .ok (.aload_n 0, 1) := D_X8_beginsSheet_0.2.2.2.2.2.2.2.2.2.2.1
theorem e_X8_beginsSheet_17 : decode cX8_beginsSheet 17 = .ok (.iload_n 1, 1) := D_X8_beginsSheet_0.2.2.2.2.2.2.2.2.2.2.2.1
theorem e_X8_beginsSheet_18 : decode cX8_beginsSheet 18 = .ok (.invokevirtual 131, 3) := D_X8_beginsSheet_0.2.2.2.2.2.2.2.2.2.2.2.2.1
theorem e_X8_beginsSheet_21 : decode cX8_beginsSheet 21 = .ok (.istore_n 2, 1) := D_X8_beginsSheet_0.2.2.2.2.2.2.2.2.2.2.2.2.2.1
theorem e_X8_beginsSheet_22 : decode cX8_beginsSheet 22 = .ok (.aload_n 0, 1) := D_X8_beginsSheet_0.2.2.2.2.2.2.2.2.2.2.2.2.2.2.1
theorem e_X8_beginsSheet_23 : decode cX8_beginsSheet 23 = .ok (.getfield 7, 3) := D_X8_beginsSheet_0.2.2.2.2.2.2.2.2.2.2.2.2.2.2.2.1
theorem e_X8_beginsSheet_26 : decode cX8_beginsSheet 26 = .ok (.bipush 7, 2) := D_X8_beginsSheet_0.2.2.2.2.2.2.2.2.2.2.2.2.2.2.2.2.1
theorem e_X8_beginsSheet_28 : decode cX8_beginsSheet 28 = .ok (.aload_n 0, 1) := D_X8_beginsSheet_0.2.2.2.2.2.2.2.2.2.2.2.2.2.2.2.2.2.1
theorem e_X8_beginsSheet_29 : decode cX8_beginsSheet 29 = .ok (.iload_n 1, 1) := D_X8_beginsSheet_0.2.2.2.2.2.2.2.2.2.2.2.2.2.2.2.2.2.2.1
theorem e_X8_beginsSheet_30 : decode cX8_beginsSheet 30 = .ok (.iconst 0, 1) := D_X8_beginsSheet_0.2.2.2.2.2.2.2.2.2.2.2.2.2.2.2.2.2.2.2.1
theorem e_X8_beginsSheet_31 : decode cX8_beginsSheet 31 = .ok (.invokevirtual 64, 3) := D_X8_beginsSheet_0.2.2.2.2.2.2.2.2.2.2.2.2.2.2.2.2.2.2.2.2.1
theorem e_X8_beginsSheet_34 : decode cX8_beginsSheet 34 = .ok (.iastore, 1) := D_X8_beginsSheet_0.2.2.2.2.2.2.2.2.2.2.2.2.2.2.2.2.2.2.2.2.2.1
theorem e_X8_beginsSheet_35 : decode cX8_beginsSheet 35 = .ok (.aload_n 0, 1) := D_X8_beginsSheet_0.2.2.2.2.2.2.2.2.2.2.2.2.2.2.2.2.2.2.2.2.2.2.1
theorem e_X8_beginsSheet_36 : decode cX8_beginsSheet 36 = .ok (.getfield 7, 3) := D_X8_beginsSheet_0.2.2.2.2.2.2.2.2.2.2.2.2.2.2.2.2.2.2.2.2.2.2.2.1
theorem e_X8_beginsSheet_39 : decode cX8_beginsSheet 39 = .ok (.iconst 5, 1) := D_X8_beginsSheet_0.2.2.2.2.2.2.2.2.2.2.2.2.2.2.2.2.2.2.2.2.2.2.2.2.1
theorem e_X8_beginsSheet_40 : decode cX8_beginsSheet 40 = .ok (.iconst 1, 1) := D_X8_beginsSheet_0.2.2.2.2.2.2.2.2.2.2.2.2.2.2.2.2.2.2.2.2.2.2.2.2.2.1
theorem e_X8_beginsSheet_41 : decode cX8_beginsSheet 41 = .ok (.iastore, 1) := D_X8_beginsSheet_0.2.2.2.2.2.2.2.2.2.2.2.2.2.2.2.2.2.2.2.2.2.2.2.2.2.2.1
theorem e_X8_beginsSheet_42 : decode cX8_beginsSheet 42 = .ok (.aload_n 0, 1) := D_X8_beginsSheet_0.2.2.2.2.2.2.2.2.2.2.2.2.2.2.2.2.2.2.2.2.2.2.2.2.2.2.2.1
theorem e_X8_beginsSheet_43 : decode cX8_beginsSheet 43 = .ok (.getfield 7, 3) := D_X8_beginsSheet_0.2.2.2.2.2.2.2.2.2.2.2.2.2.2.2.2.2.2.2.2.2.2.2.2.2.2.2.2.1
theorem e_X8_beginsSheet_46 : decode cX8_beginsSheet 46 = .ok (.bipush 6, 2) := D_X8_beginsSheet_0.2.2.2.2.2.2.2.2.2.2.2.2.2.2.2.2.2.2.2.2.2.2.2.2.2.2.2.2.2.1
theorem e_X8_beginsSheet_48 : decode cX8_beginsSheet 48 = .ok (.aload_n 0, 1) := D_X8_beginsSheet_0.2.2.2.2.2.2.2.2.2.2.2.2.2.2.2.2.2.2.2.2.2.2.2.2.2.2.2.2.2.2.1
theorem e_X8_beginsSheet_49 : decode cX8_beginsSheet 49 = .ok (.iload_n 1, 1) := D_X8_beginsSheet_0.2.2.2.2.2.2.2.2.2.2.2.2.2.2.2.2.2.2.2.2.2.2.2.2.2.2.2.2.2.2.2.1
theorem e_X8_beginsSheet_50 : decode cX8_beginsSheet 50 = .ok (.iconst 0, 1) := D_X8_beginsSheet_0.2.2.2.2.2.2.2.2.2.2.2.2.2.2.2.2.2.2.2.2.2.2.2.2.2.2.2.2.2.2.2.2.1
theorem e_X8_beginsSheet_51 : decode cX8_beginsSheet 51 = .ok (.invokevirtual 64, 3) := D_X8_beginsSheet_0.2.2.2.2.2.2.2.2.2.2.2.2.2.2.2.2.2.2.2.2.2.2.2.2.2.2.2.2.2.2.2.2.2.1
theorem e_X8_beginsSheet_54 : decode cX8_beginsSheet 54 = .ok (.iastore, 1) := D_X8_beginsSheet_0.2.2.2.2.2.2.2.2.2.2.2.2.2.2.2.2.2.2.2.2.2.2.2.2.2.2.2.2.2.2.2.2.2.2.1
theorem e_X8_beginsSheet_55 : decode cX8_beginsSheet 55 = .ok (.aload_n 0, 1) := D_X8_beginsSheet_0.2.2.2.2.2.2.2.2.2.2.2.2.2.2.2.2.2.2.2.2.2.2.2.2.2.2.2.2.2.2.2.2.2.2.2.1
theorem e_X8_beginsSheet_56 : decode cX8_beginsSheet 56 = .ok (.getfield 7, 3) := D_X8_beginsSheet_0.2.2.2.2.2.2.2.2.2.2.2.2.2.2.2.2.2.2.2.2.2.2.2.2.2.2.2.2.2.2.2.2.2.2.2.2.1
theorem e_X8_beginsSheet_59 : decode cX8_beginsSheet 59 = .ok (.iconst 4, 1) := D_X8_beginsSheet_0.2.2.2.2.2.2.2.2.2.2.2.2.2.2.2.2.2.2.2.2.2.2.2.2.2.2.2.2.2.2.2.2.2.2.2.2.2.1
theorem e_X8_beginsSheet_60 : decode cX8_beginsSheet 60 = .ok (.iload_n 2, 1) := D_X8_beginsSheet_0.2.2.2.2.2.2.2.2.2.2.2.2.2.2.2.2.2.2.2.2.2.2.2.2.2.2.2.2.2.2.2.2.2.2.2.2.2.2.1
theorem e_X8_beginsSheet_61 : decode cX8_beginsSheet 61 = .ok (.aload_n 0, 1) := D_X8_beginsSheet_0.2.2.2.2.2.2.2.2.2.2.2.2.2.2.2.2.2.2.2.2.2.2.2.2.2.2.2.2.2.2.2.2.2.2.2.2.2.2.2.1
set_option maxRecDepth 100000 in
theorem D_X8_beginsSheet_1 : decode cX8_beginsSheet 62 = .ok (.getfield 7, 3) ∧ decode cX8_beginsSheet 65 = .ok (.bipush 10, 2) ∧ decode cX8_beginsSheet 67 = .ok (.iaload, 1) ∧ decode cX8_beginsSheet 68 = .ok (.imul, 1) ∧ decode cX8_beginsSheet 69 = .ok (.iload_n 2, 1) ∧ decode cX8_beginsSheet 70 = .ok (.iconst 2, 1) ∧ decode cX8_beginsSheet 71 = .ok (.if_icmp .ne 13, 3) ∧ decode cX8_beginsSheet 74 = .ok (.aload_n 0, 1) ∧ decode cX8_beginsSheet 75 = .ok (.getfield 7, 3) ∧ decode cX8_beginsSheet 78 = .ok (.bipush 11, 2) ∧ decode cX8_beginsSheet 80 = .ok (.iaload, 1) ∧ decode cX8_beginsSheet 81 = .ok (.goto 4, 3) ∧ decode cX8_beginsSheet 84 = .ok (.iconst 0, 1) ∧ decode cX8_beginsSheet 85 = .ok (.iadd, 1) ∧ decode cX8_beginsSheet 86 = .ok (.iastore, 1) ∧ decode cX8_beginsSheet 87 = .ok (.return_, 1) ∧ True := dq_of (l := (62, .getfield 7, 3) :: (65, .bipush 10, 2) :: (67, .iaload, 1) :: (68, .imul, 1) :: (69, .iload_n 2, 1) :: (70, .iconst 2, 1) :: (71, .if_icmp .ne 13, 3) :: (74, .aload_n 0, 1) :: (75, .getfield 7, 3) :: (78, .bipush 11, 2) :: (80, .iaload, 1) :: (81, .goto 4, 3) :: (84, .iconst 0, 1) :: (85, .iadd, 1) :: (86, .iastore, 1) :: (87, .return_, 1) :: []) (by decide +kernel)
theorem e_X8_beginsSheet_62 : decode cX8_beginsSheet 62 = .ok (.getfield 7, 3) := D_X8_beginsSheet_1.1
theorem e_X8_beginsSheet_65 : decode cX8_beginsSheet 65 = .ok (.bipush 10, 2) := D_X8_beginsSheet_1.2.1
theorem e_X8_beginsSheet_67 : decode cX8_beginsSheet 67 = .ok (.iaload, 1) := D_X8_beginsSheet_1.2.2.1
theorem e_X8_beginsSheet_68 : decode cX8_beginsSheet 68 = .ok (.imul, 1) := D_X8_beginsSheet_1.2.2.2.1
theorem e_X8_beginsSheet_69 : decode cX8_beginsSheet 69 = .ok (.iload_n 2, 1) := D_X8_beginsSheet_1.2.2.2.2.1
theorem e_X8_beginsSheet_70 : decode cX8_beginsSheet 70 = .ok (.iconst 2, 1) := D_X8_beginsSheet_1.2.2.2.2.2.1
theorem e_X8_beginsSheet_71 : decode cX8_beginsSheet 71 = .ok (.if_icmp .ne 13, 3) := D_X8_beginsSheet_1.2.2.2.2.2.2.1
theorem e_X8_beginsSheet_74 : decode cX8_beginsSheet 74 = .ok (.aload_n 0, 1) := D_X8_beginsSheet_1.2.2.2.2.2.2.2.1
theorem e_X8_beginsSheet_75 : decode cX8_beginsSheet 75 = .ok (.getfield 7, 3) := D_X8_beginsSheet_1.2.2.2.2.2.2.2.2.1
theorem e_X8_beginsSheet_78 : decode cX8_beginsSheet 78 = .ok (.bipush 11, 2) := D_X8_beginsSheet_1.2.2.2.2.2.2.2.2.2.1
theorem e_X8_beginsSheet_80 : decode cX8_beginsSheet 80 = .ok (.iaload, 1) := D_X8_beginsSheet_1.2.2.2.2.2.2.2.2.2.2.1
theorem e_X8_beginsSheet_81 : decode cX8_beginsSheet 81 = .ok (.goto 4, 3) := D_X8_beginsSheet_1.2.2.2.2.2.2.2.2.2.2.2.1
theorem e_X8_beginsSheet_84 : decode cX8_beginsSheet 84 = .ok (.iconst 0, 1) := D_X8_beginsSheet_1.2.2.2.2.2.2.2.2.2.2.2.2.1
theorem e_X8_beginsSheet_85 : decode cX8_beginsSheet 85 = .ok (.iadd, 1) := D_X8_beginsSheet_1.2.2.2.2.2.2.2.2.2.2.2.2.2.1
theorem e_X8_beginsSheet_86 : decode cX8_beginsSheet 86 = .ok (.iastore, 1) := D_X8_beginsSheet_1.2.2.2.2.2.2.2.2.2.2.2.2.2.2.1
theorem e_X8_beginsSheet_87 : decode cX8_beginsSheet 87 = .ok (.return_, 1) := D_X8_beginsSheet_1.2.2.2.2.2.2.2.2.2.2.2.2.2.2.2.1
set_option maxRecDepth 100000 in
theorem D_X8_begins_0 : decode cX8_begins 0 = .ok (.iconst 0, 1) ∧ decode cX8_begins 1 = .ok (.istore_n 1, 1) ∧ decode cX8_begins 2 = .ok (.iload_n 1, 1) ∧ decode cX8_begins 3 = .ok (.ifCond .ne 100, 3) ∧ decode cX8_begins 6 = .ok (.aload_n 0, 1) ∧ decode cX8_begins 7 = .ok (.getfield 7, 3) ∧ decode cX8_begins 10 = .ok (.iconst 5, 1) ∧ decode cX8_begins 11 = .ok (.iaload, 1) ∧ decode cX8_begins 12 = .ok (.ifCond .ne 91, 3) ∧ decode cX8_begins 15 = .ok (.aload_n 0, 1) ∧ decode cX8_begins 16 = .ok (.invokevirtual 134, 3) ∧ decode cX8_begins 19 = .ok (.istore_n 2, 1) ∧ decode cX8_begins 20 = .ok (.aload_n 0, 1) ∧ decode cX8_begins 21 = .ok (.iload_n 2, 1) ∧ decode cX8_begins 22 = .ok (.invokevirtual 138, 3) ∧ decode cX8_begins 25 = .ok (.istore_n 1, 1) ∧ decode cX8_begins 26 = .ok (.iload_n 1, 1) ∧ decode cX8_begins 27 = .ok (.ifCond .ne 64, 3) ∧ decode cX8_begins 30 = .ok (.aload_n 0, 1) ∧ decode cX8_begins 31 = .ok (.iload_n 2, 1) ∧ decode cX8_begins 32 = .ok (.invokevirtual 121, 3) ∧ decode cX8_begins 35 = .ok (.ifCond .eq 56, 3) ∧ decode cX8_begins 38 = .ok (.aload_n 0, 1) ∧ decode cX8_begins 39 = .ok (.getfield 7, 3) ∧ decode cX8_begins 42 = .ok (.iconst 4, 1) ∧ decode cX8_begins 43 = .ok (.aload_n 0, 1) ∧ decode cX8_begins 44 = .ok (.getfield 7, 3) ∧ decode cX8_begins 47 = .ok (.bipush 12, 2) ∧ decode cX8_begins 49 = .ok (.iaload, 1) ∧ decode cX8_begins 50 = .ok (.iastore, 1) ∧ decode cX8_begins 51 = .ok (.aload_n 0, 1) ∧ decode cX8_begins 52 = .ok (.getfield 7, 3) ∧ decode cX8_begins 55 = .ok (.iconst 4, 1) ∧ decode cX8_begins 56 = .ok (.iaload, 1) ∧ decode cX8_begins 57 = .ok (.ifCond .ne 11, 3) ∧ decode cX8_begins 60 = .ok (.aload_n 0, 1) ∧ decode cX8_begins 61 = .ok (.iload_n 2, 1) ∧ decode cX8_begins 62 = .ok (.invokevirtual 141, 3) ∧ decode cX8_begins 65 = .ok (.goto 35, 3) ∧ decode cX8_begins 68 = .ok (.aload_n 0, 1) ∧ True := dq_of (l := (0, .iconst 0, 1) :: (1, .istore_n 1, 1) :: (2, .iload_n 1, 1) :: (3, .ifCond .ne 100, 3) :: (6, .aload_n 0, 1) :: (7, .getfield 7, 3) :: (10, .iconst 5, 1) :: (11, .iaload, 1) :: (12, .ifCond .ne 91, 3) :: (15, .aload_n 0, 1) :: (16, .invokevirtual 134, 3) :: (19, .istore_n 2, 1) :: (20, .aload_n 0, 1) :: (21, .iload_n 2, 1) :: (22, .invokevirtual 138, 3) :: (25, .istore_n 1, 1) :: (26, .iload_n 1, 1) :: (27, .ifCond .ne 64, 3) :: (30, .aload_n 0, 1) :: (31, .iload_n 2, 1) :: (32, .invokevirtual 121, 3) :: (35, .ifCond .eq 56, 3) :: (38, .aload_n 0, 1) :: (39, .getfield 7, 3) :: (42, .iconst 4, 1) :: (43, .aload_n 0, 1) :: (44, .getfield 7, 3) :: (47, .bipush 12, 2) :: (49, .iaload, 1) :: (50, .iastore, 1) :: (51, .aload_n 0, 1) :: (52, .getfield 7, 3) :: (55, .iconst 4, 1) :: (56, .iaload, 1) :: (57, .ifCond .ne 11, 3) :: (60, .aload_n 0, 1) :: (61, .iload_n 2, 1) :: (62, .invokevirtual 141, 3) :: (65, .goto 35, 3) :: (68, .aload_n 0, 1) :: []) (by decide +kernel)
theorem e_X8_begins_0 : decode cX8_begins 0 = .ok (.iconst 0, 1) := D_X8_begins_0.1
theorem e_X8_begins_1 : decode cX8_begins 1 = .ok (.istore_n 1, 1) := D_X8_begins_0.2.1
theorem e_X8_begins_2 : decode cX8_begins 2 = .ok (.iload_n 1, 1) := D_X8_begins_0.2.2.1
theorem e_X8_begins_3 : decode cX8_begins 3 = .ok (.ifCond .ne 100, 3) := D_X8_begins_0.2.2.2.1
theorem e_X8_begins_6 : decode cX8_begins 6 = .ok (.aload_n 0, 1) := D_X8_begins_0.2.2.2.2.1
theorem e_X8_begins_7 : decode cX8_begins 7 = .ok (.getfield 7, 3) := D_X8_begins_0.2.2.2.2.2.1
theorem e_X8_begins_10 : decode cX8_begins 10 = .ok (.iconst 5, 1) := D_X8_begins_0.2.2.2.2.2.2.1
theorem e_X8_begins_11 : decode cX8_begins 11 = .ok (.iaload, 1) := D_X8_begins_0.2.2.2.2.2.2.2.1
theorem e_X8_begins_12 : decode cX8_begins 12 = .ok (.ifCond .ne 91, 3) := D_X8_begins_0.2.2.2.2.2.2.2.2.1
theorem e_X8_begins_15 : decode cX8_begins 15 = .ok (.aload_n 0, 1) := D_X8_begins_0.2.2.2.2.2.2.2.2.2.1
theorem e_X8_begins_16 : decode cX8_begins 16 = .ok (.invokevirtual 134, 3) := D_X8_begins_0.2.2.2.2.2.2.2.2.2.2.1
theorem e_X8_begins_19 : decode cX8_begins 19 = .ok (.istore_n 2, 1) := D_X8_begins_0.2.2.2.2.2.2.2.2.2.2.2.1
theorem e_X8_begins_20 : decode cX8_begins 20 = .ok (.aload_n 0, 1) := D_X8_begins_0.2.2.2.2.2.2.2.2.2.2.2.2.1
theorem e_X8_begins_21 : decode cX8_begins 21 = .ok (.iload_n 2, 1) := D_X8_begins_0.2.2.2.2.2.2.2.2.2.2.2.2.2.1
theorem e_X8_begins_22 : decode cX8_begins 22 = .ok (.invokevirtual 138, 3) := D_X8_begins_0.2.2.2.2.2.2.2.2.2.2.2.2.2.2.1
theorem e_X8_begins_25 : decode cX8_begins 25 = .ok (.istore_n 1, 1) := D_X8_begins_0.2.2.2.2.2.2.2.2.2.2.2.2.2.2.2.1
theorem e_X8_begins_26 : decode cX8_begins 26 = .ok (.iload_n 1, 1) := D_X8_begins_0.2.2.2.2.2.2.2.2.2.2.2.2.2.2.2.2.1
theorem e_X8_begins_27 : decode cX8_begins 27 = .ok (.ifCond .ne 64, 3) := D_X8_begins_0.2.2.2.2.2.2.2.2.2.2.2.2.2.2.2.2.2.1
theorem e_X8_begins_30 : decode cX8_begins 30 = .ok (.aload_n 0, 1) := D_X8_begins_0.2.2.2.2.2.2.2.2.2.2.2.2.2.2.2.2.2.2.1
theorem e_X8_begins_31 : decode cX8_begins 31 = .ok (.iload_n 2, 1) := D_X8_begins_0.2.2.2.2.2.2.2.2.2.2.2.2.2.2.2.2.2.2.2.1
theorem e_X8_begins_32 : decode cX8_begins 32 = .ok (.invokevirtual 121, 3) := D_X8_begins_0.2.2.2.2.2.2.2.2.2.2.2.2.2.2.2.2.2.2.2.2.1
theorem e_X8_begins_35 : decode cX8_begins 35 = .ok (.ifCond .eq 56, 3) := D_X8_begins_0.2.2.2.2.2.2.2.2.2.2.2.2.2.2.2.2.2.2.2.2.2.1
theorem e_X8_begins_38 : decode cX8_begins 38 = .ok (.aload_n 0, 1) := D_X8_begins_0.2.2.2.2.2.2.2.2.2.2.2.2.2.2.2.2.2.2.2.2.2.2.1
theorem e_X8_begins_39 : decode cX8_begins 39 = .ok (.getfield 7, 3) := D_X8_begins_0.2.2.2.2.2.2.2.2.2.2.2.2.2.2.2.2.2.2.2.2.2.2.2.1
theorem e_X8_begins_42 : decode cX8_begins 42 = .ok (.iconst 4, 1) := D_X8_begins_0.2.2.2.2.2.2.2.2.2.2.2.2.2.2.2.2.2.2.2.2.2.2.2.2.1
theorem e_X8_begins_43 : decode cX8_begins 43 = .ok (.aload_n 0, 1) := D_X8_begins_0.2.2.2.2.2.2.2.2.2.2.2.2.2.2.2.2.2.2.2.2.2.2.2.2.2.1
theorem e_X8_begins_44 : decode cX8_begins 44 = .ok (.getfield 7, 3) := D_X8_begins_0.2.2.2.2.2.2.2.2.2.2.2.2.2.2.2.2.2.2.2.2.2.2.2.2.2.2.1
theorem e_X8_begins_47 : decode cX8_begins 47 = .ok (.bipush 12, 2) := D_X8_begins_0.2.2.2.2.2.2.2.2.2.2.2.2.2.2.2.2.2.2.2.2.2.2.2.2.2.2.2.1
theorem e_X8_begins_49 : decode cX8_begins 49 = .ok (.iaload, 1) := D_X8_begins_0.2.2.2.2.2.2.2.2.2.2.2.2.2.2.2.2.2.2.2.2.2.2.2.2.2.2.2.2.1
theorem e_X8_begins_50 : decode cX8_begins 50 = .ok (.iastore, 1) := D_X8_begins_0.2.2.2.2.2.2.2.2.2.2.2.2.2.2.2.2.2.2.2.2.2.2.2.2.2.2.2.2.2.1
theorem e_X8_begins_51 : decode cX8_begins 51 = .ok (.aload_n 0, 1) := D_X8_begins_0.2.2.2.2.2.2.2.2.2.2.2.2.2.2.2.2.2.2.2.2.2.2.2.2.2.2.2.2.2.2.1
theorem e_X8_begins_52 : decode cX8_begins 52 = .ok (.getfield 7, 3) := D_X8_begins_0.2.2.2.2.2.2.2.2.2.2.2.2.2.2.2.2.2.2.2.2.2.2.2.2.2.2.2.2.2.2.2.1
theorem e_X8_begins_55 : decode cX8_begins 55 = .ok (.iconst 4, 1) := D_X8_begins_0.2.2.2.2.2.2.2.2.2.2.2.2.2.2.2.2.2.2.2.2.2.2.2.2.2.2.2.2.2.2.2.2.1
theorem e_X8_begins_56 : decode cX8_begins 56 = .ok (.iaload, 1) := D_X8_begins_0.2.2.2.2.2.2.2.2.2.2.2.2.2.2.2.2.2.2.2.2.2.2.2.2.2.2.2.2.2.2.2.2.2.1
theorem e_X8_begins_57 : decode cX8_begins 57 = .ok (.ifCond .ne 11, 3) := D_X8_begins_0.2.2.2.2.2.2.2.2.2.2.2.2.2.2.2.2.2.2.2.2.2.2.2.2.2.2.2.2.2.2.2.2.2.2.1
theorem e_X8_begins_60 : decode cX8_begins 60 = .ok (.aload_n 0, 1) := D_X8_begins_0.2.2.2.2.2.2.2.2.2.2.2.2.2.2.2.2.2.2.2.2.2.2.2.2.2.2.2.2.2.2.2.2.2.2.2.1
theorem e_X8_begins_61 : decode cX8_begins 61 = .ok (.iload_n 2, 1) := D_X8_begins_0.2.2.2.2.2.2.2.2.2.2.2.2.2.2.2.2.2.2.2.2.2.2.2.2.2.2.2.2.2.2.2.2.2.2.2.2.1
theorem e_X8_begins_62 : decode cX8_begins 62 = .ok (.invokevirtual 141, 3) := D_X8_begins_0.2.2.2.2.2.2.2.2.2.2.2.2.2.2.2.2.2.2.2.2.2.2.2.2.2.2.2.2.2.2.2.2.2.2.2.2.2.1
theorem e_X8_begins_65 : decode cX8_begins 65 = .ok (.goto 35, 3) := D_X8_begins_0.2.2.2.2.2.2.2.2.2.2.2.2.2.2.2.2.2.2.2.2.2.2.2.2.2.2.2.2.2.2.2.2.2.2.2.2.2.2.1
theorem e_X8_begins_68 : decode cX8_begins 68 = .ok (.aload_n 0, 1) := D_X8_begins_0.2.2.2.2.2.2.2.2.2.2.2.2.2.2.2.2.2.2.2.2.2.2.2.2.2.2.2.2.2.2.2.2.2.2.2.2.2.2.2.1
set_option maxRecDepth 100000 in
theorem D_X8_begins_1 : decode cX8_begins 69 = .ok (.getfield 7, 3) ∧ decode cX8_begins 72 = .ok (.iconst 5, 1) ∧ decode cX8_begins 73 = .ok (.iconst 2, 1) ∧ decode cX8_begins 74 = .ok (.iastore, 1) ∧ decode cX8_begins 75 = .ok (.aload_n 0, 1) ∧ decode cX8_begins 76 = .ok (.getfield 7, 3) ∧ decode cX8_begins 79 = .ok (.bipush 6, 2) ∧ decode cX8_begins 81 = .ok (.aload_n 0, 1) ∧ decode cX8_begins 82 = .ok (.iload_n 2, 1) ∧ decode cX8_begins 83 = .ok (.iconst 0, 1) ∧ decode cX8_begins 84 = .ok (.invokevirtual 64, 3) ∧ decode cX8_begins 87 = .ok (.iastore, 1) ∧ decode cX8_begins 88 = .ok (.goto 12, 3) ∧ decode cX8_begins 91 = .ok (.iload_n 1, 1) ∧ decode cX8_begins 92 = .ok (.ifCond .ne 8, 3) ∧ decode cX8_begins 95 = .ok (.aload_n 0, 1) ∧ decode cX8_begins 96 = .ok (.iload_n 2, 1) ∧ decode cX8_begins 97 = .ok (.invokevirtual 144, 3) ∧ decode cX8_begins 100 = .ok (.goto (-98), 3) ∧ decode cX8_begins 103 = .ok (.iload_n 1, 1) ∧ decode cX8_begins 104 = .ok (.ireturn, 1) ∧ True := dq_of (l := (69, .getfield 7, 3) :: (72, .iconst 5, 1) :: (73, .iconst 2, 1) :: (74, .iastore, 1) :: (75, .aload_n 0, 1) :: (76, .getfield 7, 3) :: (79, .bipush 6, 2) :: (81, .aload_n 0, 1) :: (82, .iload_n 2, 1) :: (83, .iconst 0, 1) :: (84, .invokevirtual 64, 3) :: (87, .iastore, 1) :: (88, .goto 12, 3) :: (91, .iload_n 1, 1) :: (92, .ifCond .ne 8, 3) :: (95, .aload_n 0, 1) :: (96, .iload_n 2, 1) :: (97, .invokevirtual 144, 3) :: (100, .goto (-98), 3) :: (103, .iload_n 1, 1) :: (104, .ireturn, 1) :: []) (by decide +kernel)
theorem e_X8_begins_69 : decode cX8_begins 69 = .ok (.getfield 7, 3) := D_X8_begins_1.1
theorem e_X8_begins_72 : decode cX8_begins 72 = .ok (.iconst 5, 1) := D_X8_begins_1.2.1
theorem e_X8_begins_73 : decode cX8_begins 73 = .ok (.iconst 2, 1) := D_X8_begins_1.2.2.1
theorem e_X8_begins_74 : decode cX8_begins 74 = .ok (.iastore, 1) := D_X8_begins_1.2.2.2.1
theorem e_X8_begins_75 : decode cX8_begins 75 = .ok (.aload_n 0, 1) := D_X8_begins_1.2.2.2.2.1
theorem e_X8_begins_76 : decode cX8_begins 76 = .ok (.getfield 7, 3) := D_X8_begins_1.2.2.2.2.2.1
theorem e_X8_begins_79 : decode cX8_begins 79 = .ok (.bipush 6, 2) := D_X8_begins_1.2.2.2.2.2.2.1
theorem e_X8_begins_81 : decode cX8_begins 81 = .ok (.aload_n 0, 1) := D_X8_begins_1.2.2.2.2.2.2.2.1
theorem e_X8_begins_82 : decode cX8_begins 82 = .ok (.iload_n 2, 1) := D_X8_begins_1.2.2.2.2.2.2.2.2.1
theorem e_X8_begins_83 : decode cX8_begins 83 = .ok (.iconst 0, 1) := D_X8_begins_1.2.2.2.2.2.2.2.2.2.1
theorem e_X8_begins_84 : decode cX8_begins 84 = .ok (.invokevirtual 64, 3) := D_X8_begins_1.2.2.2.2.2.2.2.2.2.2.1
theorem e_X8_begins_87 : decode cX8_begins 87 = .ok (.iastore, 1) := D_X8_begins_1.2.2.2.2.2.2.2.2.2.2.2.1
theorem e_X8_begins_88 : decode cX8_begins 88 = .ok (.goto 12, 3) := D_X8_begins_1.2.2.2.2.2.2.2.2.2.2.2.2.1
theorem e_X8_begins_91 : decode cX8_begins 91 = .ok (.iload_n 1, 1) := D_X8_begins_1.2.2.2.2.2.2.2.2.2.2.2.2.2.1
theorem e_X8_begins_92 : decode cX8_begins 92 = .ok (.ifCond .ne 8, 3) := D_X8_begins_1.2.2.2.2.2.2.2.2.2.2.2.2.2.2.1
theorem e_X8_begins_95 : decode cX8_begins 95 = .ok (.aload_n 0, 1) := D_X8_begins_1.2.2.2.2.2.2.2.2.2.2.2.2.2.2.2.1
theorem e_X8_begins_96 : decode cX8_begins 96 = .ok (.iload_n 2, 1) := D_X8_begins_1.2.2.2.2.2.2.2.2.2.2.2.2.2.2.2.2.1
theorem e_X8_begins_97 : decode cX8_begins 97 = .ok (.invokevirtual 144, 3) := D_X8_begins_1.2.2.2.2.2.2.2.2.2.2.2.2.2.2.2.2.2.1
theorem e_X8_begins_100 : decode cX8_begins 100 = .ok (.goto (-98), 3) := D_X8_begins_1.2.2.2.2.2.2.2.2.2.2.2.2.2.2.2.2.2.2.1
theorem e_X8_begins_103 : decode cX8_begins 103 = .ok (.iload_n 1, 1) := D_X8_begins_1.2.2.2.2.2.2.2.2.2.2.2.2.2.2.2.2.2.2.2.1
theorem e_X8_begins_104 : decode cX8_begins 104 = .ok (.ireturn, 1) := D_X8_begins_1.2.2.2.2.2.2.2.2.2.2.2.2.2.2.2.2.2.2.2.2.1
set_option maxRecDepth 100000 in
theorem D_X8_finishes_0 : decode cX8_finishes 0 = .ok (.aload_n 0, 1) ∧ decode cX8_finishes 1 = .ok (.aload_n 0, 1) ∧ decode cX8_finishes 2 = .ok (.getfield 7, 3) ∧ decode cX8_finishes 5 = .ok (.bipush 6, 2) ∧ decode cX8_finishes 7 = .ok (.iaload, 1) ∧ decode cX8_finishes 8 = .ok (.invokevirtual 87, 3) ∧ decode cX8_finishes 11 = .ok (.istore_n 1, 1) ∧ decode cX8_finishes 12 = .ok (.aload_n 0, 1) ∧ decode cX8_finishes 13 = .ok (.getfield 7, 3) ∧ decode cX8_finishes 16 = .ok (.iconst 5, 1) ∧ decode cX8_finishes 17 = .ok (.iaload, 1) ∧ decode cX8_finishes 18 = .ok (.istore_n 2, 1) ∧ decode cX8_finishes 19 = .ok (.aload_n 0, 1) ∧ decode cX8_finishes 20 = .ok (.invokevirtual 84, 3) ∧ decode cX8_finishes 23 = .ok (.iload_n 2, 1) ∧ decode cX8_finishes 24 = .ok (.iconst 2, 1) ∧ decode cX8_finishes 25 = .ok (.if_icmp .ne 9, 3) ∧ decode cX8_finishes 28 = .ok (.aload_n 0, 1) ∧ decode cX8_finishes 29 = .ok (.iload_n 1, 1) ∧ decode cX8_finishes 30 = .ok (.invokevirtual 141, 3) ∧ decode cX8_finishes 33 = .ok (.return_, 1) ∧ decode cX8_finishes 34 = .ok (.aload_n 0, 1) ∧ decode cX8_finishes 35 = .ok (.getfield 7, 3) ∧ decode cX8_finishes 38 = .ok (.bipush 8, 2) ∧ decode cX8_finishes 40 = .ok (.dup2, 1) ∧ decode cX8_finishes 41 = .ok (.iaload, 1) ∧ decode cX8_finishes 42 = .ok (.iconst 1, 1) ∧ decode cX8_finishes 43 = .ok (.iadd, 1) ∧ decode cX8_finishes 44 = .ok (.iastore, 1) ∧ decode cX8_finishes 45 = .ok (.aload_n 0, 1) ∧ decode cX8_finishes 46 = .ok (.getfield 7, 3) ∧ decode cX8_finishes 49 = .ok (.bipush 14, 2) ∧ decode cX8_finishes 51 = .ok (.iaload, 1) ∧ decode cX8_finishes 52 = .ok (.ifCond .le 33, 3) ∧ decode cX8_finishes 55 = .ok (.aload_n 0, 1) ∧ decode cX8_finishes 56 = .ok (.getfield 7, 3) ∧ decode cX8_finishes 59 = .ok (.bipush 8, 2) ∧ decode cX8_finishes 61 = .ok (.iaload, 1) ∧ decode cX8_finishes 62 = .ok (.aload_n 0, 1) ∧ decode cX8_finishes 63 = .ok (.getfield 7, 3) ∧ True := dq_of (l := (0, .aload_n 0, 1) :: (1, .aload_n 0, 1) :: (2, .getfield 7, 3) :: (5, .bipush 6, 2) :: (7, .iaload, 1) :: (8, .invokevirtual 87, 3) :: (11, .istore_n 1, 1) :: (12, .aload_n 0, 1) :: (13, .getfield 7, 3) :: (16, .iconst 5, 1) :: (17, .iaload, 1) :: (18, .istore_n 2, 1) :: (19, .aload_n 0, 1) :: (20, .invokevirtual 84, 3) :: (23, .iload_n 2, 1) :: (24, .iconst 2, 1) :: (25, .if_icmp .ne 9, 3) :: (28, .aload_n 0, 1) :: (29, .iload_n 1, 1) :: (30, .invokevirtual 141, 3) :: (33, .return_, 1) :: (34, .aload_n 0, 1) :: (35, .getfield 7, 3) :: (38, .bipush 8, 2) :: (40, .dup2, 1) :: (41, .iaload, 1) :: (42, .iconst 1, 1) :: (43, .iadd, 1) :: (44, .iastore, 1) :: (45, .aload_n 0, 1) :: (46, .getfield 7, 3) :: (49, .bipush 14, 2) :: (51, .iaload, 1) :: (52, .ifCond .le 33, 3) :: (55, .aload_n 0, 1) :: (56, .getfield 7, 3) :: (59, .bipush 8, 2) :: (61, .iaload, 1) :: (62, .aload_n 0, 1) :: (63, .getfield 7, 3) :: []) (by decide +kernel)
theorem e_X8_finishes_0 : decode cX8_finishes 0 = .ok (.aload_n 0, 1) := D_X8_finishes_0.1
theorem e_X8_finishes_1 : decode cX8_finishes 1 = .ok (.aload_n 0, 1) := D_X8_finishes_0.2.1
theorem e_X8_finishes_2 : decode cX8_finishes 2 = .ok (.getfield 7, 3) := D_X8_finishes_0.2.2.1
theorem e_X8_finishes_5 : decode cX8_finishes 5 = .ok (.bipush 6, 2) := D_X8_finishes_0.2.2.2.1
theorem e_X8_finishes_7 : decode cX8_finishes 7 = .ok (.iaload, 1) := D_X8_finishes_0.2.2.2.2.1
theorem e_X8_finishes_8 : decode cX8_finishes 8 = .ok (.invokevirtual 87, 3) := D_X8_finishes_0.2.2.2.2.2.1
theorem e_X8_finishes_11 : decode cX8_finishes 11 = .ok (.istore_n 1, 1) := D_X8_finishes_0.2.2.2.2.2.2.1
theorem e_X8_finishes_12 : decode cX8_finishes 12 = .ok (.aload_n 0, 1) := D_X8_finishes_0.2.2.2.2.2.2.2.1
theorem e_X8_finishes_13 : decode cX8_finishes 13 = .ok (.getfield 7, 3) := D_X8_finishes_0.2.2.2.2.2.2.2.2.1
theorem e_X8_finishes_16 : decode cX8_finishes 16 = .ok (.iconst 5, 1) := D_X8_finishes_0.2.2.2.2.2.2.2.2.2.1
theorem e_X8_finishes_17 : decode cX8_finishes 17 = .ok (.iaload, 1) := D_X8_finishes_0.2.2.2.2.2.2.2.2.2.2.1
theorem e_X8_finishes_18 : decode cX8_finishes 18 = .ok (.istore_n 2, 1) := D_X8_finishes_0.2.2.2.2.2.2.2.2.2.2.2.1
theorem e_X8_finishes_19 : decode cX8_finishes 19 = .ok (.aload_n 0, 1) := D_X8_finishes_0.2.2.2.2.2.2.2.2.2.2.2.2.1
theorem e_X8_finishes_20 : decode cX8_finishes 20 = .ok (.invokevirtual 84, 3) := D_X8_finishes_0.2.2.2.2.2.2.2.2.2.2.2.2.2.1
theorem e_X8_finishes_23 : decode cX8_finishes 23 = .ok (.iload_n 2, 1) := D_X8_finishes_0.2.2.2.2.2.2.2.2.2.2.2.2.2.2.1
theorem e_X8_finishes_24 : decode cX8_finishes 24 = .ok (.iconst 2, 1) := D_X8_finishes_0.2.2.2.2.2.2.2.2.2.2.2.2.2.2.2.1
theorem e_X8_finishes_25 : decode cX8_finishes 25 = .ok (.if_icmp .ne 9, 3) := D_X8_finishes_0.2.2.2.2.2.2.2.2.2.2.2.2.2.2.2.2.1
theorem e_X8_finishes_28 : decode cX8_finishes 28 = .ok (.aload_n 0, 1) := D_X8_finishes_0.2.2.2.2.2.2.2.2.2.2.2.2.2.2.2.2.2.1
theorem e_X8_finishes_29 : decode cX8_finishes 29 = .ok (.iload_n 1, 1) := D_X8_finishes_0.2.2.2.2.2.2.2.2.2.2.2.2.2.2.2.2.2.2.1
theorem e_X8_finishes_30 : decode cX8_finishes 30 = .ok (.invokevirtual 141, 3) := D_X8_finishes_0.2.2.2.2.2.2.2.2.2.2.2.2.2.2.2.2.2.2.2.1
theorem e_X8_finishes_33 : decode cX8_finishes 33 = .ok (.return_, 1) := D_X8_finishes_0.2.2.2.2.2.2.2.2.2.2.2.2.2.2.2.2.2.2.2.2.1
theorem e_X8_finishes_34 : decode cX8_finishes 34 = .ok (.aload_n 0, 1) := D_X8_finishes_0.2.2.2.2.2.2.2.2.2.2.2.2.2.2.2.2.2.2.2.2.2.1
theorem e_X8_finishes_35 : decode cX8_finishes 35 = .ok (.getfield 7, 3) := D_X8_finishes_0.2.2.2.2.2.2.2.2.2.2.2.2.2.2.2.2.2.2.2.2.2.2.1
theorem e_X8_finishes_38 : decode cX8_finishes 38 = .ok (.bipush 8, 2) := D_X8_finishes_0.2.2.2.2.2.2.2.2.2.2.2.2.2.2.2.2.2.2.2.2.2.2.2.1
theorem e_X8_finishes_40 : decode cX8_finishes 40 = .ok (.dup2, 1) := D_X8_finishes_0.2.2.2.2.2.2.2.2.2.2.2.2.2.2.2.2.2.2.2.2.2.2.2.2.1
theorem e_X8_finishes_41 : decode cX8_finishes 41 = .ok (.iaload, 1) := D_X8_finishes_0.2.2.2.2.2.2.2.2.2.2.2.2.2.2.2.2.2.2.2.2.2.2.2.2.2.1
theorem e_X8_finishes_42 : decode cX8_finishes 42 = .ok (.iconst 1, 1) := D_X8_finishes_0.2.2.2.2.2.2.2.2.2.2.2.2.2.2.2.2.2.2.2.2.2.2.2.2.2.2.1
theorem e_X8_finishes_43 : decode cX8_finishes 43 = .ok (.iadd, 1) := D_X8_finishes_0.2.2.2.2.2.2.2.2.2.2.2.2.2.2.2.2.2.2.2.2.2.2.2.2.2.2.2.1
theorem e_X8_finishes_44 : decode cX8_finishes 44 = .ok (.iastore, 1) := D_X8_finishes_0.2.2.2.2.2.2.2.2.2.2.2.2.2.2.2.2.2.2.2.2.2.2.2.2.2.2.2.2.1
theorem e_X8_finishes_45 : decode cX8_finishes 45 = .ok (.aload_n 0, 1) := D_X8_finishes_0.2.2.2.2.2.2.2.2.2.2.2.2.2.2.2.2.2.2.2.2.2.2.2.2.2.2.2.2.2.1
theorem e_X8_finishes_46 : decode cX8_finishes 46 = .ok (.getfield 7, 3) := D_X8_finishes_0.2.2.2.2.2.2.2.2.2.2.2.2.2.2.2.2.2.2.2.2.2.2.2.2.2.2.2.2.2.2.1
theorem e_X8_finishes_49 : decode cX8_finishes 49 = .ok (.bipush 14, 2) := D_X8_finishes_0.2.2.2.2.2.2.2.2.2.2.2.2.2.2.2.2.2.2.2.2.2.2.2.2.2.2.2.2.2.2.2.1
theorem e_X8_finishes_51 : decode cX8_finishes 51 = .ok (.iaload, 1) := D_X8_finishes_0.2.2.2.2.2.2.2.2.2.2.2.2.2.2.2.2.2.2.2.2.2.2.2.2.2.2.2.2.2.2.2.2.1
theorem e_X8_finishes_52 : decode cX8_finishes 52 = .ok (.ifCond .le 33, 3) := D_X8_finishes_0.2.2.2.2.2.2.2.2.2.2.2.2.2.2.2.2.2.2.2.2.2.2.2.2.2.2.2.2.2.2.2.2.2.1
theorem e_X8_finishes_55 : decode cX8_finishes 55 = .ok (.aload_n 0, 1) := D_X8_finishes_0.2.2.2.2.2.2.2.2.2.2.2.2.2.2.2.2.2.2.2.2.2.2.2.2.2.2.2.2.2.2.2.2.2.2.1
theorem e_X8_finishes_56 : decode cX8_finishes 56 = .ok (.getfield 7, 3) := D_X8_finishes_0.2.2.2.2.2.2.2.2.2.2.2.2.2.2.2.2.2.2.2.2.2.2.2.2.2.2.2.2.2.2.2.2.2.2.2.1
theorem e_X8_finishes_59 : decode cX8_finishes 59 = .ok (.bipush 8, 2) := D_X8_finishes_0.2.2.2.2.2.2.2.2.2.2.2.2.2.2.2.2.2.2.2.2.2.2.2.2.2.2.2.2.2.2.2.2.2.2.2.2.1
theorem e_X8_finishes_61 : decode cX8_finishes 61 = .ok (.iaload, 1) := D_X8_finishes_0.2.2.2.2.2.2.2.2.2.2.2.2.2.2.2.2.2.2.2.2.2.2.2.2.2.2.2.2.2.2.2.2.2.2.2.2.2.1
theorem e_X8_finishes_62 : decode cX8_finishes 62 = .ok (.aload_n 0, 1) := D_X8_finishes_0.2.2.2.2.2.2.2.2.2.2.2.2.2.2.2.2.2.2.2.2.2.2.2.2.2.2.2.2.2.2.2.2.2.2.2.2.2.2.1
theorem e_X8_finishes_63 : decode cX8_finishes 63 = .ok (.getfield 7, 3) := D_X8_finishes_0.2.2.2.2.2.2.2.2.2.2.2.2.2.2.2.2.2.2.2.2.2.2.2.2.2.2.2.2.2.2.2.2.2.2.2.2.2.2.2.1
set_option maxRecDepth 100000 in
theorem D_X8_finishes_1 : decode cX8_finishes 66 = .ok (.bipush 14, 2) ∧ decode cX8_finishes 68 = .ok (.iaload, 1) ∧ decode cX8_finishes 69 = .ok (.irem, 1) ∧ decode cX8_finishes 70 = .ok (.ifCond .ne 15, 3) ∧ decode cX8_finishes 73 = .ok (.aload_n 0, 1) ∧ decode cX8_finishes 74 = .ok (.getfield 7, 3) ∧ decode cX8_finishes 77 = .ok (.bipush 18, 2) ∧ decode cX8_finishes 79 = .ok (.dup2, 1) ∧ decode cX8_finishes 80 = .ok (.iaload, 1) ∧ decode cX8_finishes 81 = .ok (.iconst 1, 1) ∧ decode cX8_finishes 82 = .ok (.iadd, 1) ∧ decode cX8_finishes 83 = .ok (.iastore, 1) ∧ decode cX8_finishes 84 = .ok (.return_, 1) ∧ decode cX8_finishes 85 = .ok (.aload_n 0, 1) ∧ decode cX8_finishes 86 = .ok (.getfield 7, 3) ∧ decode cX8_finishes 89 = .ok (.iconst 2, 1) ∧ decode cX8_finishes 90 = .ok (.dup2, 1) ∧ decode cX8_finishes 91 = .ok (.iaload, 1) ∧ decode cX8_finishes 92 = .ok (.iconst 1, 1) ∧ decode cX8_finishes 93 = .ok (.iadd, 1) ∧ decode cX8_finishes 94 = .ok (.iastore, 1) ∧ decode cX8_finishes 95 = .ok (.aload_n 0, 1) ∧ decode cX8_finishes 96 = .ok (.getfield 7, 3) ∧ decode cX8_finishes 99 = .ok (.bipush 17, 2) ∧ decode cX8_finishes 101 = .ok (.dup2, 1) ∧ decode cX8_finishes 102 = .ok (.iaload, 1) ∧ decode cX8_finishes 103 = .ok (.iconst 1, 1) ∧ decode cX8_finishes 104 = .ok (.iadd, 1) ∧ decode cX8_finishes 105 = .ok (.iastore, 1) ∧ decode cX8_finishes 106 = .ok (.aload_n 0, 1) ∧ decode cX8_finishes 107 = .ok (.getfield 7, 3) ∧ decode cX8_finishes 110 = .ok (.bipush 19, 2) ∧ decode cX8_finishes 112 = .ok (.dup2, 1) ∧ decode cX8_finishes 113 = .ok (.iaload, 1) ∧ decode cX8_finishes 114 = .ok (.aload_n 0, 1) ∧ decode cX8_finishes 115 = .ok (.iload_n 1, 1) ∧ decode cX8_finishes 116 = .ok (.invokevirtual 131, 3) ∧ decode cX8_finishes 119 = .ok (.iadd, 1) ∧ decode cX8_finishes 120 = .ok (.iastore, 1) ∧ decode cX8_finishes 121 = .ok (.aload_n 0, 1) ∧ True := dq_of (l := (66, .bipush 14, 2) :: (68, .iaload, 1) :: (69, .irem, 1) :: (70, .ifCond .ne 15, 3) :: (73, .aload_n 0, 1) :: (74, .getfield 7, 3) :: (77, .bipush 18, 2) :: (79, .dup2, 1) :: (80, .iaload, 1) :: (81, .iconst 1, 1) :: (82, .iadd, 1) :: (83, .iastore, 1) :: (84, .return_, 1) :: (85, .aload_n 0, 1) :: (86, .getfield 7, 3) :: (89, .iconst 2, 1) :: (90, .dup2, 1) :: (91, .iaload, 1) :: (92, .iconst 1, 1) :: (93, .iadd, 1) :: (94, .iastore, 1) :: (95, .aload_n 0, 1) :: (96, .getfield 7, 3) :: (99, .bipush 17, 2) :: (101, .dup2, 1) :: (102, .iaload, 1) :: (103, .iconst 1, 1) :: (104, .iadd, 1) :: (105, .iastore, 1) :: (106, .aload_n 0, 1) :: (107, .getfield 7, 3) :: (110, .bipush 19, 2) :: (112, .dup2, 1) :: (113, .iaload, 1) :: (114, .aload_n 0, 1) :: (115, .iload_n 1, 1) :: (116, .invokevirtual 131, 3) :: (119, .iadd, 1) :: (120, .iastore, 1) :: (121, .aload_n 0, 1) :: []) (by decide +kernel)
theorem e_X8_finishes_66 : decode cX8_finishes 66 = .ok (.bipush 14, 2) := D_X8_finishes_1.1
theorem e_X8_finishes_68 : decode cX8_finishes 68 = .ok (.iaload, 1) := D_X8_finishes_1.2.1
theorem e_X8_finishes_69 : decode cX8_finishes 69 = .ok (.irem, 1) := D_X8_finishes_1.2.2.1
theorem e_X8_finishes_70 : decode cX8_finishes 70 = .ok (.ifCond .ne 15, 3) := D_X8_finishes_1.2.2.2.1
theorem e_X8_finishes_73 : decode cX8_finishes 73 = .ok (.aload_n 0, 1) := D_X8_finishes_1.2.2.2.2.1
theorem e_X8_finishes_74 : decode cX8_finishes 74 = .ok (.getfield 7, 3) := D_X8_finishes_1.2.2.2.2.2.1
theorem e_X8_finishes_77 : decode cX8_finishes 77 = .ok (.bipush 18, 2) := D_X8_finishes_1.2.2.2.2.2.2.1
theorem e_X8_finishes_79 : decode cX8_finishes 79 = .ok (.dup2, 1) := D_X8_finishes_1.2.2.2.2.2.2.2.1
theorem e_X8_finishes_80 : decode cX8_finishes 80 = .ok (.iaload, 1) := D_X8_finishes_1.2.2.2.2.2.2.2.2.1
theorem e_X8_finishes_81 : decode cX8_finishes 81 = .ok (.iconst 1, 1) := D_X8_finishes_1.2.2.2.2.2.2.2.2.2.1
theorem e_X8_finishes_82 : decode cX8_finishes 82 = .ok (.iadd, 1) := D_X8_finishes_1.2.2.2.2.2.2.2.2.2.2.1
theorem e_X8_finishes_83 : decode cX8_finishes 83 = .ok (.iastore, 1) := D_X8_finishes_1.2.2.2.2.2.2.2.2.2.2.2.1
theorem e_X8_finishes_84 : decode cX8_finishes 84 = .ok (.return_, 1) := D_X8_finishes_1.2.2.2.2.2.2.2.2.2.2.2.2.1
theorem e_X8_finishes_85 : decode cX8_finishes 85 = .ok (.aload_n 0, 1) := D_X8_finishes_1.2.2.2.2.2.2.2.2.2.2.2.2.2.1
theorem e_X8_finishes_86 : decode cX8_finishes 86 = .ok (.getfield 7, 3) := D_X8_finishes_1.2.2.2.2.2.2.2.2.2.2.2.2.2.2.1
theorem e_X8_finishes_89 : decode cX8_finishes 89 = .ok (.iconst 2, 1) := D_X8_finishes_1.2.2.2.2.2.2.2.2.2.2.2.2.2.2.2.1
theorem e_X8_finishes_90 : decode cX8_finishes 90 = .ok (.dup2, 1) := D_X8_finishes_1.2.2.2.2.2.2.2.2.2.2.2.2.2.2.2.2.1
theorem e_X8_finishes_91 : decode cX8_finishes 91 = .ok (.iaload, 1) := D_X8_finishes_1.2.2.2.2.2.2.2.2.2.2.2.2.2.2.2.2.2.1
theorem e_X8_finishes_92 : decode cX8_finishes 92 = .ok (.iconst 1, 1) := D_X8_finishes_1.2.2.2.2.2.2.2.2.2.2.2.2.2.2.2.2.2.2.1
theorem e_X8_finishes_93 : decode cX8_finishes 93 = .ok (.iadd, 1) := D_X8_finishes_1.2.2.2.2.2.2.2.2.2.2.2.2.2.2.2.2.2.2.2.1
theorem e_X8_finishes_94 : decode cX8_finishes 94 = .ok (.iastore, 1) := D_X8_finishes_1.2.2.2.2.2.2.2.2.2.2.2.2.2.2.2.2.2.2.2.2.1
theorem e_X8_finishes_95 : decode cX8_finishes 95 = .ok (.aload_n 0, 1) := D_X8_finishes_1.2.2.2.2.2.2.2.2.2.2.2.2.2.2.2.2.2.2.2.2.2.1
theorem e_X8_finishes_96 : decode cX8_finishes 96 = .ok (.getfield 7, 3) := D_X8_finishes_1.2.2.2.2.2.2.2.2.2.2.2.2.2.2.2.2.2.2.2.2.2.2.1
theorem e_X8_finishes_99 : decode cX8_finishes 99 = .ok (.bipush 17, 2) := D_X8_finishes_1.2.2.2.2.2.2.2.2.2.2.2.2.2.2.2.2.2.2.2.2.2.2.2.1
theorem e_X8_finishes_101 : decode cX8_finishes 101 = .ok (.dup2, 1) := D_X8_finishes_1.2.2.2.2.2.2.2.2.2.2.2.2.2.2.2.2.2.2.2.2.2.2.2.2.1
theorem e_X8_finishes_102 : decode cX8_finishes 102 = .ok (.iaload, 1) := D_X8_finishes_1.2.2.2.2.2.2.2.2.2.2.2.2.2.2.2.2.2.2.2.2.2.2.2.2.2.1
theorem e_X8_finishes_103 : decode cX8_finishes 103 = .ok (.iconst 1, 1) := D_X8_finishes_1.2.2.2.2.2.2.2.2.2.2.2.2.2.2.2.2.2.2.2.2.2.2.2.2.2.2.1
theorem e_X8_finishes_104 : decode cX8_finishes 104 = .ok (.iadd, 1) := D_X8_finishes_1.2.2.2.2.2.2.2.2.2.2.2.2.2.2.2.2.2.2.2.2.2.2.2.2.2.2.2.1
theorem e_X8_finishes_105 : decode cX8_finishes 105 = .ok (.iastore, 1) := D_X8_finishes_1.2.2.2.2.2.2.2.2.2.2.2.2.2.2.2.2.2.2.2.2.2.2.2.2.2.2.2.2.1
theorem e_X8_finishes_106 : decode cX8_finishes 106 = .ok (.aload_n 0, 1) := D_X8_finishes_1.2.2.2.2.2.2.2.2.2.2.2.2.2.2.2.2.2.2.2.2.2.2.2.2.2.2.2.2.2.1
theorem e_X8_finishes_107 : decode cX8_finishes 107 = .ok (.getfield 7, 3) := D_X8_finishes_1.2.2.2.2.2.2.2.2.2.2.2.2.2.2.2.2.2.2.2.2.2.2.2.2.2.2.2.2.2.2.1
theorem e_X8_finishes_110 : decode cX8_finishes 110 = .ok (.bipush 19, 2) := D_X8_finishes_1.2.2.2.2.2.2.2.2.2.2.2.2.2.2.2.2.2.2.2.2.2.2.2.2.2.2.2.2.2.2.2.1
theorem e_X8_finishes_112 : decode cX8_finishes 112 = .ok (.dup2, 1) := D_X8_finishes_1.2.2.2.2.2.2.2.2.2.2.2.2.2.2.2.2.2.2.2.2.2.2.2.2.2.2.2.2.2.2.2.2.1
theorem e_X8_finishes_113 : decode cX8_finishes 113 = .ok (.iaload, 1) := D_X8_finishes_1.2.2.2.2.2.2.2.2.2.2.2.2.2.2.2.2.2.2.2.2.2.2.2.2.2.2.2.2.2.2.2.2.2.1
theorem e_X8_finishes_114 : decode cX8_finishes 114 = .ok (.aload_n 0, 1) := D_X8_finishes_1.2.2.2.2.2.2.2.2.2.2.2.2.2.2.2.2.2.2.2.2.2.2.2.2.2.2.2.2.2.2.2.2.2.2.1
theorem e_X8_finishes_115 : decode cX8_finishes 115 = .ok (.iload_n 1, 1) := D_X8_finishes_1.2.2.2.2.2.2.2.2.2.2.2.2.2.2.2.2.2.2.2.2.2.2.2.2.2.2.2.2.2.2.2.2.2.2.2.1
theorem e_X8_finishes_116 : decode cX8_finishes 116 = .ok (.invokevirtual 131, 3) := D_X8_finishes_1.2.2.2.2.2.2.2.2.2.2.2.2.2.2.2.2.2.2.2.2.2.2.2.2.2.2.2.2.2.2.2.2.2.2.2.2.1
theorem e_X8_finishes_119 : decode cX8_finishes 119 = .ok (.iadd, 1) := D_X8_finishes_1.2.2.2.2.2.2.2.2.2.2.2.2.2.2.2.2.2.2.2.2.2.2.2.2.2.2.2.2.2.2.2.2.2.2.2.2.2.1
theorem e_X8_finishes_120 : decode cX8_finishes 120 = .ok (.iastore, 1) := D_X8_finishes_1.2.2.2.2.2.2.2.2.2.2.2.2.2.2.2.2.2.2.2.2.2.2.2.2.2.2.2.2.2.2.2.2.2.2.2.2.2.2.1
theorem e_X8_finishes_121 : decode cX8_finishes 121 = .ok (.aload_n 0, 1) := D_X8_finishes_1.2.2.2.2.2.2.2.2.2.2.2.2.2.2.2.2.2.2.2.2.2.2.2.2.2.2.2.2.2.2.2.2.2.2.2.2.2.2.2.1
set_option maxRecDepth 100000 in
theorem D_X8_finishes_2 : decode cX8_finishes 122 = .ok (.getfield 7, 3) ∧ decode cX8_finishes 125 = .ok (.iload_n 1, 1) ∧ decode cX8_finishes 126 = .ok (.invokestatic 60, 3) ∧ decode cX8_finishes 129 = .ok (.bipush 8, 2) ∧ decode cX8_finishes 131 = .ok (.iadd, 1) ∧ decode cX8_finishes 132 = .ok (.dup2, 1) ∧ decode cX8_finishes 133 = .ok (.iaload, 1) ∧ decode cX8_finishes 134 = .ok (.iconst 1, 1) ∧ decode cX8_finishes 135 = .ok (.iadd, 1) ∧ decode cX8_finishes 136 = .ok (.iastore, 1) ∧ decode cX8_finishes 137 = .ok (.aload_n 0, 1) ∧ decode cX8_finishes 138 = .ok (.iload_n 1, 1) ∧ decode cX8_finishes 139 = .ok (.invokevirtual 124, 3) ∧ decode cX8_finishes 142 = .ok (.return_, 1) ∧ True := dq_of (l := (122, .getfield 7, 3) :: (125, .iload_n 1, 1) :: (126, .invokestatic 60, 3) :: (129, .bipush 8, 2) :: (131, .iadd, 1) :: (132, .dup2, 1) :: (133, .iaload, 1) :: (134, .iconst 1, 1) :: (135, .iadd, 1) :: (136, .iastore, 1) :: (137, .aload_n 0, 1) :: (138, .iload_n 1, 1) :: (139, .invokevirtual 124, 3) :: (142, .return_, 1) :: []) (by decide +kernel)
theorem e_X8_finishes_122 : decode cX8_finishes 122 = .ok (.getfield 7, 3) := D_X8_finishes_2.1
theorem e_X8_finishes_125 : decode cX8_finishes 125 = .ok (.iload_n 1, 1) := D_X8_finishes_2.2.1
theorem e_X8_finishes_126 : decode cX8_finishes 126 = .ok (.invokestatic 60, 3) := D_X8_finishes_2.2.2.1
theorem e_X8_finishes_129 : decode cX8_finishes 129 = .ok (.bipush 8, 2) := D_X8_finishes_2.2.2.2.1
theorem e_X8_finishes_131 : decode cX8_finishes 131 = .ok (.iadd, 1) := D_X8_finishes_2.2.2.2.2.1
theorem e_X8_finishes_132 : decode cX8_finishes 132 = .ok (.dup2, 1) := D_X8_finishes_2.2.2.2.2.2.1
theorem e_X8_finishes_133 : decode cX8_finishes 133 = .ok (.iaload, 1) := D_X8_finishes_2.2.2.2.2.2.2.1
theorem e_X8_finishes_134 : decode cX8_finishes 134 = .ok (.iconst 1, 1) := D_X8_finishes_2.2.2.2.2.2.2.2.1
theorem e_X8_finishes_135 : decode cX8_finishes 135 = .ok (.iadd, 1) := D_X8_finishes_2.2.2.2.2.2.2.2.2.1
theorem e_X8_finishes_136 : decode cX8_finishes 136 = .ok (.iastore, 1) := D_X8_finishes_2.2.2.2.2.2.2.2.2.2.1
theorem e_X8_finishes_137 : decode cX8_finishes 137 = .ok (.aload_n 0, 1) := D_X8_finishes_2.2.2.2.2.2.2.2.2.2.2.1
theorem e_X8_finishes_138 : decode cX8_finishes 138 = .ok (.iload_n 1, 1) := D_X8_finishes_2.2.2.2.2.2.2.2.2.2.2.2.1
theorem e_X8_finishes_139 : decode cX8_finishes 139 = .ok (.invokevirtual 124, 3) := D_X8_finishes_2.2.2.2.2.2.2.2.2.2.2.2.2.1
theorem e_X8_finishes_142 : decode cX8_finishes 142 = .ok (.return_, 1) := D_X8_finishes_2.2.2.2.2.2.2.2.2.2.2.2.2.2.1
set_option maxRecDepth 100000 in
theorem D_X8_goesBy_0 : decode cX8_goesBy 0 = .ok (.iload_n 1, 1) ∧ decode cX8_goesBy 1 = .ok (.ifCond .gt 13, 3) ∧ decode cX8_goesBy 4 = .ok (.aload_n 0, 1) ∧ decode cX8_goesBy 5 = .ok (.getfield 7, 3) ∧ decode cX8_goesBy 8 = .ok (.iconst 4, 1) ∧ decode cX8_goesBy 9 = .ok (.iaload, 1) ∧ decode cX8_goesBy 10 = .ok (.iload_n 2, 1) ∧ decode cX8_goesBy 11 = .ok (.if_icmp .le 7, 3) ∧ decode cX8_goesBy 14 = .ok (.iload_n 2, 1) ∧ decode cX8_goesBy 15 = .ok (.goto 9, 3) ∧ decode cX8_goesBy 18 = .ok (.aload_n 0, 1) ∧ decode cX8_goesBy 19 = .ok (.getfield 7, 3) ∧ decode cX8_goesBy 22 = .ok (.iconst 4, 1) ∧ decode cX8_goesBy 23 = .ok (.iaload, 1) ∧ decode cX8_goesBy 24 = .ok (.istore_n 3, 1) ∧ decode cX8_goesBy 25 = .ok (.aload_n 0, 1) ∧ decode cX8_goesBy 26 = .ok (.getfield 7, 3) ∧ decode cX8_goesBy 29 = .ok (.bipush 24, 2) ∧ decode cX8_goesBy 31 = .ok (.dup2, 1) ∧ decode cX8_goesBy 32 = .ok (.iaload, 1) ∧ decode cX8_goesBy 33 = .ok (.iload_n 3, 1) ∧ decode cX8_goesBy 34 = .ok (.iadd, 1) ∧ decode cX8_goesBy 35 = .ok (.iastore, 1) ∧ decode cX8_goesBy 36 = .ok (.iload_n 1, 1) ∧ decode cX8_goesBy 37 = .ok (.ifCond .le 16, 3) ∧ decode cX8_goesBy 40 = .ok (.aload_n 0, 1) ∧ decode cX8_goesBy 41 = .ok (.getfield 7, 3) ∧ decode cX8_goesBy 44 = .ok (.bipush 23, 2) ∧ decode cX8_goesBy 46 = .ok (.dup2, 1) ∧ decode cX8_goesBy 47 = .ok (.iaload, 1) ∧ decode cX8_goesBy 48 = .ok (.iload_n 3, 1) ∧ decode cX8_goesBy 49 = .ok (.iadd, 1) ∧ decode cX8_goesBy 50 = .ok (.iastore, 1) ∧ decode cX8_goesBy 51 = .ok (.iload_n 3, 1) ∧ decode cX8_goesBy 52 = .ok (.ireturn, 1) ∧ decode cX8_goesBy 53 = .ok (.aload_n 0, 1) ∧ decode cX8_goesBy 54 = .ok (.getfield 7, 3) ∧ decode cX8_goesBy 57 = .ok (.iconst 4, 1) ∧ decode cX8_goesBy 58 = .ok (.dup2, 1) ∧ decode cX8_goesBy 59 = .ok (.iaload, 1) ∧ True := dq_of (l := (0, .iload_n 1, 1) :: (1, .ifCond .gt 13, 3) :: (4, .aload_n 0, 1) :: (5, .getfield 7, 3) :: (8, .iconst 4, 1) :: (9, .iaload, 1) :: (10, .iload_n 2, 1) :: (11, .if_icmp .le 7, 3) :: (14, .iload_n 2, 1) :: (15, .goto 9, 3) :: (18, .aload_n 0, 1) :: (19, .getfield 7, 3) :: (22, .iconst 4, 1) :: (23, .iaload, 1) :: (24, .istore_n 3, 1) :: (25, .aload_n 0, 1) :: (26, .getfield 7, 3) :: (29, .bipush 24, 2) :: (31, .dup2, 1) :: (32, .iaload, 1) :: (33, .iload_n 3, 1) :: (34, .iadd, 1) :: (35, .iastore, 1) :: (36, .iload_n 1, 1) :: (37, .ifCond .le 16, 3) :: (40, .aload_n 0, 1) :: (41, .getfield 7, 3) :: (44, .bipush 23, 2) :: (46, .dup2, 1) :: (47, .iaload, 1) :: (48, .iload_n 3, 1) :: (49, .iadd, 1) :: (50, .iastore, 1) :: (51, .iload_n 3, 1) :: (52, .ireturn, 1) :: (53, .aload_n 0, 1) :: (54, .getfield 7, 3) :: (57, .iconst 4, 1) :: (58, .dup2, 1) :: (59, .iaload, 1) :: []) (by decide +kernel)
theorem e_X8_goesBy_0 : decode cX8_goesBy 0 = .ok (.iload_n 1, 1) := D_X8_goesBy_0.1
theorem e_X8_goesBy_1 : decode cX8_goesBy 1 = .ok (.ifCond .gt 13, 3) := D_X8_goesBy_0.2.1
theorem e_X8_goesBy_4 : decode cX8_goesBy 4 = .ok (.aload_n 0, 1) := D_X8_goesBy_0.2.2.1
theorem e_X8_goesBy_5 : decode cX8_goesBy 5 = .ok (.getfield 7, 3) := D_X8_goesBy_0.2.2.2.1
theorem e_X8_goesBy_8 : decode cX8_goesBy 8 = .ok (.iconst 4, 1) := D_X8_goesBy_0.2.2.2.2.1
theorem e_X8_goesBy_9 : decode cX8_goesBy 9 = .ok (.iaload, 1) := D_X8_goesBy_0.2.2.2.2.2.1
theorem e_X8_goesBy_10 : decode cX8_goesBy 10 = .ok (.iload_n 2, 1) := D_X8_goesBy_0.2.2.2.2.2.2.1
theorem e_X8_goesBy_11 : decode cX8_goesBy 11 = .ok (.if_icmp .le 7, 3) := D_X8_goesBy_0.2.2.2.2.2.2.2.1
theorem e_X8_goesBy_14 : decode cX8_goesBy 14 = .ok (.iload_n 2, 1) := D_X8_goesBy_0.2.2.2.2.2.2.2.2.1
theorem e_X8_goesBy_15 : decode cX8_goesBy 15 = .ok (.goto 9, 3) := D_X8_goesBy_0.2.2.2.2.2.2.2.2.2.1
theorem e_X8_goesBy_18 : decode cX8_goesBy 18 = .ok (.aload_n 0, 1) := D_X8_goesBy_0.2.2.2.2.2.2.2.2.2.2.1
theorem e_X8_goesBy_19 : decode cX8_goesBy 19 = .ok (.getfield 7, 3) := D_X8_goesBy_0.2.2.2.2.2.2.2.2.2.2.2.1
theorem e_X8_goesBy_22 : decode cX8_goesBy 22 = .ok (.iconst 4, 1) := D_X8_goesBy_0.2.2.2.2.2.2.2.2.2.2.2.2.1
theorem e_X8_goesBy_23 : decode cX8_goesBy 23 = .ok (.iaload, 1) := D_X8_goesBy_0.2.2.2.2.2.2.2.2.2.2.2.2.2.1
theorem e_X8_goesBy_24 : decode cX8_goesBy 24 = .ok (.istore_n 3, 1) := D_X8_goesBy_0.2.2.2.2.2.2.2.2.2.2.2.2.2.2.1
theorem e_X8_goesBy_25 : decode cX8_goesBy 25 = .ok (.aload_n 0, 1) := D_X8_goesBy_0.2.2.2.2.2.2.2.2.2.2.2.2.2.2.2.1
theorem e_X8_goesBy_26 : decode cX8_goesBy 26 = .ok (.getfield 7, 3) := D_X8_goesBy_0.2.2.2.2.2.2.2.2.2.2.2.2.2.2.2.2.1
theorem e_X8_goesBy_29 : decode cX8_goesBy 29 = .ok (.bipush 24, 2) := D_X8_goesBy_0.2.2.2.2.2.2.2.2.2.2.2.2.2.2.2.2.2.1
theorem e_X8_goesBy_31 : decode cX8_goesBy 31 = .ok (.dup2, 1) := D_X8_goesBy_0.2.2.2.2.2.2.2.2.2.2.2.2.2.2.2.2.2.2.1
theorem e_X8_goesBy_32 : decode cX8_goesBy 32 = .ok (.iaload, 1) := D_X8_goesBy_0.2.2.2.2.2.2.2.2.2.2.2.2.2.2.2.2.2.2.2.1
theorem e_X8_goesBy_33 : decode cX8_goesBy 33 = .ok (.iload_n 3, 1) := D_X8_goesBy_0.2.2.2.2.2.2.2.2.2.2.2.2.2.2.2.2.2.2.2.2.1
theorem e_X8_goesBy_34 : decode cX8_goesBy 34 = .ok (.iadd, 1) := D_X8_goesBy_0.2.2.2.2.2.2.2.2.2.2.2.2.2.2.2.2.2.2.2.2.2.1
theorem e_X8_goesBy_35 : decode cX8_goesBy 35 = .ok (.iastore, 1) := D_X8_goesBy_0.2.2.2.2.2.2.2.2.2.2.2.2.2.2.2.2.2.2.2.2.2.2.1
theorem e_X8_goesBy_36 : decode cX8_goesBy 36 = .ok (.iload_n 1, 1) := D_X8_goesBy_0.2.2.2.2.2.2.2.2.2.2.2.2.2.2.2.2.2.2.2.2.2.2.2.1
theorem e_X8_goesBy_37 : decode cX8_goesBy 37 = .ok (.ifCond .le 16, 3) := D_X8_goesBy_0.2.2.2.2.2.2.2.2.2.2.2.2.2.2.2.2.2.2.2.2.2.2.2.2.1
theorem e_X8_goesBy_40 : decode cX8_goesBy 40 = .ok (.aload_n 0, 1) := D_X8_goesBy_0.2.2.2.2.2.2.2.2.2.2.2.2.2.2.2.2.2.2.2.2.2.2.2.2.2.1
theorem e_X8_goesBy_41 : decode cX8_goesBy 41 = .ok (.getfield 7, 3) := D_X8_goesBy_0.2.2.2.2.2.2.2.2.2.2.2.2.2.2.2.2.2.2.2.2.2.2.2.2.2.2.1
theorem e_X8_goesBy_44 : decode cX8_goesBy 44 = .ok (.bipush 23, 2) := D_X8_goesBy_0.2.2.2.2.2.2.2.2.2.2.2.2.2.2.2.2.2.2.2.2.2.2.2.2.2.2.2.1
theorem e_X8_goesBy_46 : decode cX8_goesBy 46 = .ok (.dup2, 1) := D_X8_goesBy_0.2.2.2.2.2.2.2.2.2.2.2.2.2.2.2.2.2.2.2.2.2.2.2.2.2.2.2.2.1
theorem e_X8_goesBy_47 : decode cX8_goesBy 47 = .ok (.iaload, 1) := D_X8_goesBy_0.2.2.2.2.2.2.2.2.2.2.2.2.2.2.2.2.2.2.2.2.2.2.2.2.2.2.2.2.2.1
theorem e_X8_goesBy_48 : decode cX8_goesBy 48 = .ok (.iload_n 3, 1) := D_X8_goesBy_0.2.2.2.2.2.2.2.2.2.2.2.2.2.2.2.2.2.2.2.2.2.2.2.2.2.2.2.2.2.2.1
theorem e_X8_goesBy_49 : decode cX8_goesBy 49 = .ok (.iadd, 1) := D_X8_goesBy_0.2.2.2.2.2.2.2.2.2.2.2.2.2.2.2.2.2.2.2.2.2.2.2.2.2.2.2.2.2.2.2.1
theorem e_X8_goesBy_50 : decode cX8_goesBy 50 = .ok (.iastore, 1) := D_X8_goesBy_0.2.2.2.2.2.2.2.2.2.2.2.2.2.2.2.2.2.2.2.2.2.2.2.2.2.2.2.2.2.2.2.2.1
theorem e_X8_goesBy_51 : decode cX8_goesBy 51 = .ok (.iload_n 3, 1) := D_X8_goesBy_0.2.2.2.2.2.2.2.2.2.2.2.2.2.2.2.2.2.2.2.2.2.2.2.2.2.2.2.2.2.2.2.2.2.1
theorem e_X8_goesBy_52 : decode cX8_goesBy 52 = .ok (.ireturn, 1) := D_X8_goesBy_0.2.2.2.2.2.2.2.2.2.2.2.2.2.2.2.2.2.2.2.2.2.2.2.2.2.2.2.2.2.2.2.2.2.2.1
theorem e_X8_goesBy_53 : decode cX8_goesBy 53 = .ok (.aload_n 0, 1) := D_X8_goesBy_0.2.2.2.2.2.2.2.2.2.2.2.2.2.2.2.2.2.2.2.2.2.2.2.2.2.2.2.2.2.2.2.2.2.2.2.1
theorem e_X8_goesBy_54 : decode cX8_goesBy 54 = .ok (.getfield 7, 3) := D_X8_goesBy_0.2.2.2.2.2.2.2.2.2.2.2.2.2.2.2.2.2.2.2.2.2.2.2.2.2.2.2.2.2.2.2.2.2.2.2.2.1
theorem e_X8_goesBy_57 : decode cX8_goesBy 57 = .ok (.iconst 4, 1) := D_X8_goesBy_0.2.2.2.2.2.2.2.2.2.2.2.2.2.2.2.2.2.2.2.2.2.2.2.2.2.2.2.2.2.2.2.2.2.2.2.2.2.1
theorem e_X8_goesBy_58 : decode cX8_goesBy 58 = .ok (.dup2, 1) := D_X8_goesBy_0.2.2.2.2.2.2.2.2.2.2.2.2.2.2.2.2.2.2.2.2.2.2.2.2.2.2.2.2.2.2.2.2.2.2.2.2.2.2.1
theorem e_X8_goesBy_59 : decode cX8_goesBy 59 = .ok (.iaload, 1) := D_X8_goesBy_0.2.2.2.2.2.2.2.2.2.2.2.2.2.2.2.2.2.2.2.2.2.2.2.2.2.2.2.2.2.2.2.2.2.2.2.2.2.2.2.1
set_option maxRecDepth 100000 in
theorem D_X8_goesBy_1 : decode cX8_goesBy 60 = .ok (.iload_n 3, 1) ∧ decode cX8_goesBy 61 = .ok (.isub, 1) ∧ decode cX8_goesBy 62 = .ok (.iastore, 1) ∧ decode cX8_goesBy 63 = .ok (.aload_n 0, 1) ∧ decode cX8_goesBy 64 = .ok (.getfield 7, 3) ∧ decode cX8_goesBy 67 = .ok (.iconst 4, 1) ∧ decode cX8_goesBy 68 = .ok (.iaload, 1) ∧ decode cX8_goesBy 69 = .ok (.ifCond .ne 7, 3) ∧ decode cX8_goesBy 72 = .ok (.aload_n 0, 1) ∧ decode cX8_goesBy 73 = .ok (.invokevirtual 147, 3) ∧ decode cX8_goesBy 76 = .ok (.iload_n 3, 1) ∧ decode cX8_goesBy 77 = .ok (.ireturn, 1) ∧ True := dq_of (l := (60, .iload_n 3, 1) :: (61, .isub, 1) :: (62, .iastore, 1) :: (63, .aload_n 0, 1) :: (64, .getfield 7, 3) :: (67, .iconst 4, 1) :: (68, .iaload, 1) :: (69, .ifCond .ne 7, 3) :: (72, .aload_n 0, 1) :: (73, .invokevirtual 147, 3) :: (76, .iload_n 3, 1) :: (77, .ireturn, 1) :: []) (by decide +kernel)
theorem e_X8_goesBy_60 : decode cX8_goesBy 60 = .ok (.iload_n 3, 1) := D_X8_goesBy_1.1
theorem e_X8_goesBy_61 : decode cX8_goesBy 61 = .ok (.isub, 1) := D_X8_goesBy_1.2.1
theorem e_X8_goesBy_62 : decode cX8_goesBy 62 = .ok (.iastore, 1) := D_X8_goesBy_1.2.2.1
theorem e_X8_goesBy_63 : decode cX8_goesBy 63 = .ok (.aload_n 0, 1) := D_X8_goesBy_1.2.2.2.1
theorem e_X8_goesBy_64 : decode cX8_goesBy 64 = .ok (.getfield 7, 3) := D_X8_goesBy_1.2.2.2.2.1
theorem e_X8_goesBy_67 : decode cX8_goesBy 67 = .ok (.iconst 4, 1) := D_X8_goesBy_1.2.2.2.2.2.1
theorem e_X8_goesBy_68 : decode cX8_goesBy 68 = .ok (.iaload, 1) := D_X8_goesBy_1.2.2.2.2.2.2.1
theorem e_X8_goesBy_69 : decode cX8_goesBy 69 = .ok (.ifCond .ne 7, 3) := D_X8_goesBy_1.2.2.2.2.2.2.2.1
theorem e_X8_goesBy_72 : decode cX8_goesBy 72 = .ok (.aload_n 0, 1) := D_X8_goesBy_1.2.2.2.2.2.2.2.2.1
theorem e_X8_goesBy_73 : decode cX8_goesBy 73 = .ok (.invokevirtual 147, 3) := D_X8_goesBy_1.2.2.2.2.2.2.2.2.2.1
theorem e_X8_goesBy_76 : decode cX8_goesBy 76 = .ok (.iload_n 3, 1) := D_X8_goesBy_1.2.2.2.2.2.2.2.2.2.2.1
theorem e_X8_goesBy_77 : decode cX8_goesBy 77 = .ok (.ireturn, 1) := D_X8_goesBy_1.2.2.2.2.2.2.2.2.2.2.2.1
set_option maxRecDepth 100000 in
theorem D_X8_run_0 : decode cX8_run 0 = .ok (.iload_n 1, 1) ∧ decode cX8_run 1 = .ok (.iconst 1, 1) ∧ decode cX8_run 2 = .ok (.sipush 5000, 3) ∧ decode cX8_run 5 = .ok (.invokestatic 32, 3) ∧ decode cX8_run 8 = .ok (.ifCond .ne 5, 3) ∧ decode cX8_run 11 = .ok (.iconst (-1), 1) ∧ decode cX8_run 12 = .ok (.ireturn, 1) ∧ decode cX8_run 13 = .ok (.aload_n 0, 1) ∧ decode cX8_run 14 = .ok (.getfield 7, 3) ∧ decode cX8_run 17 = .ok (.bipush 24, 2) ∧ decode cX8_run 19 = .ok (.iaload, 1) ∧ decode cX8_run 20 = .ok (.iload_n 1, 1) ∧ decode cX8_run 21 = .ok (.iadd, 1) ∧ decode cX8_run 22 = .ok (.ldc 150, 2) ∧ decode cX8_run 24 = .ok (.if_icmp .le 6, 3) ∧ decode cX8_run 27 = .ok (.bipush (-3), 2) ∧ decode cX8_run 29 = .ok (.ireturn, 1) ∧ decode cX8_run 30 = .ok (.aload_n 0, 1) ∧ decode cX8_run 31 = .ok (.invokevirtual 40, 3) ∧ decode cX8_run 34 = .ok (.aload_n 0, 1) ∧ decode cX8_run 35 = .ok (.getfield 7, 3) ∧ decode cX8_run 38 = .ok (.bipush 17, 2) ∧ decode cX8_run 40 = .ok (.iaload, 1) ∧ decode cX8_run 41 = .ok (.istore_n 2, 1) ∧ decode cX8_run 42 = .ok (.iload_n 1, 1) ∧ decode cX8_run 43 = .ok (.istore_n 3, 1) ∧ decode cX8_run 44 = .ok (.iload_n 3, 1) ∧ decode cX8_run 45 = .ok (.ifCond .le 31, 3) ∧ decode cX8_run 48 = .ok (.iload_n 3, 1) ∧ decode cX8_run 49 = .ok (.aload_n 0, 1) ∧ decode cX8_run 50 = .ok (.aload_n 0, 1) ∧ decode cX8_run 51 = .ok (.getfield 7, 3) ∧ decode cX8_run 54 = .ok (.iconst 5, 1) ∧ decode cX8_run 55 = .ok (.iaload, 1) ∧ decode cX8_run 56 = .ok (.ifCond .ne 10, 3) ∧ decode cX8_run 59 = .ok (.aload_n 0, 1) ∧ decode cX8_run 60 = .ok (.invokevirtual 151, 3) ∧ decode cX8_run 63 = .ok (.goto 4, 3) ∧ decode cX8_run 66 = .ok (.iconst 0, 1) ∧ decode cX8_run 67 = .ok (.iload_n 3, 1) ∧ True := dq_of (l := (0, .iload_n 1, 1) :: (1, .iconst 1, 1) :: (2, .sipush 5000, 3) :: (5, .invokestatic 32, 3) :: (8, .ifCond .ne 5, 3) :: (11, .iconst (-1), 1) :: (12, .ireturn, 1) :: (13, .aload_n 0, 1) :: (14, .getfield 7, 3) :: (17, .bipush 24, 2) :: (19, .iaload, 1) :: (20, .iload_n 1, 1) :: (21, .iadd, 1) :: (22, .ldc 150, 2) :: (24, .if_icmp .le 6, 3) :: (27, .bipush (-3), 2) :: (29, .ireturn, 1) :: (30, .aload_n 0, 1) :: (31, .invokevirtual 40, 3) :: (34, .aload_n 0, 1) :: (35, .getfield 7, 3) :: (38, .bipush 17, 2) :: (40, .iaload, 1) :: (41, .istore_n 2, 1) :: (42, .iload_n 1, 1) :: (43, .istore_n 3, 1) :: (44, .iload_n 3, 1) :: (45, .ifCond .le 31, 3) :: (48, .iload_n 3, 1) :: (49, .aload_n 0, 1) :: (50, .aload_n 0, 1) :: (51, .getfield 7, 3) :: (54, .iconst 5, 1) :: (55, .iaload, 1) :: (56, .ifCond .ne 10, 3) :: (59, .aload_n 0, 1) :: (60, .invokevirtual 151, 3) :: (63, .goto 4, 3) :: (66, .iconst 0, 1) :: (67, .iload_n 3, 1) :: []) (by decide +kernel)
theorem e_X8_run_0 : decode cX8_run 0 = .ok (.iload_n 1, 1) := D_X8_run_0.1
theorem e_X8_run_1 : decode cX8_run 1 = .ok (.iconst 1, 1) := D_X8_run_0.2.1
theorem e_X8_run_2 : decode cX8_run 2 = .ok (.sipush 5000, 3) := D_X8_run_0.2.2.1
theorem e_X8_run_5 : decode cX8_run 5 = .ok (.invokestatic 32, 3) := D_X8_run_0.2.2.2.1
theorem e_X8_run_8 : decode cX8_run 8 = .ok (.ifCond .ne 5, 3) := D_X8_run_0.2.2.2.2.1
theorem e_X8_run_11 : decode cX8_run 11 = .ok (.iconst (-1), 1) := D_X8_run_0.2.2.2.2.2.1
theorem e_X8_run_12 : decode cX8_run 12 = .ok (.ireturn, 1) := D_X8_run_0.2.2.2.2.2.2.1
theorem e_X8_run_13 : decode cX8_run 13 = .ok (.aload_n 0, 1) := D_X8_run_0.2.2.2.2.2.2.2.1
theorem e_X8_run_14 : decode cX8_run 14 = .ok (.getfield 7, 3) := D_X8_run_0.2.2.2.2.2.2.2.2.1
theorem e_X8_run_17 : decode cX8_run 17 = .ok (.bipush 24, 2) := D_X8_run_0.2.2.2.2.2.2.2.2.2.1
theorem e_X8_run_19 : decode cX8_run 19 = .ok (.iaload, 1) := D_X8_run_0.2.2.2.2.2.2.2.2.2.2.1
theorem e_X8_run_20 : decode cX8_run 20 = .ok (.iload_n 1, 1) := D_X8_run_0.2.2.2.2.2.2.2.2.2.2.2.1
theorem e_X8_run_21 : decode cX8_run 21 = .ok (.iadd, 1) := D_X8_run_0.2.2.2.2.2.2.2.2.2.2.2.2.1
theorem e_X8_run_22 : decode cX8_run 22 = .ok (.ldc 150, 2) := D_X8_run_0.2.2.2.2.2.2.2.2.2.2.2.2.2.1
theorem e_X8_run_24 : decode cX8_run 24 = .ok (.if_icmp .le 6, 3) := D_X8_run_0.2.2.2.2.2.2.2.2.2.2.2.2.2.2.1
theorem e_X8_run_27 : decode cX8_run 27 = .ok (.bipush (-3), 2) := D_X8_run_0.2.2.2.2.2.2.2.2.2.2.2.2.2.2.2.1
theorem e_X8_run_29 : decode cX8_run 29 = .ok (.ireturn, 1) := D_X8_run_0.2.2.2.2.2.2.2.2.2.2.2.2.2.2.2.2.1
theorem e_X8_run_30 : decode cX8_run 30 = .ok (.aload_n 0, 1) := D_X8_run_0.2.2.2.2.2.2.2.2.2.2.2.2.2.2.2.2.2.1
theorem e_X8_run_31 : decode cX8_run 31 = .ok (.invokevirtual 40, 3) := D_X8_run_0.2.2.2.2.2.2.2.2.2.2.2.2.2.2.2.2.2.2.1
theorem e_X8_run_34 : decode cX8_run 34 = .ok (.aload_n 0, 1) := D_X8_run_0.2.2.2.2.2.2.2.2.2.2.2.2.2.2.2.2.2.2.2.1
theorem e_X8_run_35 : decode cX8_run 35 = .ok (.getfield 7, 3) := D_X8_run_0.2.2.2.2.2.2.2.2.2.2.2.2.2.2.2.2.2.2.2.2.1
theorem e_X8_run_38 : decode cX8_run 38 = .ok (.bipush 17, 2) := D_X8_run_0.2.2.2.2.2.2.2.2.2.2.2.2.2.2.2.2.2.2.2.2.2.1
theorem e_X8_run_40 : decode cX8_run 40 = .ok (.iaload, 1) := D_X8_run_0.2.2.2.2.2.2.2.2.2.2.2.2.2.2.2.2.2.2.2.2.2.2.1
theorem e_X8_run_41 : decode cX8_run 41 = .ok (.istore_n 2, 1) := D_X8_run_0.2.2.2.2.2.2.2.2.2.2.2.2.2.2.2.2.2.2.2.2.2.2.2.1
theorem e_X8_run_42 : decode cX8_run 42 = .ok (.iload_n 1, 1) := D_X8_run_0.2.2.2.2.2.2.2.2.2.2.2.2.2.2.2.2.2.2.2.2.2.2.2.2.1
theorem e_X8_run_43 : decode cX8_run 43 = .ok (.istore_n 3, 1) := D_X8_run_0.2.2.2.2.2.2.2.2.2.2.2.2.2.2.2.2.2.2.2.2.2.2.2.2.2.1
theorem e_X8_run_44 : decode cX8_run 44 = .ok (.iload_n 3, 1) := D_X8_run_0.2.2.2.2.2.2.2.2.2.2.2.2.2.2.2.2.2.2.2.2.2.2.2.2.2.2.1
theorem e_X8_run_45 : decode cX8_run 45 = .ok (.ifCond .le 31, 3) := D_X8_run_0.2.2.2.2.2.2.2.2.2.2.2.2.2.2.2.2.2.2.2.2.2.2.2.2.2.2.2.1
theorem e_X8_run_48 : decode cX8_run 48 = .ok (.iload_n 3, 1) := D_X8_run_0.2.2.2.2.2.2.2.2.2.2.2.2.2.2.2.2.2.2.2.2.2.2.2.2.2.2.2.2.1
theorem e_X8_run_49 : decode cX8_run 49 = .ok (.aload_n 0, 1) := D_X8_run_0.2.2.2.2.2.2.2.2.2.2.2.2.2.2.2.2.2.2.2.2.2.2.2.2.2.2.2.2.2.1
theorem e_X8_run_50 : decode cX8_run 50 = .ok (.aload_n 0, 1) := D_X8_run_0.2.2.2.2.2.2.2.2.2.2.2.2.2.2.2.2.2.2.2.2.2.2.2.2.2.2.2.2.2.2.1
theorem e_X8_run_51 : decode cX8_run 51 = .ok (.getfield 7, 3) := D_X8_run_0.2.2.2.2.2.2.2.2.2.2.2.2.2.2.2.2.2.2.2.2.2.2.2.2.2.2.2.2.2.2.2.1
theorem e_X8_run_54 : decode cX8_run 54 = .ok (.iconst 5, 1) := D_X8_run_0.2.2.2.2.2.2.2.2.2.2.2.2.2.2.2.2.2.2.2.2.2.2.2.2.2.2.2.2.2.2.2.2.1
theorem e_X8_run_55 : decode cX8_run 55 = .ok (.iaload, 1) := D_X8_run_0.2.2.2.2.2.2.2.2.2.2.2.2.2.2.2.2.2.2.2.2.2.2.2.2.2.2.2.2.2.2.2.2.2.1
theorem e_X8_run_56 : decode cX8_run 56 = .ok (.ifCond .ne 10, 3) := D_X8_run_0.2.2.2.2.2.2.2.2.2.2.2.2.2.2.2.2.2.2.2.2.2.2.2.2.2.2.2.2.2.2.2.2.2.2.1
theorem e_X8_run_59 : decode cX8_run 59 = .ok (.aload_n 0, 1) := D_X8_run_0.2.2.2.2.2.2.2.2.2.2.2.2.2.2.2.2.2.2.2.2.2.2.2.2.2.2.2.2.2.2.2.2.2.2.2.1
theorem e_X8_run_60 : decode cX8_run 60 = .ok (.invokevirtual 151, 3) := D_X8_run_0.2.2.2.2.2.2.2.2.2.2.2.2.2.2.2.2.2.2.2.2.2.2.2.2.2.2.2.2.2.2.2.2.2.2.2.2.1
theorem e_X8_run_63 : decode cX8_run 63 = .ok (.goto 4, 3) := D_X8_run_0.2.2.2.2.2.2.2.2.2.2.2.2.2.2.2.2.2.2.2.2.2.2.2.2.2.2.2.2.2.2.2.2.2.2.2.2.2.1
theorem e_X8_run_66 : decode cX8_run 66 = .ok (.iconst 0, 1) := D_X8_run_0.2.2.2.2.2.2.2.2.2.2.2.2.2.2.2.2.2.2.2.2.2.2.2.2.2.2.2.2.2.2.2.2.2.2.2.2.2.2.1
theorem e_X8_run_67 : decode cX8_run 67 = .ok (.iload_n 3, 1) := D_X8_run_0.2.2.2.2.2.2.2.2.2.2.2.2.2.2.2.2.2.2.2.2.2.2.2.2.2.2.2.2.2.2.2.2.2.2.2.2.2.2.2.1
set_option maxRecDepth 100000 in
theorem D_X8_run_1 : decode cX8_run 68 = .ok (.invokevirtual 154, 3) ∧ decode cX8_run 71 = .ok (.isub, 1) ∧ decode cX8_run 72 = .ok (.istore_n 3, 1) ∧ decode cX8_run 73 = .ok (.goto (-29), 3) ∧ decode cX8_run 76 = .ok (.aload_n 0, 1) ∧ decode cX8_run 77 = .ok (.getfield 7, 3) ∧ decode cX8_run 80 = .ok (.bipush 17, 2) ∧ decode cX8_run 82 = .ok (.iaload, 1) ∧ decode cX8_run 83 = .ok (.iload_n 2, 1) ∧ decode cX8_run 84 = .ok (.isub, 1) ∧ decode cX8_run 85 = .ok (.ireturn, 1) ∧ True := dq_of (l := (68, .invokevirtual 154, 3) :: (71, .isub, 1) :: (72, .istore_n 3, 1) :: (73, .goto (-29), 3) :: (76, .aload_n 0, 1) :: (77, .getfield 7, 3) :: (80, .bipush 17, 2) :: (82, .iaload, 1) :: (83, .iload_n 2, 1) :: (84, .isub, 1) :: (85, .ireturn, 1) :: []) (by decide +kernel)
theorem e_X8_run_68 : decode cX8_run 68 = .ok (.invokevirtual 154, 3) := D_X8_run_1.1
theorem e_X8_run_71 : decode cX8_run 71 = .ok (.isub, 1) := D_X8_run_1.2.1
theorem e_X8_run_72 : decode cX8_run 72 = .ok (.istore_n 3, 1) := D_X8_run_1.2.2.1
theorem e_X8_run_73 : decode cX8_run 73 = .ok (.goto (-29), 3) := D_X8_run_1.2.2.2.1
theorem e_X8_run_76 : decode cX8_run 76 = .ok (.aload_n 0, 1) := D_X8_run_1.2.2.2.2.1
theorem e_X8_run_77 : decode cX8_run 77 = .ok (.getfield 7, 3) := D_X8_run_1.2.2.2.2.2.1
theorem e_X8_run_80 : decode cX8_run 80 = .ok (.bipush 17, 2) := D_X8_run_1.2.2.2.2.2.2.1
theorem e_X8_run_82 : decode cX8_run 82 = .ok (.iaload, 1) := D_X8_run_1.2.2.2.2.2.2.2.1
theorem e_X8_run_83 : decode cX8_run 83 = .ok (.iload_n 2, 1) := D_X8_run_1.2.2.2.2.2.2.2.2.1
theorem e_X8_run_84 : decode cX8_run 84 = .ok (.isub, 1) := D_X8_run_1.2.2.2.2.2.2.2.2.2.1
theorem e_X8_run_85 : decode cX8_run 85 = .ok (.ireturn, 1) := D_X8_run_1.2.2.2.2.2.2.2.2.2.2.1
set_option maxRecDepth 100000 in
theorem D_X8_keeps_0 : decode cX8_keeps 0 = .ok (.iconst 0, 1) ∧ decode cX8_keeps 1 = .ok (.istore_n 1, 1) ∧ decode cX8_keeps 2 = .ok (.iload_n 1, 1) ∧ decode cX8_keeps 3 = .ok (.sipush 185, 3) ∧ decode cX8_keeps 6 = .ok (.if_icmp .ge 21, 3) ∧ decode cX8_keeps 9 = .ok (.aload_n 0, 1) ∧ decode cX8_keeps 10 = .ok (.getfield 16, 3) ∧ decode cX8_keeps 13 = .ok (.iload_n 1, 1) ∧ decode cX8_keeps 14 = .ok (.aload_n 0, 1) ∧ decode cX8_keeps 15 = .ok (.getfield 7, 3) ∧ decode cX8_keeps 18 = .ok (.iload_n 1, 1) ∧ decode cX8_keeps 19 = .ok (.iaload, 1) ∧ decode cX8_keeps 20 = .ok (.iastore, 1) ∧ decode cX8_keeps 21 = .ok (.iinc 1 1, 3) ∧ decode cX8_keeps 24 = .ok (.goto (-22), 3) ∧ decode cX8_keeps 27 = .ok (.return_, 1) ∧ True := dq_of (l := (0, .iconst 0, 1) :: (1, .istore_n 1, 1) :: (2, .iload_n 1, 1) :: (3, .sipush 185, 3) :: (6, .if_icmp .ge 21, 3) :: (9, .aload_n 0, 1) :: (10, .getfield 16, 3) :: (13, .iload_n 1, 1) :: (14, .aload_n 0, 1) :: (15, .getfield 7, 3) :: (18, .iload_n 1, 1) :: (19, .iaload, 1) :: (20, .iastore, 1) :: (21, .iinc 1 1, 3) :: (24, .goto (-22), 3) :: (27, .return_, 1) :: []) (by decide +kernel)
theorem e_X8_keeps_0 : decode cX8_keeps 0 = .ok (.iconst 0, 1) := D_X8_keeps_0.1
theorem e_X8_keeps_1 : decode cX8_keeps 1 = .ok (.istore_n 1, 1) := D_X8_keeps_0.2.1
theorem e_X8_keeps_2 : decode cX8_keeps 2 = .ok (.iload_n 1, 1) := D_X8_keeps_0.2.2.1
theorem e_X8_keeps_3 : decode cX8_keeps 3 = .ok (.sipush 185, 3) := D_X8_keeps_0.2.2.2.1
theorem e_X8_keeps_6 : decode cX8_keeps 6 = .ok (.if_icmp .ge 21, 3) := D_X8_keeps_0.2.2.2.2.1
theorem e_X8_keeps_9 : decode cX8_keeps 9 = .ok (.aload_n 0, 1) := D_X8_keeps_0.2.2.2.2.2.1
theorem e_X8_keeps_10 : decode cX8_keeps 10 = .ok (.getfield 16, 3) := D_X8_keeps_0.2.2.2.2.2.2.1
theorem e_X8_keeps_13 : decode cX8_keeps 13 = .ok (.iload_n 1, 1) := D_X8_keeps_0.2.2.2.2.2.2.2.1
theorem e_X8_keeps_14 : decode cX8_keeps 14 = .ok (.aload_n 0, 1) := D_X8_keeps_0.2.2.2.2.2.2.2.2.1
theorem e_X8_keeps_15 : decode cX8_keeps 15 = .ok (.getfield 7, 3) := D_X8_keeps_0.2.2.2.2.2.2.2.2.2.1
theorem e_X8_keeps_18 : decode cX8_keeps 18 = .ok (.iload_n 1, 1) := D_X8_keeps_0.2.2.2.2.2.2.2.2.2.2.1
theorem e_X8_keeps_19 : decode cX8_keeps 19 = .ok (.iaload, 1) := D_X8_keeps_0.2.2.2.2.2.2.2.2.2.2.2.1
theorem e_X8_keeps_20 : decode cX8_keeps 20 = .ok (.iastore, 1) := D_X8_keeps_0.2.2.2.2.2.2.2.2.2.2.2.2.1
theorem e_X8_keeps_21 : decode cX8_keeps 21 = .ok (.iinc 1 1, 3) := D_X8_keeps_0.2.2.2.2.2.2.2.2.2.2.2.2.2.1
theorem e_X8_keeps_24 : decode cX8_keeps 24 = .ok (.goto (-22), 3) := D_X8_keeps_0.2.2.2.2.2.2.2.2.2.2.2.2.2.2.1
theorem e_X8_keeps_27 : decode cX8_keeps 27 = .ok (.return_, 1) := D_X8_keeps_0.2.2.2.2.2.2.2.2.2.2.2.2.2.2.2.1
set_option maxRecDepth 100000 in
theorem D_X8_takesBack_0 : decode cX8_takesBack 0 = .ok (.iconst 0, 1) ∧ decode cX8_takesBack 1 = .ok (.istore_n 1, 1) ∧ decode cX8_takesBack 2 = .ok (.iload_n 1, 1) ∧ decode cX8_takesBack 3 = .ok (.sipush 185, 3) ∧ decode cX8_takesBack 6 = .ok (.if_icmp .ge 21, 3) ∧ decode cX8_takesBack 9 = .ok (.aload_n 0, 1) ∧ decode cX8_takesBack 10 = .ok (.getfield 7, 3) ∧ decode cX8_takesBack 13 = .ok (.iload_n 1, 1) ∧ decode cX8_takesBack 14 = .ok (.aload_n 0, 1) ∧ decode cX8_takesBack 15 = .ok (.getfield 16, 3) ∧ decode cX8_takesBack 18 = .ok (.iload_n 1, 1) ∧ decode cX8_takesBack 19 = .ok (.iaload, 1) ∧ decode cX8_takesBack 20 = .ok (.iastore, 1) ∧ decode cX8_takesBack 21 = .ok (.iinc 1 1, 3) ∧ decode cX8_takesBack 24 = .ok (.goto (-22), 3) ∧ decode cX8_takesBack 27 = .ok (.return_, 1) ∧ True := dq_of (l := (0, .iconst 0, 1) :: (1, .istore_n 1, 1) :: (2, .iload_n 1, 1) :: (3, .sipush 185, 3) :: (6, .if_icmp .ge 21, 3) :: (9, .aload_n 0, 1) :: (10, .getfield 7, 3) :: (13, .iload_n 1, 1) :: (14, .aload_n 0, 1) :: (15, .getfield 16, 3) :: (18, .iload_n 1, 1) :: (19, .iaload, 1) :: (20, .iastore, 1) :: (21, .iinc 1 1, 3) :: (24, .goto (-22), 3) :: (27, .return_, 1) :: []) (by decide +kernel)
theorem e_X8_takesBack_0 : decode cX8_takesBack 0 = .ok (.iconst 0, 1) := D_X8_takesBack_0.1
theorem e_X8_takesBack_1 : decode cX8_takesBack 1 = .ok (.istore_n 1, 1) := D_X8_takesBack_0.2.1
theorem e_X8_takesBack_2 : decode cX8_takesBack 2 = .ok (.iload_n 1, 1) := D_X8_takesBack_0.2.2.1
theorem e_X8_takesBack_3 : decode cX8_takesBack 3 = .ok (.sipush 185, 3) := D_X8_takesBack_0.2.2.2.1
theorem e_X8_takesBack_6 : decode cX8_takesBack 6 = .ok (.if_icmp .ge 21, 3) := D_X8_takesBack_0.2.2.2.2.1
theorem e_X8_takesBack_9 : decode cX8_takesBack 9 = .ok (.aload_n 0, 1) := D_X8_takesBack_0.2.2.2.2.2.1
theorem e_X8_takesBack_10 : decode cX8_takesBack 10 = .ok (.getfield 7, 3) := D_X8_takesBack_0.2.2.2.2.2.2.1
theorem e_X8_takesBack_13 : decode cX8_takesBack 13 = .ok (.iload_n 1, 1) := D_X8_takesBack_0.2.2.2.2.2.2.2.1
theorem e_X8_takesBack_14 : decode cX8_takesBack 14 = .ok (.aload_n 0, 1) := D_X8_takesBack_0.2.2.2.2.2.2.2.2.1
theorem e_X8_takesBack_15 : decode cX8_takesBack 15 = .ok (.getfield 16, 3) := D_X8_takesBack_0.2.2.2.2.2.2.2.2.2.1
theorem e_X8_takesBack_18 : decode cX8_takesBack 18 = .ok (.iload_n 1, 1) := D_X8_takesBack_0.2.2.2.2.2.2.2.2.2.2.1
theorem e_X8_takesBack_19 : decode cX8_takesBack 19 = .ok (.iaload, 1) := D_X8_takesBack_0.2.2.2.2.2.2.2.2.2.2.2.1
theorem e_X8_takesBack_20 : decode cX8_takesBack 20 = .ok (.iastore, 1) := D_X8_takesBack_0.2.2.2.2.2.2.2.2.2.2.2.2.1
theorem e_X8_takesBack_21 : decode cX8_takesBack 21 = .ok (.iinc 1 1, 3) := D_X8_takesBack_0.2.2.2.2.2.2.2.2.2.2.2.2.2.1
theorem e_X8_takesBack_24 : decode cX8_takesBack 24 = .ok (.goto (-22), 3) := D_X8_takesBack_0.2.2.2.2.2.2.2.2.2.2.2.2.2.2.1
theorem e_X8_takesBack_27 : decode cX8_takesBack 27 = .ok (.return_, 1) := D_X8_takesBack_0.2.2.2.2.2.2.2.2.2.2.2.2.2.2.2.1
set_option maxRecDepth 100000 in
theorem D_X8_stop_0 : decode cX8_stop 0 = .ok (.aload_n 0, 1) ∧ decode cX8_stop 1 = .ok (.getfield 7, 3) ∧ decode cX8_stop 4 = .ok (.iconst 5, 1) ∧ decode cX8_stop 5 = .ok (.iaload, 1) ∧ decode cX8_stop 6 = .ok (.ifCond .le 5, 3) ∧ decode cX8_stop 9 = .ok (.iconst 0, 1) ∧ decode cX8_stop 10 = .ok (.ireturn, 1) ∧ decode cX8_stop 11 = .ok (.aload_n 0, 1) ∧ decode cX8_stop 12 = .ok (.invokevirtual 157, 3) ∧ decode cX8_stop 15 = .ok (.aload_n 0, 1) ∧ decode cX8_stop 16 = .ok (.invokevirtual 151, 3) ∧ decode cX8_stop 19 = .ok (.istore_n 1, 1) ∧ decode cX8_stop 20 = .ok (.aload_n 0, 1) ∧ decode cX8_stop 21 = .ok (.invokevirtual 160, 3) ∧ decode cX8_stop 24 = .ok (.iload_n 1, 1) ∧ decode cX8_stop 25 = .ok (.ireturn, 1) ∧ True := dq_of (l := (0, .aload_n 0, 1) :: (1, .getfield 7, 3) :: (4, .iconst 5, 1) :: (5, .iaload, 1) :: (6, .ifCond .le 5, 3) :: (9, .iconst 0, 1) :: (10, .ireturn, 1) :: (11, .aload_n 0, 1) :: (12, .invokevirtual 157, 3) :: (15, .aload_n 0, 1) :: (16, .invokevirtual 151, 3) :: (19, .istore_n 1, 1) :: (20, .aload_n 0, 1) :: (21, .invokevirtual 160, 3) :: (24, .iload_n 1, 1) :: (25, .ireturn, 1) :: []) (by decide +kernel)
theorem e_X8_stop_0 : decode cX8_stop 0 = .ok (.aload_n 0, 1) := D_X8_stop_0.1
theorem e_X8_stop_1 : decode cX8_stop 1 = .ok (.getfield 7, 3) := D_X8_stop_0.2.1
theorem e_X8_stop_4 : decode cX8_stop 4 = .ok (.iconst 5, 1) := D_X8_stop_0.2.2.1
theorem e_X8_stop_5 : decode cX8_stop 5 = .ok (.iaload, 1) := D_X8_stop_0.2.2.2.1
theorem e_X8_stop_6 : decode cX8_stop 6 = .ok (.ifCond .le 5, 3) := D_X8_stop_0.2.2.2.2.1
theorem e_X8_stop_9 : decode cX8_stop 9 = .ok (.iconst 0, 1) := D_X8_stop_0.2.2.2.2.2.1
theorem e_X8_stop_10 : decode cX8_stop 10 = .ok (.ireturn, 1) := D_X8_stop_0.2.2.2.2.2.2.1
theorem e_X8_stop_11 : decode cX8_stop 11 = .ok (.aload_n 0, 1) := D_X8_stop_0.2.2.2.2.2.2.2.1
theorem e_X8_stop_12 : decode cX8_stop 12 = .ok (.invokevirtual 157, 3) := D_X8_stop_0.2.2.2.2.2.2.2.2.1
theorem e_X8_stop_15 : decode cX8_stop 15 = .ok (.aload_n 0, 1) := D_X8_stop_0.2.2.2.2.2.2.2.2.2.1
theorem e_X8_stop_16 : decode cX8_stop 16 = .ok (.invokevirtual 151, 3) := D_X8_stop_0.2.2.2.2.2.2.2.2.2.2.1
theorem e_X8_stop_19 : decode cX8_stop 19 = .ok (.istore_n 1, 1) := D_X8_stop_0.2.2.2.2.2.2.2.2.2.2.2.1
theorem e_X8_stop_20 : decode cX8_stop 20 = .ok (.aload_n 0, 1) := D_X8_stop_0.2.2.2.2.2.2.2.2.2.2.2.2.1
theorem e_X8_stop_21 : decode cX8_stop 21 = .ok (.invokevirtual 160, 3) := D_X8_stop_0.2.2.2.2.2.2.2.2.2.2.2.2.2.1
theorem e_X8_stop_24 : decode cX8_stop 24 = .ok (.iload_n 1, 1) := D_X8_stop_0.2.2.2.2.2.2.2.2.2.2.2.2.2.2.1
theorem e_X8_stop_25 : decode cX8_stop 25 = .ok (.ireturn, 1) := D_X8_stop_0.2.2.2.2.2.2.2.2.2.2.2.2.2.2.2.1
set_option maxRecDepth 100000 in
theorem D_X8_count_0 : decode cX8_count 0 = .ok (.iload_n 1, 1) ∧ decode cX8_count 1 = .ok (.tableswitch 156 0 16 #[83, 90, 95, 102, 109, 116, 123, 130, 156, 156, 156, 156, 156, 156, 138, 146, 151], 83) ∧ decode cX8_count 84 = .ok (.aload_n 0, 1) ∧ decode cX8_count 85 = .ok (.getfield 7, 3) ∧ decode cX8_count 88 = .ok (.iconst 0, 1) ∧ decode cX8_count 89 = .ok (.iaload, 1) ∧ decode cX8_count 90 = .ok (.ireturn, 1) ∧ decode cX8_count 91 = .ok (.aload_n 0, 1) ∧ decode cX8_count 92 = .ok (.invokevirtual 163, 3) ∧ decode cX8_count 95 = .ok (.ireturn, 1) ∧ decode cX8_count 96 = .ok (.aload_n 0, 1) ∧ decode cX8_count 97 = .ok (.getfield 7, 3) ∧ decode cX8_count 100 = .ok (.iconst 1, 1) ∧ decode cX8_count 101 = .ok (.iaload, 1) ∧ decode cX8_count 102 = .ok (.ireturn, 1) ∧ decode cX8_count 103 = .ok (.aload_n 0, 1) ∧ decode cX8_count 104 = .ok (.getfield 7, 3) ∧ decode cX8_count 107 = .ok (.iconst 2, 1) ∧ decode cX8_count 108 = .ok (.iaload, 1) ∧ decode cX8_count 109 = .ok (.ireturn, 1) ∧ decode cX8_count 110 = .ok (.aload_n 0, 1) ∧ decode cX8_count 111 = .ok (.getfield 7, 3) ∧ decode cX8_count 114 = .ok (.iconst 3, 1) ∧ decode cX8_count 115 = .ok (.iaload, 1) ∧ decode cX8_count 116 = .ok (.ireturn, 1) ∧ decode cX8_count 117 = .ok (.aload_n 0, 1) ∧ decode cX8_count 118 = .ok (.getfield 7, 3) ∧ decode cX8_count 121 = .ok (.iconst 4, 1) ∧ decode cX8_count 122 = .ok (.iaload, 1) ∧ decode cX8_count 123 = .ok (.ireturn, 1) ∧ decode cX8_count 124 = .ok (.aload_n 0, 1) ∧ decode cX8_count 125 = .ok (.getfield 7, 3) ∧ decode cX8_count 128 = .ok (.iconst 5, 1) ∧ decode cX8_count 129 = .ok (.iaload, 1) ∧ decode cX8_count 130 = .ok (.ireturn, 1) ∧ decode cX8_count 131 = .ok (.aload_n 0, 1) ∧ decode cX8_count 132 = .ok (.getfield 7, 3) ∧ decode cX8_count 135 = .ok (.bipush 6, 2) ∧ decode cX8_count 137 = .ok (.iaload, 1) ∧ decode cX8_count 138 = .ok (.ireturn, 1) ∧ True := dq_of (l := (0, .iload_n 1, 1) :: (1, .tableswitch 156 0 16 #[83, 90, 95, 102, 109, 116, 123, 130, 156, 156, 156, 156, 156, 156, 138, 146, 151], 83) :: (84, .aload_n 0, 1) :: (85, .getfield 7, 3) :: (88, .iconst 0, 1) :: (89, .iaload, 1) :: (90, .ireturn, 1) :: (91, .aload_n 0, 1) :: (92, .invokevirtual 163, 3) :: (95, .ireturn, 1) :: (96, .aload_n 0, 1) :: (97, .getfield 7, 3) :: (100, .iconst 1, 1) :: (101, .iaload, 1) :: (102, .ireturn, 1) :: (103, .aload_n 0, 1) :: (104, .getfield 7, 3) :: (107, .iconst 2, 1) :: (108, .iaload, 1) :: (109, .ireturn, 1) :: (110, .aload_n 0, 1) :: (111, .getfield 7, 3) :: (114, .iconst 3, 1) :: (115, .iaload, 1) :: (116, .ireturn, 1) :: (117, .aload_n 0, 1) :: (118, .getfield 7, 3) :: (121, .iconst 4, 1) :: (122, .iaload, 1) :: (123, .ireturn, 1) :: (124, .aload_n 0, 1) :: (125, .getfield 7, 3) :: (128, .iconst 5, 1) :: (129, .iaload, 1) :: (130, .ireturn, 1) :: (131, .aload_n 0, 1) :: (132, .getfield 7, 3) :: (135, .bipush 6, 2) :: (137, .iaload, 1) :: (138, .ireturn, 1) :: []) (by decide +kernel)
theorem e_X8_count_0 : decode cX8_count 0 = .ok (.iload_n 1, 1) := D_X8_count_0.1
theorem e_X8_count_1 : decode cX8_count 1 = .ok (.tableswitch 156 0 16 #[83, 90, 95, 102, 109, 116, 123, 130, 156, 156, 156, 156, 156, 156, 138, 146, 151], 83) := D_X8_count_0.2.1
theorem e_X8_count_84 : decode cX8_count 84 = .ok (.aload_n 0, 1) := D_X8_count_0.2.2.1
theorem e_X8_count_85 : decode cX8_count 85 = .ok (.getfield 7, 3) := D_X8_count_0.2.2.2.1
theorem e_X8_count_88 : decode cX8_count 88 = .ok (.iconst 0, 1) := D_X8_count_0.2.2.2.2.1
theorem e_X8_count_89 : decode cX8_count 89 = .ok (.iaload, 1) := D_X8_count_0.2.2.2.2.2.1
theorem e_X8_count_90 : decode cX8_count 90 = .ok (.ireturn, 1) := D_X8_count_0.2.2.2.2.2.2.1
theorem e_X8_count_91 : decode cX8_count 91 = .ok (.aload_n 0, 1) := D_X8_count_0.2.2.2.2.2.2.2.1
theorem e_X8_count_92 : decode cX8_count 92 = .ok (.invokevirtual 163, 3) := D_X8_count_0.2.2.2.2.2.2.2.2.1
theorem e_X8_count_95 : decode cX8_count 95 = .ok (.ireturn, 1) := D_X8_count_0.2.2.2.2.2.2.2.2.2.1
theorem e_X8_count_96 : decode cX8_count 96 = .ok (.aload_n 0, 1) := D_X8_count_0.2.2.2.2.2.2.2.2.2.2.1
theorem e_X8_count_97 : decode cX8_count 97 = .ok (.getfield 7, 3) := D_X8_count_0.2.2.2.2.2.2.2.2.2.2.2.1
theorem e_X8_count_100 : decode cX8_count 100 = .ok (.iconst 1, 1) := D_X8_count_0.2.2.2.2.2.2.2.2.2.2.2.2.1
theorem e_X8_count_101 : decode cX8_count 101 = .ok (.iaload, 1) := D_X8_count_0.2.2.2.2.2.2.2.2.2.2.2.2.2.1
theorem e_X8_count_102 : decode cX8_count 102 = .ok (.ireturn, 1) := D_X8_count_0.2.2.2.2.2.2.2.2.2.2.2.2.2.2.1
theorem e_X8_count_103 : decode cX8_count 103 = .ok (.aload_n 0, 1) := D_X8_count_0.2.2.2.2.2.2.2.2.2.2.2.2.2.2.2.1
theorem e_X8_count_104 : decode cX8_count 104 = .ok (.getfield 7, 3) := D_X8_count_0.2.2.2.2.2.2.2.2.2.2.2.2.2.2.2.2.1
theorem e_X8_count_107 : decode cX8_count 107 = .ok (.iconst 2, 1) := D_X8_count_0.2.2.2.2.2.2.2.2.2.2.2.2.2.2.2.2.2.1
theorem e_X8_count_108 : decode cX8_count 108 = .ok (.iaload, 1) := D_X8_count_0.2.2.2.2.2.2.2.2.2.2.2.2.2.2.2.2.2.2.1
theorem e_X8_count_109 : decode cX8_count 109 = .ok (.ireturn, 1) := D_X8_count_0.2.2.2.2.2.2.2.2.2.2.2.2.2.2.2.2.2.2.2.1
theorem e_X8_count_110 : decode cX8_count 110 = .ok (.aload_n 0, 1) := D_X8_count_0.2.2.2.2.2.2.2.2.2.2.2.2.2.2.2.2.2.2.2.2.1
theorem e_X8_count_111 : decode cX8_count 111 = .ok (.getfield 7, 3) := D_X8_count_0.2.2.2.2.2.2.2.2.2.2.2.2.2.2.2.2.2.2.2.2.2.1
theorem e_X8_count_114 : decode cX8_count 114 = .ok (.iconst 3, 1) := D_X8_count_0.2.2.2.2.2.2.2.2.2.2.2.2.2.2.2.2.2.2.2.2.2.2.1
theorem e_X8_count_115 : decode cX8_count 115 = .ok (.iaload, 1) := D_X8_count_0.2.2.2.2.2.2.2.2.2.2.2.2.2.2.2.2.2.2.2.2.2.2.2.1
theorem e_X8_count_116 : decode cX8_count 116 = .ok (.ireturn, 1) := D_X8_count_0.2.2.2.2.2.2.2.2.2.2.2.2.2.2.2.2.2.2.2.2.2.2.2.2.1
theorem e_X8_count_117 : decode cX8_count 117 = .ok (.aload_n 0, 1) := D_X8_count_0.2.2.2.2.2.2.2.2.2.2.2.2.2.2.2.2.2.2.2.2.2.2.2.2.2.1
theorem e_X8_count_118 : decode cX8_count 118 = .ok (.getfield 7, 3) := D_X8_count_0.2.2.2.2.2.2.2.2.2.2.2.2.2.2.2.2.2.2.2.2.2.2.2.2.2.2.1
theorem e_X8_count_121 : decode cX8_count 121 = .ok (.iconst 4, 1) := D_X8_count_0.2.2.2.2.2.2.2.2.2.2.2.2.2.2.2.2.2.2.2.2.2.2.2.2.2.2.2.1
theorem e_X8_count_122 : decode cX8_count 122 = .ok (.iaload, 1) := D_X8_count_0.2.2.2.2.2.2.2.2.2.2.2.2.2.2.2.2.2.2.2.2.2.2.2.2.2.2.2.2.1
theorem e_X8_count_123 : decode cX8_count 123 = .ok (.ireturn, 1) := D_X8_count_0.2.2.2.2.2.2.2.2.2.2.2.2.2.2.2.2.2.2.2.2.2.2.2.2.2.2.2.2.2.1
theorem e_X8_count_124 : decode cX8_count 124 = .ok (.aload_n 0, 1) := D_X8_count_0.2.2.2.2.2.2.2.2.2.2.2.2.2.2.2.2.2.2.2.2.2.2.2.2.2.2.2.2.2.2.1
theorem e_X8_count_125 : decode cX8_count 125 = .ok (.getfield 7, 3) := D_X8_count_0.2.2.2.2.2.2.2.2.2.2.2.2.2.2.2.2.2.2.2.2.2.2.2.2.2.2.2.2.2.2.2.1
theorem e_X8_count_128 : decode cX8_count 128 = .ok (.iconst 5, 1) := D_X8_count_0.2.2.2.2.2.2.2.2.2.2.2.2.2.2.2.2.2.2.2.2.2.2.2.2.2.2.2.2.2.2.2.2.1
theorem e_X8_count_129 : decode cX8_count 129 = .ok (.iaload, 1) := D_X8_count_0.2.2.2.2.2.2.2.2.2.2.2.2.2.2.2.2.2.2.2.2.2.2.2.2.2.2.2.2.2.2.2.2.2.1
theorem e_X8_count_130 : decode cX8_count 130 = .ok (.ireturn, 1) := D_X8_count_0.2.2.2.2.2.2.2.2.2.2.2.2.2.2.2.2.2.2.2.2.2.2.2.2.2.2.2.2.2.2.2.2.2.2.1
theorem e_X8_count_131 : decode cX8_count 131 = .ok (.aload_n 0, 1) := D_X8_count_0.2.2.2.2.2.2.2.2.2.2.2.2.2.2.2.2.2.2.2.2.2.2.2.2.2.2.2.2.2.2.2.2.2.2.2.1
theorem e_X8_count_132 : decode cX8_count 132 = .ok (.getfield 7, 3) := D_X8_count_0.2.2.2.2.2.2.2.2.2.2.2.2.2.2.2.2.2.2.2.2.2.2.2.2.2.2.2.2.2.2.2.2.2.2.2.2.1
theorem e_X8_count_135 : decode cX8_count 135 = .ok (.bipush 6, 2) := D_X8_count_0.2.2.2.2.2.2.2.2.2.2.2.2.2.2.2.2.2.2.2.2.2.2.2.2.2.2.2.2.2.2.2.2.2.2.2.2.2.1
theorem e_X8_count_137 : decode cX8_count 137 = .ok (.iaload, 1) := D_X8_count_0.2.2.2.2.2.2.2.2.2.2.2.2.2.2.2.2.2.2.2.2.2.2.2.2.2.2.2.2.2.2.2.2.2.2.2.2.2.2.1
theorem e_X8_count_138 : decode cX8_count 138 = .ok (.ireturn, 1) := D_X8_count_0.2.2.2.2.2.2.2.2.2.2.2.2.2.2.2.2.2.2.2.2.2.2.2.2.2.2.2.2.2.2.2.2.2.2.2.2.2.2.2.1
set_option maxRecDepth 100000 in
theorem D_X8_count_1 : decode cX8_count 139 = .ok (.aload_n 0, 1) ∧ decode cX8_count 140 = .ok (.getfield 7, 3) ∧ decode cX8_count 143 = .ok (.bipush 9, 2) ∧ decode cX8_count 145 = .ok (.iaload, 1) ∧ decode cX8_count 146 = .ok (.ireturn, 1) ∧ decode cX8_count 147 = .ok (.aload_n 0, 1) ∧ decode cX8_count 148 = .ok (.getfield 29, 3) ∧ decode cX8_count 151 = .ok (.ireturn, 1) ∧ decode cX8_count 152 = .ok (.aload_n 0, 1) ∧ decode cX8_count 153 = .ok (.getfield 166, 3) ∧ decode cX8_count 156 = .ok (.ireturn, 1) ∧ decode cX8_count 157 = .ok (.iload_n 1, 1) ∧ decode cX8_count 158 = .ok (.bipush 8, 2) ∧ decode cX8_count 160 = .ok (.bipush 13, 2) ∧ decode cX8_count 162 = .ok (.invokestatic 32, 3) ∧ decode cX8_count 165 = .ok (.ifCond .eq 18, 3) ∧ decode cX8_count 168 = .ok (.aload_n 0, 1) ∧ decode cX8_count 169 = .ok (.getfield 7, 3) ∧ decode cX8_count 172 = .ok (.bipush 10, 2) ∧ decode cX8_count 174 = .ok (.iload_n 1, 1) ∧ decode cX8_count 175 = .ok (.iadd, 1) ∧ decode cX8_count 176 = .ok (.bipush 8, 2) ∧ decode cX8_count 178 = .ok (.isub, 1) ∧ decode cX8_count 179 = .ok (.iaload, 1) ∧ decode cX8_count 180 = .ok (.goto 4, 3) ∧ decode cX8_count 183 = .ok (.iconst (-1), 1) ∧ decode cX8_count 184 = .ok (.ireturn, 1) ∧ True := dq_of (l := (139, .aload_n 0, 1) :: (140, .getfield 7, 3) :: (143, .bipush 9, 2) :: (145, .iaload, 1) :: (146, .ireturn, 1) :: (147, .aload_n 0, 1) :: (148, .getfield 29, 3) :: (151, .ireturn, 1) :: (152, .aload_n 0, 1) :: (153, .getfield 166, 3) :: (156, .ireturn, 1) :: (157, .iload_n 1, 1) :: (158, .bipush 8, 2) :: (160, .bipush 13, 2) :: (162, .invokestatic 32, 3) :: (165, .ifCond .eq 18, 3) :: (168, .aload_n 0, 1) :: (169, .getfield 7, 3) :: (172, .bipush 10, 2) :: (174, .iload_n 1, 1) :: (175, .iadd, 1) :: (176, .bipush 8, 2) :: (178, .isub, 1) :: (179, .iaload, 1) :: (180, .goto 4, 3) :: (183, .iconst (-1), 1) :: (184, .ireturn, 1) :: []) (by decide +kernel)
theorem e_X8_count_139 : decode cX8_count 139 = .ok (.aload_n 0, 1) := D_X8_count_1.1
theorem e_X8_count_140 : decode cX8_count 140 = .ok (.getfield 7, 3) := D_X8_count_1.2.1
theorem e_X8_count_143 : decode cX8_count 143 = .ok (.bipush 9, 2) := D_X8_count_1.2.2.1
theorem e_X8_count_145 : decode cX8_count 145 = .ok (.iaload, 1) := D_X8_count_1.2.2.2.1
theorem e_X8_count_146 : decode cX8_count 146 = .ok (.ireturn, 1) := D_X8_count_1.2.2.2.2.1
theorem e_X8_count_147 : decode cX8_count 147 = .ok (.aload_n 0, 1) := D_X8_count_1.2.2.2.2.2.1
theorem e_X8_count_148 : decode cX8_count 148 = .ok (.getfield 29, 3) := D_X8_count_1.2.2.2.2.2.2.1
theorem e_X8_count_151 : decode cX8_count 151 = .ok (.ireturn, 1) := D_X8_count_1.2.2.2.2.2.2.2.1
theorem e_X8_count_152 : decode cX8_count 152 = .ok (.aload_n 0, 1) := D_X8_count_1.2.2.2.2.2.2.2.2.1
theorem e_X8_count_153 : decode cX8_count 153 = .ok (.getfield 166, 3) := D_X8_count_1.2.2.2.2.2.2.2.2.2.1
theorem e_X8_count_156 : decode cX8_count 156 = .ok (.ireturn, 1) := D_X8_count_1.2.2.2.2.2.2.2.2.2.2.1
theorem e_X8_count_157 : decode cX8_count 157 = .ok (.iload_n 1, 1) := D_X8_count_1.2.2.2.2.2.2.2.2.2.2.2.1
theorem e_X8_count_158 : decode cX8_count 158 = .ok (.bipush 8, 2) := D_X8_count_1.2.2.2.2.2.2.2.2.2.2.2.2.1
theorem e_X8_count_160 : decode cX8_count 160 = .ok (.bipush 13, 2) := D_X8_count_1.2.2.2.2.2.2.2.2.2.2.2.2.2.1
theorem e_X8_count_162 : decode cX8_count 162 = .ok (.invokestatic 32, 3) := D_X8_count_1.2.2.2.2.2.2.2.2.2.2.2.2.2.2.1
theorem e_X8_count_165 : decode cX8_count 165 = .ok (.ifCond .eq 18, 3) := D_X8_count_1.2.2.2.2.2.2.2.2.2.2.2.2.2.2.2.1
theorem e_X8_count_168 : decode cX8_count 168 = .ok (.aload_n 0, 1) := D_X8_count_1.2.2.2.2.2.2.2.2.2.2.2.2.2.2.2.2.1
theorem e_X8_count_169 : decode cX8_count 169 = .ok (.getfield 7, 3) := D_X8_count_1.2.2.2.2.2.2.2.2.2.2.2.2.2.2.2.2.2.1
theorem e_X8_count_172 : decode cX8_count 172 = .ok (.bipush 10, 2) := D_X8_count_1.2.2.2.2.2.2.2.2.2.2.2.2.2.2.2.2.2.2.1
theorem e_X8_count_174 : decode cX8_count 174 = .ok (.iload_n 1, 1) := D_X8_count_1.2.2.2.2.2.2.2.2.2.2.2.2.2.2.2.2.2.2.2.1
theorem e_X8_count_175 : decode cX8_count 175 = .ok (.iadd, 1) := D_X8_count_1.2.2.2.2.2.2.2.2.2.2.2.2.2.2.2.2.2.2.2.2.1
theorem e_X8_count_176 : decode cX8_count 176 = .ok (.bipush 8, 2) := D_X8_count_1.2.2.2.2.2.2.2.2.2.2.2.2.2.2.2.2.2.2.2.2.2.1
theorem e_X8_count_178 : decode cX8_count 178 = .ok (.isub, 1) := D_X8_count_1.2.2.2.2.2.2.2.2.2.2.2.2.2.2.2.2.2.2.2.2.2.2.1
theorem e_X8_count_179 : decode cX8_count 179 = .ok (.iaload, 1) := D_X8_count_1.2.2.2.2.2.2.2.2.2.2.2.2.2.2.2.2.2.2.2.2.2.2.2.1
theorem e_X8_count_180 : decode cX8_count 180 = .ok (.goto 4, 3) := D_X8_count_1.2.2.2.2.2.2.2.2.2.2.2.2.2.2.2.2.2.2.2.2.2.2.2.2.1
theorem e_X8_count_183 : decode cX8_count 183 = .ok (.iconst (-1), 1) := D_X8_count_1.2.2.2.2.2.2.2.2.2.2.2.2.2.2.2.2.2.2.2.2.2.2.2.2.2.1
theorem e_X8_count_184 : decode cX8_count 184 = .ok (.ireturn, 1) := D_X8_count_1.2.2.2.2.2.2.2.2.2.2.2.2.2.2.2.2.2.2.2.2.2.2.2.2.2.2.1
set_option maxRecDepth 100000 in
theorem D_X8_heldOnes_0 : decode cX8_heldOnes 0 = .ok (.iconst 0, 1) ∧ decode cX8_heldOnes 1 = .ok (.istore_n 1, 1) ∧ decode cX8_heldOnes 2 = .ok (.iconst 0, 1) ∧ decode cX8_heldOnes 3 = .ok (.istore_n 2, 1) ∧ decode cX8_heldOnes 4 = .ok (.iload_n 2, 1) ∧ decode cX8_heldOnes 5 = .ok (.aload_n 0, 1) ∧ decode cX8_heldOnes 6 = .ok (.getfield 7, 3) ∧ decode cX8_heldOnes 9 = .ok (.iconst 0, 1) ∧ decode cX8_heldOnes 10 = .ok (.iaload, 1) ∧ decode cX8_heldOnes 11 = .ok (.if_icmp .ge 19, 3) ∧ decode cX8_heldOnes 14 = .ok (.iload_n 1, 1) ∧ decode cX8_heldOnes 15 = .ok (.aload_n 0, 1) ∧ decode cX8_heldOnes 16 = .ok (.iload_n 2, 1) ∧ decode cX8_heldOnes 17 = .ok (.bipush 7, 2) ∧ decode cX8_heldOnes 19 = .ok (.invokevirtual 64, 3) ∧ decode cX8_heldOnes 22 = .ok (.iadd, 1) ∧ decode cX8_heldOnes 23 = .ok (.istore_n 1, 1) ∧ decode cX8_heldOnes 24 = .ok (.iinc 2 1, 3) ∧ decode cX8_heldOnes 27 = .ok (.goto (-23), 3) ∧ decode cX8_heldOnes 30 = .ok (.iload_n 1, 1) ∧ decode cX8_heldOnes 31 = .ok (.ireturn, 1) ∧ True := dq_of (l := (0, .iconst 0, 1) :: (1, .istore_n 1, 1) :: (2, .iconst 0, 1) :: (3, .istore_n 2, 1) :: (4, .iload_n 2, 1) :: (5, .aload_n 0, 1) :: (6, .getfield 7, 3) :: (9, .iconst 0, 1) :: (10, .iaload, 1) :: (11, .if_icmp .ge 19, 3) :: (14, .iload_n 1, 1) :: (15, .aload_n 0, 1) :: (16, .iload_n 2, 1) :: (17, .bipush 7, 2) :: (19, .invokevirtual 64, 3) :: (22, .iadd, 1) :: (23, .istore_n 1, 1) :: (24, .iinc 2 1, 3) :: (27, .goto (-23), 3) :: (30, .iload_n 1, 1) :: (31, .ireturn, 1) :: []) (by decide +kernel)
theorem e_X8_heldOnes_0 : decode cX8_heldOnes 0 = .ok (.iconst 0, 1) := D_X8_heldOnes_0.1
theorem e_X8_heldOnes_1 : decode cX8_heldOnes 1 = .ok (.istore_n 1, 1) := D_X8_heldOnes_0.2.1
theorem e_X8_heldOnes_2 : decode cX8_heldOnes 2 = .ok (.iconst 0, 1) := D_X8_heldOnes_0.2.2.1
theorem e_X8_heldOnes_3 : decode cX8_heldOnes 3 = .ok (.istore_n 2, 1) := D_X8_heldOnes_0.2.2.2.1
theorem e_X8_heldOnes_4 : decode cX8_heldOnes 4 = .ok (.iload_n 2, 1) := D_X8_heldOnes_0.2.2.2.2.1
theorem e_X8_heldOnes_5 : decode cX8_heldOnes 5 = .ok (.aload_n 0, 1) := D_X8_heldOnes_0.2.2.2.2.2.1
theorem e_X8_heldOnes_6 : decode cX8_heldOnes 6 = .ok (.getfield 7, 3) := D_X8_heldOnes_0.2.2.2.2.2.2.1
theorem e_X8_heldOnes_9 : decode cX8_heldOnes 9 = .ok (.iconst 0, 1) := D_X8_heldOnes_0.2.2.2.2.2.2.2.1
theorem e_X8_heldOnes_10 : decode cX8_heldOnes 10 = .ok (.iaload, 1) := D_X8_heldOnes_0.2.2.2.2.2.2.2.2.1
theorem e_X8_heldOnes_11 : decode cX8_heldOnes 11 = .ok (.if_icmp .ge 19, 3) := D_X8_heldOnes_0.2.2.2.2.2.2.2.2.2.1
theorem e_X8_heldOnes_14 : decode cX8_heldOnes 14 = .ok (.iload_n 1, 1) := D_X8_heldOnes_0.2.2.2.2.2.2.2.2.2.2.1
theorem e_X8_heldOnes_15 : decode cX8_heldOnes 15 = .ok (.aload_n 0, 1) := D_X8_heldOnes_0.2.2.2.2.2.2.2.2.2.2.2.1
theorem e_X8_heldOnes_16 : decode cX8_heldOnes 16 = .ok (.iload_n 2, 1) := D_X8_heldOnes_0.2.2.2.2.2.2.2.2.2.2.2.2.1
theorem e_X8_heldOnes_17 : decode cX8_heldOnes 17 = .ok (.bipush 7, 2) := D_X8_heldOnes_0.2.2.2.2.2.2.2.2.2.2.2.2.2.1
theorem e_X8_heldOnes_19 : decode cX8_heldOnes 19 = .ok (.invokevirtual 64, 3) := D_X8_heldOnes_0.2.2.2.2.2.2.2.2.2.2.2.2.2.2.1
theorem e_X8_heldOnes_22 : decode cX8_heldOnes 22 = .ok (.iadd, 1) := D_X8_heldOnes_0.2.2.2.2.2.2.2.2.2.2.2.2.2.2.2.1
theorem e_X8_heldOnes_23 : decode cX8_heldOnes 23 = .ok (.istore_n 1, 1) := D_X8_heldOnes_0.2.2.2.2.2.2.2.2.2.2.2.2.2.2.2.2.1
theorem e_X8_heldOnes_24 : decode cX8_heldOnes 24 = .ok (.iinc 2 1, 3) := D_X8_heldOnes_0.2.2.2.2.2.2.2.2.2.2.2.2.2.2.2.2.2.1
theorem e_X8_heldOnes_27 : decode cX8_heldOnes 27 = .ok (.goto (-23), 3) := D_X8_heldOnes_0.2.2.2.2.2.2.2.2.2.2.2.2.2.2.2.2.2.2.1
theorem e_X8_heldOnes_30 : decode cX8_heldOnes 30 = .ok (.iload_n 1, 1) := D_X8_heldOnes_0.2.2.2.2.2.2.2.2.2.2.2.2.2.2.2.2.2.2.2.1
theorem e_X8_heldOnes_31 : decode cX8_heldOnes 31 = .ok (.ireturn, 1) := D_X8_heldOnes_0.2.2.2.2.2.2.2.2.2.2.2.2.2.2.2.2.2.2.2.2.1
set_option maxRecDepth 100000 in
theorem D_X8_account_0 : decode cX8_account 0 = .ok (.iload_n 1, 1) ∧ decode cX8_account 1 = .ok (.iconst 0, 1) ∧ decode cX8_account 2 = .ok (.bipush 8, 2) ∧ decode cX8_account 4 = .ok (.invokestatic 32, 3) ∧ decode cX8_account 7 = .ok (.ifCond .eq 15, 3) ∧ decode cX8_account 10 = .ok (.aload_n 0, 1) ∧ decode cX8_account 11 = .ok (.getfield 7, 3) ∧ decode cX8_account 14 = .ok (.bipush 16, 2) ∧ decode cX8_account 16 = .ok (.iload_n 1, 1) ∧ decode cX8_account 17 = .ok (.iadd, 1) ∧ decode cX8_account 18 = .ok (.iaload, 1) ∧ decode cX8_account 19 = .ok (.goto 4, 3) ∧ decode cX8_account 22 = .ok (.iconst (-1), 1) ∧ decode cX8_account 23 = .ok (.ireturn, 1) ∧ True := dq_of (l := (0, .iload_n 1, 1) :: (1, .iconst 0, 1) :: (2, .bipush 8, 2) :: (4, .invokestatic 32, 3) :: (7, .ifCond .eq 15, 3) :: (10, .aload_n 0, 1) :: (11, .getfield 7, 3) :: (14, .bipush 16, 2) :: (16, .iload_n 1, 1) :: (17, .iadd, 1) :: (18, .iaload, 1) :: (19, .goto 4, 3) :: (22, .iconst (-1), 1) :: (23, .ireturn, 1) :: []) (by decide +kernel)
theorem e_X8_account_0 : decode cX8_account 0 = .ok (.iload_n 1, 1) := D_X8_account_0.1
theorem e_X8_account_1 : decode cX8_account 1 = .ok (.iconst 0, 1) := D_X8_account_0.2.1
theorem e_X8_account_2 : decode cX8_account 2 = .ok (.bipush 8, 2) := D_X8_account_0.2.2.1
theorem e_X8_account_4 : decode cX8_account 4 = .ok (.invokestatic 32, 3) := D_X8_account_0.2.2.2.1
theorem e_X8_account_7 : decode cX8_account 7 = .ok (.ifCond .eq 15, 3) := D_X8_account_0.2.2.2.2.1
theorem e_X8_account_10 : decode cX8_account 10 = .ok (.aload_n 0, 1) := D_X8_account_0.2.2.2.2.2.1
theorem e_X8_account_11 : decode cX8_account 11 = .ok (.getfield 7, 3) := D_X8_account_0.2.2.2.2.2.2.1
theorem e_X8_account_14 : decode cX8_account 14 = .ok (.bipush 16, 2) := D_X8_account_0.2.2.2.2.2.2.2.1
theorem e_X8_account_16 : decode cX8_account 16 = .ok (.iload_n 1, 1) := D_X8_account_0.2.2.2.2.2.2.2.2.1
theorem e_X8_account_17 : decode cX8_account 17 = .ok (.iadd, 1) := D_X8_account_0.2.2.2.2.2.2.2.2.2.1
theorem e_X8_account_18 : decode cX8_account 18 = .ok (.iaload, 1) := D_X8_account_0.2.2.2.2.2.2.2.2.2.2.1
theorem e_X8_account_19 : decode cX8_account 19 = .ok (.goto 4, 3) := D_X8_account_0.2.2.2.2.2.2.2.2.2.2.2.1
theorem e_X8_account_22 : decode cX8_account 22 = .ok (.iconst (-1), 1) := D_X8_account_0.2.2.2.2.2.2.2.2.2.2.2.2.1
theorem e_X8_account_23 : decode cX8_account 23 = .ok (.ireturn, 1) := D_X8_account_0.2.2.2.2.2.2.2.2.2.2.2.2.2.1
set_option maxRecDepth 100000 in
theorem D_X8_paper_0 : decode cX8_paper 0 = .ok (.iload_n 1, 1) ∧ decode cX8_paper 1 = .ok (.ifCond .lt 12, 3) ∧ decode cX8_paper 4 = .ok (.iload_n 2, 1) ∧ decode cX8_paper 5 = .ok (.iconst 0, 1) ∧ decode cX8_paper 6 = .ok (.iconst 2, 1) ∧ decode cX8_paper 7 = .ok (.invokestatic 32, 3) ∧ decode cX8_paper 10 = .ok (.ifCond .ne 5, 3) ∧ decode cX8_paper 13 = .ok (.iconst (-1), 1) ∧ decode cX8_paper 14 = .ok (.ireturn, 1) ∧ decode cX8_paper 15 = .ok (.iload_n 1, 1) ∧ decode cX8_paper 16 = .ok (.aload_n 0, 1) ∧ decode cX8_paper 17 = .ok (.getfield 7, 3) ∧ decode cX8_paper 20 = .ok (.bipush 9, 2) ∧ decode cX8_paper 22 = .ok (.iaload, 1) ∧ decode cX8_paper 23 = .ok (.if_icmp .lt 8, 3) ∧ decode cX8_paper 26 = .ok (.bipush (-4), 2) ∧ decode cX8_paper 28 = .ok (.goto 16, 3) ∧ decode cX8_paper 31 = .ok (.aload_n 0, 1) ∧ decode cX8_paper 32 = .ok (.getfield 7, 3) ∧ decode cX8_paper 35 = .ok (.bipush 37, 2) ∧ decode cX8_paper 37 = .ok (.iconst 3, 1) ∧ decode cX8_paper 38 = .ok (.iload_n 1, 1) ∧ decode cX8_paper 39 = .ok (.imul, 1) ∧ decode cX8_paper 40 = .ok (.iadd, 1) ∧ decode cX8_paper 41 = .ok (.iload_n 2, 1) ∧ decode cX8_paper 42 = .ok (.iadd, 1) ∧ decode cX8_paper 43 = .ok (.iaload, 1) ∧ decode cX8_paper 44 = .ok (.ireturn, 1) ∧ True := dq_of (l := (0, .iload_n 1, 1) :: (1, .ifCond .lt 12, 3) :: (4, .iload_n 2, 1) :: (5, .iconst 0, 1) :: (6, .iconst 2, 1) :: (7, .invokestatic 32, 3) :: (10, .ifCond .ne 5, 3) :: (13, .iconst (-1), 1) :: (14, .ireturn, 1) :: (15, .iload_n 1, 1) :: (16, .aload_n 0, 1) :: (17, .getfield 7, 3) :: (20, .bipush 9, 2) :: (22, .iaload, 1) :: (23, .if_icmp .lt 8, 3) :: (26, .bipush (-4), 2) :: (28, .goto 16, 3) :: (31, .aload_n 0, 1) :: (32, .getfield 7, 3) :: (35, .bipush 37, 2) :: (37, .iconst 3, 1) :: (38, .iload_n 1, 1) :: (39, .imul, 1) :: (40, .iadd, 1) :: (41, .iload_n 2, 1) :: (42, .iadd, 1) :: (43, .iaload, 1) :: (44, .ireturn, 1) :: []) (by decide +kernel)
theorem e_X8_paper_0 : decode cX8_paper 0 = .ok (.iload_n 1, 1) := D_X8_paper_0.1
theorem e_X8_paper_1 : decode cX8_paper 1 = .ok (.ifCond .lt 12, 3) := D_X8_paper_0.2.1
theorem e_X8_paper_4 : decode cX8_paper 4 = .ok (.iload_n 2, 1) := D_X8_paper_0.2.2.1
theorem e_X8_paper_5 : decode cX8_paper 5 = .ok (.iconst 0, 1) := D_X8_paper_0.2.2.2.1
theorem e_X8_paper_6 : decode cX8_paper 6 = .ok (.iconst 2, 1) := D_X8_paper_0.2.2.2.2.1
theorem e_X8_paper_7 : decode cX8_paper 7 = .ok (.invokestatic 32, 3) := D_X8_paper_0.2.2.2.2.2.1
theorem e_X8_paper_10 : decode cX8_paper 10 = .ok (.ifCond .ne 5, 3) := D_X8_paper_0.2.2.2.2.2.2.1
theorem e_X8_paper_13 : decode cX8_paper 13 = .ok (.iconst (-1), 1) := D_X8_paper_0.2.2.2.2.2.2.2.1
theorem e_X8_paper_14 : decode cX8_paper 14 = .ok (.ireturn, 1) := D_X8_paper_0.2.2.2.2.2.2.2.2.1
theorem e_X8_paper_15 : decode cX8_paper 15 = .ok (.iload_n 1, 1) := D_X8_paper_0.2.2.2.2.2.2.2.2.2.1
theorem e_X8_paper_16 : decode cX8_paper 16 = .ok (.aload_n 0, 1) := D_X8_paper_0.2.2.2.2.2.2.2.2.2.2.1
theorem e_X8_paper_17 : decode cX8_paper 17 = .ok (.getfield 7, 3) := D_X8_paper_0.2.2.2.2.2.2.2.2.2.2.2.1
theorem e_X8_paper_20 : decode cX8_paper 20 = .ok (.bipush 9, 2) := D_X8_paper_0.2.2.2.2.2.2.2.2.2.2.2.2.1
theorem e_X8_paper_22 : decode cX8_paper 22 = .ok (.iaload, 1) := D_X8_paper_0.2.2.2.2.2.2.2.2.2.2.2.2.2.1
theorem e_X8_paper_23 : decode cX8_paper 23 = .ok (.if_icmp .lt 8, 3) := D_X8_paper_0.2.2.2.2.2.2.2.2.2.2.2.2.2.2.1
theorem e_X8_paper_26 : decode cX8_paper 26 = .ok (.bipush (-4), 2) := D_X8_paper_0.2.2.2.2.2.2.2.2.2.2.2.2.2.2.2.1
theorem e_X8_paper_28 : decode cX8_paper 28 = .ok (.goto 16, 3) := D_X8_paper_0.2.2.2.2.2.2.2.2.2.2.2.2.2.2.2.2.1
theorem e_X8_paper_31 : decode cX8_paper 31 = .ok (.aload_n 0, 1) := D_X8_paper_0.2.2.2.2.2.2.2.2.2.2.2.2.2.2.2.2.2.1
theorem e_X8_paper_32 : decode cX8_paper 32 = .ok (.getfield 7, 3) := D_X8_paper_0.2.2.2.2.2.2.2.2.2.2.2.2.2.2.2.2.2.2.1
theorem e_X8_paper_35 : decode cX8_paper 35 = .ok (.bipush 37, 2) := D_X8_paper_0.2.2.2.2.2.2.2.2.2.2.2.2.2.2.2.2.2.2.2.1
theorem e_X8_paper_37 : decode cX8_paper 37 = .ok (.iconst 3, 1) := D_X8_paper_0.2.2.2.2.2.2.2.2.2.2.2.2.2.2.2.2.2.2.2.2.1
theorem e_X8_paper_38 : decode cX8_paper 38 = .ok (.iload_n 1, 1) := D_X8_paper_0.2.2.2.2.2.2.2.2.2.2.2.2.2.2.2.2.2.2.2.2.2.1
theorem e_X8_paper_39 : decode cX8_paper 39 = .ok (.imul, 1) := D_X8_paper_0.2.2.2.2.2.2.2.2.2.2.2.2.2.2.2.2.2.2.2.2.2.2.1
theorem e_X8_paper_40 : decode cX8_paper 40 = .ok (.iadd, 1) := D_X8_paper_0.2.2.2.2.2.2.2.2.2.2.2.2.2.2.2.2.2.2.2.2.2.2.2.1
theorem e_X8_paper_41 : decode cX8_paper 41 = .ok (.iload_n 2, 1) := D_X8_paper_0.2.2.2.2.2.2.2.2.2.2.2.2.2.2.2.2.2.2.2.2.2.2.2.2.1
theorem e_X8_paper_42 : decode cX8_paper 42 = .ok (.iadd, 1) := D_X8_paper_0.2.2.2.2.2.2.2.2.2.2.2.2.2.2.2.2.2.2.2.2.2.2.2.2.2.1
theorem e_X8_paper_43 : decode cX8_paper 43 = .ok (.iaload, 1) := D_X8_paper_0.2.2.2.2.2.2.2.2.2.2.2.2.2.2.2.2.2.2.2.2.2.2.2.2.2.2.1
theorem e_X8_paper_44 : decode cX8_paper 44 = .ok (.ireturn, 1) := D_X8_paper_0.2.2.2.2.2.2.2.2.2.2.2.2.2.2.2.2.2.2.2.2.2.2.2.2.2.2.2.1
set_option maxRecDepth 100000 in
theorem D_X8_lacking_0 : decode cX8_lacking 0 = .ok (.iload_n 1, 1) ∧ decode cX8_lacking 1 = .ok (.iload_n 2, 1) ∧ decode cX8_lacking 2 = .ok (.invokestatic 43, 3) ∧ decode cX8_lacking 5 = .ok (.ifCond .ne 5, 3) ∧ decode cX8_lacking 8 = .ok (.iconst (-1), 1) ∧ decode cX8_lacking 9 = .ok (.ireturn, 1) ∧ decode cX8_lacking 10 = .ok (.aload_n 0, 1) ∧ decode cX8_lacking 11 = .ok (.iload_n 1, 1) ∧ decode cX8_lacking 12 = .ok (.iload_n 2, 1) ∧ decode cX8_lacking 13 = .ok (.invokevirtual 50, 3) ∧ decode cX8_lacking 16 = .ok (.ineg, 1) ∧ decode cX8_lacking 17 = .ok (.istore_n 3, 1) ∧ decode cX8_lacking 18 = .ok (.iconst 0, 1) ∧ decode cX8_lacking 19 = .ok (.istore 4, 2) ∧ decode cX8_lacking 21 = .ok (.iload 4, 2) ∧ decode cX8_lacking 23 = .ok (.aload_n 0, 1) ∧ decode cX8_lacking 24 = .ok (.getfield 7, 3) ∧ decode cX8_lacking 27 = .ok (.iconst 0, 1) ∧ decode cX8_lacking 28 = .ok (.iaload, 1) ∧ decode cX8_lacking 29 = .ok (.if_icmp .ge 102, 3) ∧ decode cX8_lacking 32 = .ok (.aload_n 0, 1) ∧ decode cX8_lacking 33 = .ok (.iload 4, 2) ∧ decode cX8_lacking 35 = .ok (.iconst 3, 1) ∧ decode cX8_lacking 36 = .ok (.invokevirtual 64, 3) ∧ decode cX8_lacking 39 = .ok (.iload_n 1, 1) ∧ decode cX8_lacking 40 = .ok (.if_icmp .ne 18, 3) ∧ decode cX8_lacking 43 = .ok (.aload_n 0, 1) ∧ decode cX8_lacking 44 = .ok (.iload 4, 2) ∧ decode cX8_lacking 46 = .ok (.iconst 4, 1) ∧ decode cX8_lacking 47 = .ok (.invokevirtual 64, 3) ∧ decode cX8_lacking 50 = .ok (.iload_n 2, 1) ∧ decode cX8_lacking 51 = .ok (.if_icmp .ne 7, 3) ∧ decode cX8_lacking 54 = .ok (.iconst 1, 1) ∧ decode cX8_lacking 55 = .ok (.goto 4, 3) ∧ decode cX8_lacking 58 = .ok (.iconst 0, 1) ∧ decode cX8_lacking 59 = .ok (.istore 5, 2) ∧ decode cX8_lacking 61 = .ok (.aload_n 0, 1) ∧ decode cX8_lacking 62 = .ok (.getfield 7, 3) ∧ decode cX8_lacking 65 = .ok (.iconst 5, 1) ∧ decode cX8_lacking 66 = .ok (.iaload, 1) ∧ True := dq_of (l := (0, .iload_n 1, 1) :: (1, .iload_n 2, 1) :: (2, .invokestatic 43, 3) :: (5, .ifCond .ne 5, 3) :: (8, .iconst (-1), 1) :: (9, .ireturn, 1) :: (10, .aload_n 0, 1) :: (11, .iload_n 1, 1) :: (12, .iload_n 2, 1) :: (13, .invokevirtual 50, 3) :: (16, .ineg, 1) :: (17, .istore_n 3, 1) :: (18, .iconst 0, 1) :: (19, .istore 4, 2) :: (21, .iload 4, 2) :: (23, .aload_n 0, 1) :: (24, .getfield 7, 3) :: (27, .iconst 0, 1) :: (28, .iaload, 1) :: (29, .if_icmp .ge 102, 3) :: (32, .aload_n 0, 1) :: (33, .iload 4, 2) :: (35, .iconst 3, 1) :: (36, .invokevirtual 64, 3) :: (39, .iload_n 1, 1) :: (40, .if_icmp .ne 18, 3) :: (43, .aload_n 0, 1) :: (44, .iload 4, 2) :: (46, .iconst 4, 1) :: (47, .invokevirtual 64, 3) :: (50, .iload_n 2, 1) :: (51, .if_icmp .ne 7, 3) :: (54, .iconst 1, 1) :: (55, .goto 4, 3) :: (58, .iconst 0, 1) :: (59, .istore 5, 2) :: (61, .aload_n 0, 1) :: (62, .getfield 7, 3) :: (65, .iconst 5, 1) :: (66, .iaload, 1) :: []) (by decide +kernel)
theorem e_X8_lacking_0 : decode cX8_lacking 0 = .ok (.iload_n 1, 1) := D_X8_lacking_0.1
theorem e_X8_lacking_1 : decode cX8_lacking 1 = .ok (.iload_n 2, 1) := D_X8_lacking_0.2.1
theorem e_X8_lacking_2 : decode cX8_lacking 2 = .ok (.invokestatic 43, 3) := D_X8_lacking_0.2.2.1
theorem e_X8_lacking_5 : decode cX8_lacking 5 = .ok (.ifCond .ne 5, 3) := D_X8_lacking_0.2.2.2.1
theorem e_X8_lacking_8 : decode cX8_lacking 8 = .ok (.iconst (-1), 1) := D_X8_lacking_0.2.2.2.2.1
theorem e_X8_lacking_9 : decode cX8_lacking 9 = .ok (.ireturn, 1) := D_X8_lacking_0.2.2.2.2.2.1
theorem e_X8_lacking_10 : decode cX8_lacking 10 = .ok (.aload_n 0, 1) := D_X8_lacking_0.2.2.2.2.2.2.1
theorem e_X8_lacking_11 : decode cX8_lacking 11 = .ok (.iload_n 1, 1) := D_X8_lacking_0.2.2.2.2.2.2.2.1
theorem e_X8_lacking_12 : decode cX8_lacking 12 = .ok (.iload_n 2, 1) := D_X8_lacking_0.2.2.2.2.2.2.2.2.1
theorem e_X8_lacking_13 : decode cX8_lacking 13 = .ok (.invokevirtual 50, 3) := D_X8_lacking_0.2.2.2.2.2.2.2.2.2.1
theorem e_X8_lacking_16 : decode cX8_lacking 16 = .ok (.ineg, 1) := D_X8_lacking_0.2.2.2.2.2.2.2.2.2.2.1
theorem e_X8_lacking_17 : decode cX8_lacking 17 = .ok (.istore_n 3, 1) := D_X8_lacking_0.2.2.2.2.2.2.2.2.2.2.2.1
theorem e_X8_lacking_18 : decode cX8_lacking 18 = .ok (.iconst 0, 1) := D_X8_lacking_0.2.2.2.2.2.2.2.2.2.2.2.2.1
theorem e_X8_lacking_19 : decode cX8_lacking 19 = .ok (.istore 4, 2) := D_X8_lacking_0.2.2.2.2.2.2.2.2.2.2.2.2.2.1
theorem e_X8_lacking_21 : decode cX8_lacking 21 = .ok (.iload 4, 2) := D_X8_lacking_0.2.2.2.2.2.2.2.2.2.2.2.2.2.2.1
theorem e_X8_lacking_23 : decode cX8_lacking 23 = .ok (.aload_n 0, 1) := D_X8_lacking_0.2.2.2.2.2.2.2.2.2.2.2.2.2.2.2.1
theorem e_X8_lacking_24 : decode cX8_lacking 24 = .ok (.getfield 7, 3) := D_X8_lacking_0.2.2.2.2.2.2.2.2.2.2.2.2.2.2.2.2.1
theorem e_X8_lacking_27 : decode cX8_lacking 27 = .ok (.iconst 0, 1) := D_X8_lacking_0.2.2.2.2.2.2.2.2.2.2.2.2.2.2.2.2.2.1
theorem e_X8_lacking_28 : decode cX8_lacking 28 = .ok (.iaload, 1) := D_X8_lacking_0.2.2.2.2.2.2.2.2.2.2.2.2.2.2.2.2.2.2.1
theorem e_X8_lacking_29 : decode cX8_lacking 29 = .ok (.if_icmp .ge 102, 3) := D_X8_lacking_0.2.2.2.2.2.2.2.2.2.2.2.2.2.2.2.2.2.2.2.1
theorem e_X8_lacking_32 : decode cX8_lacking 32 = .ok (.aload_n 0, 1) := D_X8_lacking_0.2.2.2.2.2.2.2.2.2.2.2.2.2.2.2.2.2.2.2.2.1
theorem e_X8_lacking_33 : decode cX8_lacking 33 = .ok (.iload 4, 2) := D_X8_lacking_0.2.2.2.2.2.2.2.2.2.2.2.2.2.2.2.2.2.2.2.2.2.1
theorem e_X8_lacking_35 : decode cX8_lacking 35 = .ok (.iconst 3, 1) := D_X8_lacking_0.2.2.2.2.2.2.2.2.2.2.2.2.2.2.2.2.2.2.2.2.2.2.1
theorem e_X8_lacking_36 : decode cX8_lacking 36 = .ok (.invokevirtual 64, 3) := D_X8_lacking_0.2.2.2.2.2.2.2.2.2.2.2.2.2.2.2.2.2.2.2.2.2.2.2.1
theorem e_X8_lacking_39 : decode cX8_lacking 39 = .ok (.iload_n 1, 1) := D_X8_lacking_0.2.2.2.2.2.2.2.2.2.2.2.2.2.2.2.2.2.2.2.2.2.2.2.2.1
theorem e_X8_lacking_40 : decode cX8_lacking 40 = .ok (.if_icmp .ne 18, 3) := D_X8_lacking_0.2.2.2.2.2.2.2.2.2.2.2.2.2.2.2.2.2.2.2.2.2.2.2.2.2.1
theorem e_X8_lacking_43 : decode cX8_lacking 43 = .ok (.aload_n 0, 1) := D_X8_lacking_0.2.2.2.2.2.2.2.2.2.2.2.2.2.2.2.2.2.2.2.2.2.2.2.2.2.2.1
theorem e_X8_lacking_44 : decode cX8_lacking 44 = .ok (.iload 4, 2) := D_X8_lacking_0.2.2.2.2.2.2.2.2.2.2.2.2.2.2.2.2.2.2.2.2.2.2.2.2.2.2.2.1
theorem e_X8_lacking_46 : decode cX8_lacking 46 = .ok (.iconst 4, 1) := D_X8_lacking_0.2.2.2.2.2.2.2.2.2.2.2.2.2.2.2.2.2.2.2.2.2.2.2.2.2.2.2.2.1
theorem e_X8_lacking_47 : decode cX8_lacking 47 = .ok (.invokevirtual 64, 3) := D_X8_lacking_0.2.2.2.2.2.2.2.2.2.2.2.2.2.2.2.2.2.2.2.2.2.2.2.2.2.2.2.2.2.1
theorem e_X8_lacking_50 : decode cX8_lacking 50 = .ok (.iload_n 2, 1) := D_X8_lacking_0.2.2.2.2.2.2.2.2.2.2.2.2.2.2.2.2.2.2.2.2.2.2.2.2.2.2.2.2.2.2.1
theorem e_X8_lacking_51 : decode cX8_lacking 51 = .ok (.if_icmp .ne 7, 3) := D_X8_lacking_0.2.2.2.2.2.2.2.2.2.2.2.2.2.2.2.2.2.2.2.2.2.2.2.2.2.2.2.2.2.2.2.1
theorem e_X8_lacking_54 : decode cX8_lacking 54 = .ok (.iconst 1, 1) := D_X8_lacking_0.2.2.2.2.2.2.2.2.2.2.2.2.2.2.2.2.2.2.2.2.2.2.2.2.2.2.2.2.2.2.2.2.1
theorem e_X8_lacking_55 : decode cX8_lacking 55 = .ok (.goto 4, 3) := D_X8_lacking_0.2.2.2.2.2.2.2.2.2.2.2.2.2.2.2.2.2.2.2.2.2.2.2.2.2.2.2.2.2.2.2.2.2.1
theorem e_X8_lacking_58 : decode cX8_lacking 58 = .ok (.iconst 0, 1) := D_X8_lacking_0.2.2.2.2.2.2.2.2.2.2.2.2.2.2.2.2.2.2.2.2.2.2.2.2.2.2.2.2.2.2.2.2.2.2.1
theorem e_X8_lacking_59 : decode cX8_lacking 59 = .ok (.istore 5, 2) := D_X8_lacking_0.2.2.2.2.2.2.2.2.2.2.2.2.2.2.2.2.2.2.2.2.2.2.2.2.2.2.2.2.2.2.2.2.2.2.2.1
theorem e_X8_lacking_61 : decode cX8_lacking 61 = .ok (.aload_n 0, 1) := D_X8_lacking_0.2.2.2.2.2.2.2.2.2.2.2.2.2.2.2.2.2.2.2.2.2.2.2.2.2.2.2.2.2.2.2.2.2.2.2.2.1
theorem e_X8_lacking_62 : decode cX8_lacking 62 = .ok (.getfield 7, 3) := D_X8_lacking_0.2.2.2.2.2.2.2.2.2.2.2.2.2.2.2.2.2.2.2.2.2.2.2.2.2.2.2.2.2.2.2.2.2.2.2.2.2.1
theorem e_X8_lacking_65 : decode cX8_lacking 65 = .ok (.iconst 5, 1) := D_X8_lacking_0.2.2.2.2.2.2.2.2.2.2.2.2.2.2.2.2.2.2.2.2.2.2.2.2.2.2.2.2.2.2.2.2.2.2.2.2.2.2.1
theorem e_X8_lacking_66 : decode cX8_lacking 66 = .ok (.iaload, 1) := D_X8_lacking_0.2.2.2.2.2.2.2.2.2.2.2.2.2.2.2.2.2.2.2.2.2.2.2.2.2.2.2.2.2.2.2.2.2.2.2.2.2.2.2.1
set_option maxRecDepth 100000 in
theorem D_X8_lacking_1 : decode cX8_lacking 67 = .ok (.iconst 1, 1) ∧ decode cX8_lacking 68 = .ok (.if_icmp .ne 24, 3) ∧ decode cX8_lacking 71 = .ok (.aload_n 0, 1) ∧ decode cX8_lacking 72 = .ok (.getfield 7, 3) ∧ decode cX8_lacking 75 = .ok (.bipush 6, 2) ∧ decode cX8_lacking 77 = .ok (.iaload, 1) ∧ decode cX8_lacking 78 = .ok (.aload_n 0, 1) ∧ decode cX8_lacking 79 = .ok (.iload 4, 2) ∧ decode cX8_lacking 81 = .ok (.iconst 0, 1) ∧ decode cX8_lacking 82 = .ok (.invokevirtual 64, 3) ∧ decode cX8_lacking 85 = .ok (.if_icmp .ne 7, 3) ∧ decode cX8_lacking 88 = .ok (.iconst 1, 1) ∧ decode cX8_lacking 89 = .ok (.goto 4, 3) ∧ decode cX8_lacking 92 = .ok (.iconst 0, 1) ∧ decode cX8_lacking 93 = .ok (.istore 6, 2) ∧ decode cX8_lacking 95 = .ok (.iload_n 3, 1) ∧ decode cX8_lacking 96 = .ok (.iload 5, 2) ∧ decode cX8_lacking 98 = .ok (.ifCond .eq 24, 3) ∧ decode cX8_lacking 101 = .ok (.aload_n 0, 1) ∧ decode cX8_lacking 102 = .ok (.iload 4, 2) ∧ decode cX8_lacking 104 = .ok (.invokevirtual 103, 3) ∧ decode cX8_lacking 107 = .ok (.aload_n 0, 1) ∧ decode cX8_lacking 108 = .ok (.iload 4, 2) ∧ decode cX8_lacking 110 = .ok (.bipush 8, 2) ∧ decode cX8_lacking 112 = .ok (.invokevirtual 64, 3) ∧ decode cX8_lacking 115 = .ok (.isub, 1) ∧ decode cX8_lacking 116 = .ok (.iload 6, 2) ∧ decode cX8_lacking 118 = .ok (.isub, 1) ∧ decode cX8_lacking 119 = .ok (.goto 4, 3) ∧ decode cX8_lacking 122 = .ok (.iconst 0, 1) ∧ decode cX8_lacking 123 = .ok (.iadd, 1) ∧ decode cX8_lacking 124 = .ok (.istore_n 3, 1) ∧ decode cX8_lacking 125 = .ok (.iinc 4 1, 3) ∧ decode cX8_lacking 128 = .ok (.goto (-107), 3) ∧ decode cX8_lacking 131 = .ok (.iload_n 3, 1) ∧ decode cX8_lacking 132 = .ok (.ifCond .ge 7, 3) ∧ decode cX8_lacking 135 = .ok (.iconst 0, 1) ∧ decode cX8_lacking 136 = .ok (.goto 4, 3) ∧ decode cX8_lacking 139 = .ok (.iload_n 3, 1) ∧ decode cX8_lacking 140 = .ok (.ireturn, 1) ∧ True := dq_of (l := (67, .iconst 1, 1) :: (68, .if_icmp .ne 24, 3) :: (71, .aload_n 0, 1) :: (72, .getfield 7, 3) :: (75, .bipush 6, 2) :: (77, .iaload, 1) :: (78, .aload_n 0, 1) :: (79, .iload 4, 2) :: (81, .iconst 0, 1) :: (82, .invokevirtual 64, 3) :: (85, .if_icmp .ne 7, 3) :: (88, .iconst 1, 1) :: (89, .goto 4, 3) :: (92, .iconst 0, 1) :: (93, .istore 6, 2) :: (95, .iload_n 3, 1) :: (96, .iload 5, 2) :: (98, .ifCond .eq 24, 3) :: (101, .aload_n 0, 1) :: (102, .iload 4, 2) :: (104, .invokevirtual 103, 3) :: (107, .aload_n 0, 1) :: (108, .iload 4, 2) :: (110, .bipush 8, 2) :: (112, .invokevirtual 64, 3) :: (115, .isub, 1) :: (116, .iload 6, 2) :: (118, .isub, 1) :: (119, .goto 4, 3) :: (122, .iconst 0, 1) :: (123, .iadd, 1) :: (124, .istore_n 3, 1) :: (125, .iinc 4 1, 3) :: (128, .goto (-107), 3) :: (131, .iload_n 3, 1) :: (132, .ifCond .ge 7, 3) :: (135, .iconst 0, 1) :: (136, .goto 4, 3) :: (139, .iload_n 3, 1) :: (140, .ireturn, 1) :: []) (by decide +kernel)
theorem e_X8_lacking_67 : decode cX8_lacking 67 = .ok (.iconst 1, 1) := D_X8_lacking_1.1
theorem e_X8_lacking_68 : decode cX8_lacking 68 = .ok (.if_icmp .ne 24, 3) := D_X8_lacking_1.2.1
theorem e_X8_lacking_71 : decode cX8_lacking 71 = .ok (.aload_n 0, 1) := D_X8_lacking_1.2.2.1
theorem e_X8_lacking_72 : decode cX8_lacking 72 = .ok (.getfield 7, 3) := D_X8_lacking_1.2.2.2.1
theorem e_X8_lacking_75 : decode cX8_lacking 75 = .ok (.bipush 6, 2) := D_X8_lacking_1.2.2.2.2.1
theorem e_X8_lacking_77 : decode cX8_lacking 77 = .ok (.iaload, 1) := D_X8_lacking_1.2.2.2.2.2.1
theorem e_X8_lacking_78 : decode cX8_lacking 78 = .ok (.aload_n 0, 1) := D_X8_lacking_1.2.2.2.2.2.2.1
theorem e_X8_lacking_79 : decode cX8_lacking 79 = .ok (.iload 4, 2) := D_X8_lacking_1.2.2.2.2.2.2.2.1
theorem e_X8_lacking_81 : decode cX8_lacking 81 = .ok (.iconst 0, 1) := D_X8_lacking_1.2.2.2.2.2.2.2.2.1
theorem e_X8_lacking_82 : decode cX8_lacking 82 = .ok (.invokevirtual 64, 3) := D_X8_lacking_1.2.2.2.2.2.2.2.2.2.1
theorem e_X8_lacking_85 : decode cX8_lacking 85 = .ok (.if_icmp .ne 7, 3) := D_X8_lacking_1.2.2.2.2.2.2.2.2.2.2.1
theorem e_X8_lacking_88 : decode cX8_lacking 88 = .ok (.iconst 1, 1) := D_X8_lacking_1.2.2.2.2.2.2.2.2.2.2.2.1
theorem e_X8_lacking_89 : decode cX8_lacking 89 = .ok (.goto 4, 3) := D_X8_lacking_1.2.2.2.2.2.2.2.2.2.2.2.2.1
theorem e_X8_lacking_92 : decode cX8_lacking 92 = .ok (.iconst 0, 1) := D_X8_lacking_1.2.2.2.2.2.2.2.2.2.2.2.2.2.1
theorem e_X8_lacking_93 : decode cX8_lacking 93 = .ok (.istore 6, 2) := D_X8_lacking_1.2.2.2.2.2.2.2.2.2.2.2.2.2.2.1
theorem e_X8_lacking_95 : decode cX8_lacking 95 = .ok (.iload_n 3, 1) := D_X8_lacking_1.2.2.2.2.2.2.2.2.2.2.2.2.2.2.2.1
theorem e_X8_lacking_96 : decode cX8_lacking 96 = .ok (.iload 5, 2) := D_X8_lacking_1.2.2.2.2.2.2.2.2.2.2.2.2.2.2.2.2.1
theorem e_X8_lacking_98 : decode cX8_lacking 98 = .ok (.ifCond .eq 24, 3) := D_X8_lacking_1.2.2.2.2.2.2.2.2.2.2.2.2.2.2.2.2.2.1
theorem e_X8_lacking_101 : decode cX8_lacking 101 = .ok (.aload_n 0, 1) := D_X8_lacking_1.2.2.2.2.2.2.2.2.2.2.2.2.2.2.2.2.2.2.1
theorem e_X8_lacking_102 : decode cX8_lacking 102 = .ok (.iload 4, 2) := D_X8_lacking_1.2.2.2.2.2.2.2.2.2.2.2.2.2.2.2.2.2.2.2.1
theorem e_X8_lacking_104 : decode cX8_lacking 104 = .ok (.invokevirtual 103, 3) := D_X8_lacking_1.2.2.2.2.2.2.2.2.2.2.2.2.2.2.2.2.2.2.2.2.1
theorem e_X8_lacking_107 : decode cX8_lacking 107 = .ok (.aload_n 0, 1) := D_X8_lacking_1.2.2.2.2.2.2.2.2.2.2.2.2.2.2.2.2.2.2.2.2.2.1
theorem e_X8_lacking_108 : decode cX8_lacking 108 = .ok (.iload 4, 2) := D_X8_lacking_1.2.2.2.2.2.2.2.2.2.2.2.2.2.2.2.2.2.2.2.2.2.2.1
theorem e_X8_lacking_110 : decode cX8_lacking 110 = .ok (.bipush 8, 2) := D_X8_lacking_1.2.2.2.2.2.2.2.2.2.2.2.2.2.2.2.2.2.2.2.2.2.2.2.1
theorem e_X8_lacking_112 : decode cX8_lacking 112 = .ok (.invokevirtual 64, 3) := D_X8_lacking_1.2.2.2.2.2.2.2.2.2.2.2.2.2.2.2.2.2.2.2.2.2.2.2.2.1
theorem e_X8_lacking_115 : decode cX8_lacking 115 = .ok (.isub, 1) := D_X8_lacking_1.2.2.2.2.2.2.2.2.2.2.2.2.2.2.2.2.2.2.2.2.2.2.2.2.2.1
theorem e_X8_lacking_116 : decode cX8_lacking 116 = .ok (.iload 6, 2) := D_X8_lacking_1.2.2.2.2.2.2.2.2.2.2.2.2.2.2.2.2.2.2.2.2.2.2.2.2.2.2.1
theorem e_X8_lacking_118 : decode cX8_lacking 118 = .ok (.isub, 1) := D_X8_lacking_1.2.2.2.2.2.2.2.2.2.2.2.2.2.2.2.2.2.2.2.2.2.2.2.2.2.2.2.1
theorem e_X8_lacking_119 : decode cX8_lacking 119 = .ok (.goto 4, 3) := D_X8_lacking_1.2.2.2.2.2.2.2.2.2.2.2.2.2.2.2.2.2.2.2.2.2.2.2.2.2.2.2.2.1
theorem e_X8_lacking_122 : decode cX8_lacking 122 = .ok (.iconst 0, 1) := D_X8_lacking_1.2.2.2.2.2.2.2.2.2.2.2.2.2.2.2.2.2.2.2.2.2.2.2.2.2.2.2.2.2.1
theorem e_X8_lacking_123 : decode cX8_lacking 123 = .ok (.iadd, 1) := D_X8_lacking_1.2.2.2.2.2.2.2.2.2.2.2.2.2.2.2.2.2.2.2.2.2.2.2.2.2.2.2.2.2.2.1
theorem e_X8_lacking_124 : decode cX8_lacking 124 = .ok (.istore_n 3, 1) := D_X8_lacking_1.2.2.2.2.2.2.2.2.2.2.2.2.2.2.2.2.2.2.2.2.2.2.2.2.2.2.2.2.2.2.2.1
theorem e_X8_lacking_125 : decode cX8_lacking 125 = .ok (.iinc 4 1, 3) := D_X8_lacking_1.2.2.2.2.2.2.2.2.2.2.2.2.2.2.2.2.2.2.2.2.2.2.2.2.2.2.2.2.2.2.2.2.1
theorem e_X8_lacking_128 : decode cX8_lacking 128 = .ok (.goto (-107), 3) := D_X8_lacking_1.2.2.2.2.2.2.2.2.2.2.2.2.2.2.2.2.2.2.2.2.2.2.2.2.2.2.2.2.2.2.2.2.2.1
theorem e_X8_lacking_131 : decode cX8_lacking 131 = .ok (.iload_n 3, 1) := D_X8_lacking_1.2.2.2.2.2.2.2.2.2.2.2.2.2.2.2.2.2.2.2.2.2.2.2.2.2.2.2.2.2.2.2.2.2.2.1
theorem e_X8_lacking_132 : decode cX8_lacking 132 = .ok (.ifCond .ge 7, 3) := D_X8_lacking_1.2.2.2.2.2.2.2.2.2.2.2.2.2.2.2.2.2.2.2.2.2.2.2.2.2.2.2.2.2.2.2.2.2.2.2.1
theorem e_X8_lacking_135 : decode cX8_lacking 135 = .ok (.iconst 0, 1) := D_X8_lacking_1.2.2.2.2.2.2.2.2.2.2.2.2.2.2.2.2.2.2.2.2.2.2.2.2.2.2.2.2.2.2.2.2.2.2.2.2.1
theorem e_X8_lacking_136 : decode cX8_lacking 136 = .ok (.goto 4, 3) := D_X8_lacking_1.2.2.2.2.2.2.2.2.2.2.2.2.2.2.2.2.2.2.2.2.2.2.2.2.2.2.2.2.2.2.2.2.2.2.2.2.2.1
theorem e_X8_lacking_139 : decode cX8_lacking 139 = .ok (.iload_n 3, 1) := D_X8_lacking_1.2.2.2.2.2.2.2.2.2.2.2.2.2.2.2.2.2.2.2.2.2.2.2.2.2.2.2.2.2.2.2.2.2.2.2.2.2.2.1
theorem e_X8_lacking_140 : decode cX8_lacking 140 = .ok (.ireturn, 1) := D_X8_lacking_1.2.2.2.2.2.2.2.2.2.2.2.2.2.2.2.2.2.2.2.2.2.2.2.2.2.2.2.2.2.2.2.2.2.2.2.2.2.2.2.1
set_option maxRecDepth 100000 in
theorem D_X8_ticksTo_0 : decode cX8_ticksTo 0 = .ok (.iload_n 1, 1) ∧ decode cX8_ticksTo 1 = .ok (.ifCond .ge 5, 3) ∧ decode cX8_ticksTo 4 = .ok (.iconst (-1), 1) ∧ decode cX8_ticksTo 5 = .ok (.ireturn, 1) ∧ decode cX8_ticksTo 6 = .ok (.aload_n 0, 1) ∧ decode cX8_ticksTo 7 = .ok (.iload_n 1, 1) ∧ decode cX8_ticksTo 8 = .ok (.invokevirtual 87, 3) ∧ decode cX8_ticksTo 11 = .ok (.ifCond .ge 6, 3) ∧ decode cX8_ticksTo 14 = .ok (.bipush (-4), 2) ∧ decode cX8_ticksTo 16 = .ok (.ireturn, 1) ∧ decode cX8_ticksTo 17 = .ok (.aload_n 0, 1) ∧ decode cX8_ticksTo 18 = .ok (.invokevirtual 157, 3) ∧ decode cX8_ticksTo 21 = .ok (.iconst 0, 1) ∧ decode cX8_ticksTo 22 = .ok (.istore_n 2, 1) ∧ decode cX8_ticksTo 23 = .ok (.iload_n 2, 1) ∧ decode cX8_ticksTo 24 = .ok (.sipush 20000, 3) ∧ decode cX8_ticksTo 27 = .ok (.if_icmp .ge 57, 3) ∧ decode cX8_ticksTo 30 = .ok (.aload_n 0, 1) ∧ decode cX8_ticksTo 31 = .ok (.iload_n 1, 1) ∧ decode cX8_ticksTo 32 = .ok (.invokevirtual 87, 3) ∧ decode cX8_ticksTo 35 = .ok (.ifCond .lt 49, 3) ∧ decode cX8_ticksTo 38 = .ok (.aload_n 0, 1) ∧ decode cX8_ticksTo 39 = .ok (.getfield 7, 3) ∧ decode cX8_ticksTo 42 = .ok (.iconst 5, 1) ∧ decode cX8_ticksTo 43 = .ok (.iaload, 1) ∧ decode cX8_ticksTo 44 = .ok (.ifCond .ne 10, 3) ∧ decode cX8_ticksTo 47 = .ok (.aload_n 0, 1) ∧ decode cX8_ticksTo 48 = .ok (.invokevirtual 151, 3) ∧ decode cX8_ticksTo 51 = .ok (.goto 4, 3) ∧ decode cX8_ticksTo 54 = .ok (.iconst 0, 1) ∧ decode cX8_ticksTo 55 = .ok (.istore_n 3, 1) ∧ decode cX8_ticksTo 56 = .ok (.iload_n 2, 1) ∧ decode cX8_ticksTo 57 = .ok (.aload_n 0, 1) ∧ decode cX8_ticksTo 58 = .ok (.iload_n 1, 1) ∧ decode cX8_ticksTo 59 = .ok (.invokevirtual 87, 3) ∧ decode cX8_ticksTo 62 = .ok (.ifCond .ge 7, 3) ∧ decode cX8_ticksTo 65 = .ok (.iconst 1, 1) ∧ decode cX8_ticksTo 66 = .ok (.goto 13, 3) ∧ decode cX8_ticksTo 69 = .ok (.aload_n 0, 1) ∧ decode cX8_ticksTo 70 = .ok (.iload_n 3, 1) ∧ True := dq_of (l := (0, .iload_n 1, 1) :: (1, .ifCond .ge 5, 3) :: (4, .iconst (-1), 1) :: (5, .ireturn, 1) :: (6, .aload_n 0, 1) :: (7, .iload_n 1, 1) :: (8, .invokevirtual 87, 3) :: (11, .ifCond .ge 6, 3) :: (14, .bipush (-4), 2) :: (16, .ireturn, 1) :: (17, .aload_n 0, 1) :: (18, .invokevirtual 157, 3) :: (21, .iconst 0, 1) :: (22, .istore_n 2, 1) :: (23, .iload_n 2, 1) :: (24, .sipush 20000, 3) :: (27, .if_icmp .ge 57, 3) :: (30, .aload_n 0, 1) :: (31, .iload_n 1, 1) :: (32, .invokevirtual 87, 3) :: (35, .ifCond .lt 49, 3) :: (38, .aload_n 0, 1) :: (39, .getfield 7, 3) :: (42, .iconst 5, 1) :: (43, .iaload, 1) :: (44, .ifCond .ne 10, 3) :: (47, .aload_n 0, 1) :: (48, .invokevirtual 151, 3) :: (51, .goto 4, 3) :: (54, .iconst 0, 1) :: (55, .istore_n 3, 1) :: (56, .iload_n 2, 1) :: (57, .aload_n 0, 1) :: (58, .iload_n 1, 1) :: (59, .invokevirtual 87, 3) :: (62, .ifCond .ge 7, 3) :: (65, .iconst 1, 1) :: (66, .goto 13, 3) :: (69, .aload_n 0, 1) :: (70, .iload_n 3, 1) :: []) (by decide +kernel)
theorem e_X8_ticksTo_0 : decode cX8_ticksTo 0 = .ok (.iload_n 1, 1) := D_X8_ticksTo_0.1
theorem e_X8_ticksTo_1 : decode cX8_ticksTo 1 = .ok (.ifCond .ge 5, 3) := D_X8_ticksTo_0.2.1
theorem e_X8_ticksTo_4 : decode cX8_ticksTo 4 = .ok (.iconst (-1), 1) := D_X8_ticksTo_0.2.2.1
theorem e_X8_ticksTo_5 : decode cX8_ticksTo 5 = .ok (.ireturn, 1) := D_X8_ticksTo_0.2.2.2.1
theorem e_X8_ticksTo_6 : decode cX8_ticksTo 6 = .ok (.aload_n 0, 1) := D_X8_ticksTo_0.2.2.2.2.1
theorem e_X8_ticksTo_7 : decode cX8_ticksTo 7 = .ok (.iload_n 1, 1) := D_X8_ticksTo_0.2.2.2.2.2.1
theorem e_X8_ticksTo_8 : decode cX8_ticksTo 8 = .ok (.invokevirtual 87, 3) := D_X8_ticksTo_0.2.2.2.2.2.2.1
theorem e_X8_ticksTo_11 : decode cX8_ticksTo 11 = .ok (.ifCond .ge 6, 3) := D_X8_ticksTo_0.2.2.2.2.2.2.2.1
theorem e_X8_ticksTo_14 : decode cX8_ticksTo 14 = .ok (.bipush (-4), 2) := D_X8_ticksTo_0.2.2.2.2.2.2.2.2.1
theorem e_X8_ticksTo_16 : decode cX8_ticksTo 16 = .ok (.ireturn, 1) := D_X8_ticksTo_0.2.2.2.2.2.2.2.2.2.1
theorem e_X8_ticksTo_17 : decode cX8_ticksTo 17 = .ok (.aload_n 0, 1) := D_X8_ticksTo_0.2.2.2.2.2.2.2.2.2.2.1
theorem e_X8_ticksTo_18 : decode cX8_ticksTo 18 = .ok (.invokevirtual 157, 3) := D_X8_ticksTo_0.2.2.2.2.2.2.2.2.2.2.2.1
theorem e_X8_ticksTo_21 : decode cX8_ticksTo 21 = .ok (.iconst 0, 1) := D_X8_ticksTo_0.2.2.2.2.2.2.2.2.2.2.2.2.1
theorem e_X8_ticksTo_22 : decode cX8_ticksTo 22 = .ok (.istore_n 2, 1) := D_X8_ticksTo_0.2.2.2.2.2.2.2.2.2.2.2.2.2.1
theorem e_X8_ticksTo_23 : decode cX8_ticksTo 23 = .ok (.iload_n 2, 1) := D_X8_ticksTo_0.2.2.2.2.2.2.2.2.2.2.2.2.2.2.1
theorem e_X8_ticksTo_24 : decode cX8_ticksTo 24 = .ok (.sipush 20000, 3) := D_X8_ticksTo_0.2.2.2.2.2.2.2.2.2.2.2.2.2.2.2.1
theorem e_X8_ticksTo_27 : decode cX8_ticksTo 27 = .ok (.if_icmp .ge 57, 3) := D_X8_ticksTo_0.2.2.2.2.2.2.2.2.2.2.2.2.2.2.2.2.1
theorem e_X8_ticksTo_30 : decode cX8_ticksTo 30 = .ok (.aload_n 0, 1) := D_X8_ticksTo_0.2.2.2.2.2.2.2.2.2.2.2.2.2.2.2.2.2.1
theorem e_X8_ticksTo_31 : decode cX8_ticksTo 31 = .ok (.iload_n 1, 1) := D_X8_ticksTo_0.2.2.2.2.2.2.2.2.2.2.2.2.2.2.2.2.2.2.1
theorem e_X8_ticksTo_32 : decode cX8_ticksTo 32 = .ok (.invokevirtual 87, 3) := D_X8_ticksTo_0.2.2.2.2.2.2.2.2.2.2.2.2.2.2.2.2.2.2.2.1
theorem e_X8_ticksTo_35 : decode cX8_ticksTo 35 = .ok (.ifCond .lt 49, 3) := D_X8_ticksTo_0.2.2.2.2.2.2.2.2.2.2.2.2.2.2.2.2.2.2.2.2.1
theorem e_X8_ticksTo_38 : decode cX8_ticksTo 38 = .ok (.aload_n 0, 1) := D_X8_ticksTo_0.2.2.2.2.2.2.2.2.2.2.2.2.2.2.2.2.2.2.2.2.2.1
theorem e_X8_ticksTo_39 : decode cX8_ticksTo 39 = .ok (.getfield 7, 3) := D_X8_ticksTo_0.2.2.2.2.2.2.2.2.2.2.2.2.2.2.2.2.2.2.2.2.2.2.1
theorem e_X8_ticksTo_42 : decode cX8_ticksTo 42 = .ok (.iconst 5, 1) := D_X8_ticksTo_0.2.2.2.2.2.2.2.2.2.2.2.2.2.2.2.2.2.2.2.2.2.2.2.1
theorem e_X8_ticksTo_43 : decode cX8_ticksTo 43 = .ok (.iaload, 1) := D_X8_ticksTo_0.2.2.2.2.2.2.2.2.2.2.2.2.2.2.2.2.2.2.2.2.2.2.2.2.1
theorem e_X8_ticksTo_44 : decode cX8_ticksTo 44 = .ok (.ifCond .ne 10, 3) := D_X8_ticksTo_0.2.2.2.2.2.2.2.2.2.2.2.2.2.2.2.2.2.2.2.2.2.2.2.2.2.1
theorem e_X8_ticksTo_47 : decode cX8_ticksTo 47 = .ok (.aload_n 0, 1) := D_X8_ticksTo_0.2.2.2.2.2.2.2.2.2.2.2.2.2.2.2.2.2.2.2.2.2.2.2.2.2.2.1
theorem e_X8_ticksTo_48 : decode cX8_ticksTo 48 = .ok (.invokevirtual 151, 3) := D_X8_ticksTo_0.2.2.2.2.2.2.2.2.2.2.2.2.2.2.2.2.2.2.2.2.2.2.2.2.2.2.2.1
theorem e_X8_ticksTo_51 : decode cX8_ticksTo 51 = .ok (.goto 4, 3) := D_X8_ticksTo_0.2.2.2.2.2.2.2.2.2.2.2.2.2.2.2.2.2.2.2.2.2.2.2.2.2.2.2.2.1
theorem e_X8_ticksTo_54 : decode cX8_ticksTo 54 = .ok (.iconst 0, 1) := D_X8_ticksTo_0.2.2.2.2.2.2.2.2.2.2.2.2.2.2.2.2.2.2.2.2.2.2.2.2.2.2.2.2.2.1
theorem e_X8_ticksTo_55 : decode cX8_ticksTo 55 = .ok (.istore_n 3, 1) := D_X8_ticksTo_0.2.2.2.2.2.2.2.2.2.2.2.2.2.2.2.2.2.2.2.2.2.2.2.2.2.2.2.2.2.2.1
theorem e_X8_ticksTo_56 : decode cX8_ticksTo 56 = .ok (.iload_n 2, 1) := D_X8_ticksTo_0.2.2.2.2.2.2.2.2.2.2.2.2.2.2.2.2.2.2.2.2.2.2.2.2.2.2.2.2.2.2.2.1
theorem e_X8_ticksTo_57 : decode cX8_ticksTo 57 = .ok (.aload_n 0, 1) := D_X8_ticksTo_0.2.2.2.2.2.2.2.2.2.2.2.2.2.2.2.2.2.2.2.2.2.2.2.2.2.2.2.2.2.2.2.2.1
theorem e_X8_ticksTo_58 : decode cX8_ticksTo 58 = .ok (.iload_n 1, 1) := D_X8_ticksTo_0.2.2.2.2.2.2.2.2.2.2.2.2.2.2.2.2.2.2.2.2.2.2.2.2.2.2.2.2.2.2.2.2.2.1
theorem e_X8_ticksTo_59 : decode cX8_ticksTo 59 = .ok (.invokevirtual 87, 3) := D_X8_ticksTo_0.2.2.2.2.2.2.2.2.2.2.2.2.2.2.2.2.2.2.2.2.2.2.2.2.2.2.2.2.2.2.2.2.2.2.1
theorem e_X8_ticksTo_62 : decode cX8_ticksTo 62 = .ok (.ifCond .ge 7, 3) := D_X8_ticksTo_0.2.2.2.2.2.2.2.2.2.2.2.2.2.2.2.2.2.2.2.2.2.2.2.2.2.2.2.2.2.2.2.2.2.2.2.1
theorem e_X8_ticksTo_65 : decode cX8_ticksTo 65 = .ok (.iconst 1, 1) := D_X8_ticksTo_0.2.2.2.2.2.2.2.2.2.2.2.2.2.2.2.2.2.2.2.2.2.2.2.2.2.2.2.2.2.2.2.2.2.2.2.2.1
theorem e_X8_ticksTo_66 : decode cX8_ticksTo 66 = .ok (.goto 13, 3) := D_X8_ticksTo_0.2.2.2.2.2.2.2.2.2.2.2.2.2.2.2.2.2.2.2.2.2.2.2.2.2.2.2.2.2.2.2.2.2.2.2.2.2.1
theorem e_X8_ticksTo_69 : decode cX8_ticksTo 69 = .ok (.aload_n 0, 1) := D_X8_ticksTo_0.2.2.2.2.2.2.2.2.2.2.2.2.2.2.2.2.2.2.2.2.2.2.2.2.2.2.2.2.2.2.2.2.2.2.2.2.2.2.1
theorem e_X8_ticksTo_70 : decode cX8_ticksTo 70 = .ok (.iload_n 3, 1) := D_X8_ticksTo_0.2.2.2.2.2.2.2.2.2.2.2.2.2.2.2.2.2.2.2.2.2.2.2.2.2.2.2.2.2.2.2.2.2.2.2.2.2.2.2.1
set_option maxRecDepth 100000 in
theorem D_X8_ticksTo_1 : decode cX8_ticksTo 71 = .ok (.sipush 20000, 3) ∧ decode cX8_ticksTo 74 = .ok (.iload_n 2, 1) ∧ decode cX8_ticksTo 75 = .ok (.isub, 1) ∧ decode cX8_ticksTo 76 = .ok (.invokevirtual 154, 3) ∧ decode cX8_ticksTo 79 = .ok (.iadd, 1) ∧ decode cX8_ticksTo 80 = .ok (.istore_n 2, 1) ∧ decode cX8_ticksTo 81 = .ok (.goto (-58), 3) ∧ decode cX8_ticksTo 84 = .ok (.aload_n 0, 1) ∧ decode cX8_ticksTo 85 = .ok (.iload_n 1, 1) ∧ decode cX8_ticksTo 86 = .ok (.invokevirtual 87, 3) ∧ decode cX8_ticksTo 89 = .ok (.ifCond .ge 7, 3) ∧ decode cX8_ticksTo 92 = .ok (.iconst 1, 1) ∧ decode cX8_ticksTo 93 = .ok (.goto 4, 3) ∧ decode cX8_ticksTo 96 = .ok (.iconst 0, 1) ∧ decode cX8_ticksTo 97 = .ok (.istore_n 3, 1) ∧ decode cX8_ticksTo 98 = .ok (.aload_n 0, 1) ∧ decode cX8_ticksTo 99 = .ok (.invokevirtual 160, 3) ∧ decode cX8_ticksTo 102 = .ok (.iload_n 3, 1) ∧ decode cX8_ticksTo 103 = .ok (.ifCond .eq 7, 3) ∧ decode cX8_ticksTo 106 = .ok (.iload_n 2, 1) ∧ decode cX8_ticksTo 107 = .ok (.goto 5, 3) ∧ decode cX8_ticksTo 110 = .ok (.bipush (-4), 2) ∧ decode cX8_ticksTo 112 = .ok (.ireturn, 1) ∧ True := dq_of (l := (71, .sipush 20000, 3) :: (74, .iload_n 2, 1) :: (75, .isub, 1) :: (76, .invokevirtual 154, 3) :: (79, .iadd, 1) :: (80, .istore_n 2, 1) :: (81, .goto (-58), 3) :: (84, .aload_n 0, 1) :: (85, .iload_n 1, 1) :: (86, .invokevirtual 87, 3) :: (89, .ifCond .ge 7, 3) :: (92, .iconst 1, 1) :: (93, .goto 4, 3) :: (96, .iconst 0, 1) :: (97, .istore_n 3, 1) :: (98, .aload_n 0, 1) :: (99, .invokevirtual 160, 3) :: (102, .iload_n 3, 1) :: (103, .ifCond .eq 7, 3) :: (106, .iload_n 2, 1) :: (107, .goto 5, 3) :: (110, .bipush (-4), 2) :: (112, .ireturn, 1) :: []) (by decide +kernel)
theorem e_X8_ticksTo_71 : decode cX8_ticksTo 71 = .ok (.sipush 20000, 3) := D_X8_ticksTo_1.1
theorem e_X8_ticksTo_74 : decode cX8_ticksTo 74 = .ok (.iload_n 2, 1) := D_X8_ticksTo_1.2.1
theorem e_X8_ticksTo_75 : decode cX8_ticksTo 75 = .ok (.isub, 1) := D_X8_ticksTo_1.2.2.1
theorem e_X8_ticksTo_76 : decode cX8_ticksTo 76 = .ok (.invokevirtual 154, 3) := D_X8_ticksTo_1.2.2.2.1
theorem e_X8_ticksTo_79 : decode cX8_ticksTo 79 = .ok (.iadd, 1) := D_X8_ticksTo_1.2.2.2.2.1
theorem e_X8_ticksTo_80 : decode cX8_ticksTo 80 = .ok (.istore_n 2, 1) := D_X8_ticksTo_1.2.2.2.2.2.1
theorem e_X8_ticksTo_81 : decode cX8_ticksTo 81 = .ok (.goto (-58), 3) := D_X8_ticksTo_1.2.2.2.2.2.2.1
theorem e_X8_ticksTo_84 : decode cX8_ticksTo 84 = .ok (.aload_n 0, 1) := D_X8_ticksTo_1.2.2.2.2.2.2.2.1
theorem e_X8_ticksTo_85 : decode cX8_ticksTo 85 = .ok (.iload_n 1, 1) := D_X8_ticksTo_1.2.2.2.2.2.2.2.2.1
theorem e_X8_ticksTo_86 : decode cX8_ticksTo 86 = .ok (.invokevirtual 87, 3) := D_X8_ticksTo_1.2.2.2.2.2.2.2.2.2.1
theorem e_X8_ticksTo_89 : decode cX8_ticksTo 89 = .ok (.ifCond .ge 7, 3) := D_X8_ticksTo_1.2.2.2.2.2.2.2.2.2.2.1
theorem e_X8_ticksTo_92 : decode cX8_ticksTo 92 = .ok (.iconst 1, 1) := D_X8_ticksTo_1.2.2.2.2.2.2.2.2.2.2.2.1
theorem e_X8_ticksTo_93 : decode cX8_ticksTo 93 = .ok (.goto 4, 3) := D_X8_ticksTo_1.2.2.2.2.2.2.2.2.2.2.2.2.1
theorem e_X8_ticksTo_96 : decode cX8_ticksTo 96 = .ok (.iconst 0, 1) := D_X8_ticksTo_1.2.2.2.2.2.2.2.2.2.2.2.2.2.1
theorem e_X8_ticksTo_97 : decode cX8_ticksTo 97 = .ok (.istore_n 3, 1) := D_X8_ticksTo_1.2.2.2.2.2.2.2.2.2.2.2.2.2.2.1
theorem e_X8_ticksTo_98 : decode cX8_ticksTo 98 = .ok (.aload_n 0, 1) := D_X8_ticksTo_1.2.2.2.2.2.2.2.2.2.2.2.2.2.2.2.1
theorem e_X8_ticksTo_99 : decode cX8_ticksTo 99 = .ok (.invokevirtual 160, 3) := D_X8_ticksTo_1.2.2.2.2.2.2.2.2.2.2.2.2.2.2.2.2.1
theorem e_X8_ticksTo_102 : decode cX8_ticksTo 102 = .ok (.iload_n 3, 1) := D_X8_ticksTo_1.2.2.2.2.2.2.2.2.2.2.2.2.2.2.2.2.2.1
theorem e_X8_ticksTo_103 : decode cX8_ticksTo 103 = .ok (.ifCond .eq 7, 3) := D_X8_ticksTo_1.2.2.2.2.2.2.2.2.2.2.2.2.2.2.2.2.2.2.1
theorem e_X8_ticksTo_106 : decode cX8_ticksTo 106 = .ok (.iload_n 2, 1) := D_X8_ticksTo_1.2.2.2.2.2.2.2.2.2.2.2.2.2.2.2.2.2.2.2.1
theorem e_X8_ticksTo_107 : decode cX8_ticksTo 107 = .ok (.goto 5, 3) := D_X8_ticksTo_1.2.2.2.2.2.2.2.2.2.2.2.2.2.2.2.2.2.2.2.2.1
theorem e_X8_ticksTo_110 : decode cX8_ticksTo 110 = .ok (.bipush (-4), 2) := D_X8_ticksTo_1.2.2.2.2.2.2.2.2.2.2.2.2.2.2.2.2.2.2.2.2.2.1
theorem e_X8_ticksTo_112 : decode cX8_ticksTo 112 = .ok (.ireturn, 1) := D_X8_ticksTo_1.2.2.2.2.2.2.2.2.2.2.2.2.2.2.2.2.2.2.2.2.2.2.1
set_option maxRecDepth 100000 in
theorem D_X8_type_0 : decode cX8_type 0 = .ok (.iload_n 1, 1) ∧ decode cX8_type 1 = .ok (.bipush 32, 2) ∧ decode cX8_type 3 = .ok (.bipush 126, 2) ∧ decode cX8_type 5 = .ok (.invokestatic 32, 3) ∧ decode cX8_type 8 = .ok (.ifCond .ne 5, 3) ∧ decode cX8_type 11 = .ok (.iconst (-1), 1) ∧ decode cX8_type 12 = .ok (.ireturn, 1) ∧ decode cX8_type 13 = .ok (.aload_n 0, 1) ∧ decode cX8_type 14 = .ok (.getfield 166, 3) ∧ decode cX8_type 17 = .ok (.bipush 100, 2) ∧ decode cX8_type 19 = .ok (.if_icmp .ne 6, 3) ∧ decode cX8_type 22 = .ok (.bipush (-3), 2) ∧ decode cX8_type 24 = .ok (.ireturn, 1) ∧ decode cX8_type 25 = .ok (.aload_n 0, 1) ∧ decode cX8_type 26 = .ok (.getfield 23, 3) ∧ decode cX8_type 29 = .ok (.aload_n 0, 1) ∧ decode cX8_type 30 = .ok (.getfield 166, 3) ∧ decode cX8_type 33 = .ok (.iload_n 1, 1) ∧ decode cX8_type 34 = .ok (.iastore, 1) ∧ decode cX8_type 35 = .ok (.aload_n 0, 1) ∧ decode cX8_type 36 = .ok (.dup, 1) ∧ decode cX8_type 37 = .ok (.getfield 166, 3) ∧ decode cX8_type 40 = .ok (.iconst 1, 1) ∧ decode cX8_type 41 = .ok (.iadd, 1) ∧ decode cX8_type 42 = .ok (.putfield 166, 3) ∧ decode cX8_type 45 = .ok (.aload_n 0, 1) ∧ decode cX8_type 46 = .ok (.getfield 166, 3) ∧ decode cX8_type 49 = .ok (.ireturn, 1) ∧ True := dq_of (l := (0, .iload_n 1, 1) :: (1, .bipush 32, 2) :: (3, .bipush 126, 2) :: (5, .invokestatic 32, 3) :: (8, .ifCond .ne 5, 3) :: (11, .iconst (-1), 1) :: (12, .ireturn, 1) :: (13, .aload_n 0, 1) :: (14, .getfield 166, 3) :: (17, .bipush 100, 2) :: (19, .if_icmp .ne 6, 3) :: (22, .bipush (-3), 2) :: (24, .ireturn, 1) :: (25, .aload_n 0, 1) :: (26, .getfield 23, 3) :: (29, .aload_n 0, 1) :: (30, .getfield 166, 3) :: (33, .iload_n 1, 1) :: (34, .iastore, 1) :: (35, .aload_n 0, 1) :: (36, .dup, 1) :: (37, .getfield 166, 3) :: (40, .iconst 1, 1) :: (41, .iadd, 1) :: (42, .putfield 166, 3) :: (45, .aload_n 0, 1) :: (46, .getfield 166, 3) :: (49, .ireturn, 1) :: []) (by decide +kernel)
theorem e_X8_type_0 : decode cX8_type 0 = .ok (.iload_n 1, 1) := D_X8_type_0.1
theorem e_X8_type_1 : decode cX8_type 1 = .ok (.bipush 32, 2) := D_X8_type_0.2.1
theorem e_X8_type_3 : decode cX8_type 3 = .ok (.bipush 126, 2) := D_X8_type_0.2.2.1
theorem e_X8_type_5 : decode cX8_type 5 = .ok (.invokestatic 32, 3) := D_X8_type_0.2.2.2.1
theorem e_X8_type_8 : decode cX8_type 8 = .ok (.ifCond .ne 5, 3) := D_X8_type_0.2.2.2.2.1
theorem e_X8_type_11 : decode cX8_type 11 = .ok (.iconst (-1), 1) := D_X8_type_0.2.2.2.2.2.1
theorem e_X8_type_12 : decode cX8_type 12 = .ok (.ireturn, 1) := D_X8_type_0.2.2.2.2.2.2.1
theorem e_X8_type_13 : decode cX8_type 13 = .ok (.aload_n 0, 1) := D_X8_type_0.2.2.2.2.2.2.2.1
theorem e_X8_type_14 : decode cX8_type 14 = .ok (.getfield 166, 3) := D_X8_type_0.2.2.2.2.2.2.2.2.1
theorem e_X8_type_17 : decode cX8_type 17 = .ok (.bipush 100, 2) := D_X8_type_0.2.2.2.2.2.2.2.2.2.1
theorem e_X8_type_19 : decode cX8_type 19 = .ok (.if_icmp .ne 6, 3) := D_X8_type_0.2.2.2.2.2.2.2.2.2.2.1
theorem e_X8_type_22 : decode cX8_type 22 = .ok (.bipush (-3), 2) := D_X8_type_0.2.2.2.2.2.2.2.2.2.2.2.1
theorem e_X8_type_24 : decode cX8_type 24 = .ok (.ireturn, 1) := D_X8_type_0.2.2.2.2.2.2.2.2.2.2.2.2.1
theorem e_X8_type_25 : decode cX8_type 25 = .ok (.aload_n 0, 1) := D_X8_type_0.2.2.2.2.2.2.2.2.2.2.2.2.2.1
theorem e_X8_type_26 : decode cX8_type 26 = .ok (.getfield 23, 3) := D_X8_type_0.2.2.2.2.2.2.2.2.2.2.2.2.2.2.1
theorem e_X8_type_29 : decode cX8_type 29 = .ok (.aload_n 0, 1) := D_X8_type_0.2.2.2.2.2.2.2.2.2.2.2.2.2.2.2.1
theorem e_X8_type_30 : decode cX8_type 30 = .ok (.getfield 166, 3) := D_X8_type_0.2.2.2.2.2.2.2.2.2.2.2.2.2.2.2.2.1
theorem e_X8_type_33 : decode cX8_type 33 = .ok (.iload_n 1, 1) := D_X8_type_0.2.2.2.2.2.2.2.2.2.2.2.2.2.2.2.2.2.1
theorem e_X8_type_34 : decode cX8_type 34 = .ok (.iastore, 1) := D_X8_type_0.2.2.2.2.2.2.2.2.2.2.2.2.2.2.2.2.2.2.1
theorem e_X8_type_35 : decode cX8_type 35 = .ok (.aload_n 0, 1) := D_X8_type_0.2.2.2.2.2.2.2.2.2.2.2.2.2.2.2.2.2.2.2.1
theorem e_X8_type_36 : decode cX8_type 36 = .ok (.dup, 1) := D_X8_type_0.2.2.2.2.2.2.2.2.2.2.2.2.2.2.2.2.2.2.2.2.1
theorem e_X8_type_37 : decode cX8_type 37 = .ok (.getfield 166, 3) := D_X8_type_0.2.2.2.2.2.2.2.2.2.2.2.2.2.2.2.2.2.2.2.2.2.1
theorem e_X8_type_40 : decode cX8_type 40 = .ok (.iconst 1, 1) := D_X8_type_0.2.2.2.2.2.2.2.2.2.2.2.2.2.2.2.2.2.2.2.2.2.2.1
theorem e_X8_type_41 : decode cX8_type 41 = .ok (.iadd, 1) := D_X8_type_0.2.2.2.2.2.2.2.2.2.2.2.2.2.2.2.2.2.2.2.2.2.2.2.1
theorem e_X8_type_42 : decode cX8_type 42 = .ok (.putfield 166, 3) := D_X8_type_0.2.2.2.2.2.2.2.2.2.2.2.2.2.2.2.2.2.2.2.2.2.2.2.2.1
theorem e_X8_type_45 : decode cX8_type 45 = .ok (.aload_n 0, 1) := D_X8_type_0.2.2.2.2.2.2.2.2.2.2.2.2.2.2.2.2.2.2.2.2.2.2.2.2.2.1
theorem e_X8_type_46 : decode cX8_type 46 = .ok (.getfield 166, 3) := D_X8_type_0.2.2.2.2.2.2.2.2.2.2.2.2.2.2.2.2.2.2.2.2.2.2.2.2.2.2.1
theorem e_X8_type_49 : decode cX8_type 49 = .ok (.ireturn, 1) := D_X8_type_0.2.2.2.2.2.2.2.2.2.2.2.2.2.2.2.2.2.2.2.2.2.2.2.2.2.2.2.1
set_option maxRecDepth 100000 in
theorem D_X8_clearText_0 : decode cX8_clearText 0 = .ok (.aload_n 0, 1) ∧ decode cX8_clearText 1 = .ok (.getfield 166, 3) ∧ decode cX8_clearText 4 = .ok (.istore_n 1, 1) ∧ decode cX8_clearText 5 = .ok (.aload_n 0, 1) ∧ decode cX8_clearText 6 = .ok (.iconst 0, 1) ∧ decode cX8_clearText 7 = .ok (.putfield 166, 3) ∧ decode cX8_clearText 10 = .ok (.iload_n 1, 1) ∧ decode cX8_clearText 11 = .ok (.ireturn, 1) ∧ True := dq_of (l := (0, .aload_n 0, 1) :: (1, .getfield 166, 3) :: (4, .istore_n 1, 1) :: (5, .aload_n 0, 1) :: (6, .iconst 0, 1) :: (7, .putfield 166, 3) :: (10, .iload_n 1, 1) :: (11, .ireturn, 1) :: []) (by decide +kernel)
theorem e_X8_clearText_0 : decode cX8_clearText 0 = .ok (.aload_n 0, 1) := D_X8_clearText_0.1
theorem e_X8_clearText_1 : decode cX8_clearText 1 = .ok (.getfield 166, 3) := D_X8_clearText_0.2.1
theorem e_X8_clearText_4 : decode cX8_clearText 4 = .ok (.istore_n 1, 1) := D_X8_clearText_0.2.2.1
theorem e_X8_clearText_5 : decode cX8_clearText 5 = .ok (.aload_n 0, 1) := D_X8_clearText_0.2.2.2.1
theorem e_X8_clearText_6 : decode cX8_clearText 6 = .ok (.iconst 0, 1) := D_X8_clearText_0.2.2.2.2.1
theorem e_X8_clearText_7 : decode cX8_clearText 7 = .ok (.putfield 166, 3) := D_X8_clearText_0.2.2.2.2.2.1
theorem e_X8_clearText_10 : decode cX8_clearText 10 = .ok (.iload_n 1, 1) := D_X8_clearText_0.2.2.2.2.2.2.1
theorem e_X8_clearText_11 : decode cX8_clearText 11 = .ok (.ireturn, 1) := D_X8_clearText_0.2.2.2.2.2.2.2.1
set_option maxRecDepth 100000 in
theorem D_X8_isAt_0 : decode cX8_isAt 0 = .ok (.aload_n 0, 1) ∧ decode cX8_isAt 1 = .ok (.getfield 169, 3) ∧ decode cX8_isAt 4 = .ok (.aload_n 0, 1) ∧ decode cX8_isAt 5 = .ok (.getfield 166, 3) ∧ decode cX8_isAt 8 = .ok (.if_icmp .ge 20, 3) ∧ decode cX8_isAt 11 = .ok (.aload_n 0, 1) ∧ decode cX8_isAt 12 = .ok (.getfield 23, 3) ∧ decode cX8_isAt 15 = .ok (.aload_n 0, 1) ∧ decode cX8_isAt 16 = .ok (.getfield 169, 3) ∧ decode cX8_isAt 19 = .ok (.iaload, 1) ∧ decode cX8_isAt 20 = .ok (.iload_n 1, 1) ∧ decode cX8_isAt 21 = .ok (.if_icmp .ne 7, 3) ∧ decode cX8_isAt 24 = .ok (.iconst 1, 1) ∧ decode cX8_isAt 25 = .ok (.goto 4, 3) ∧ decode cX8_isAt 28 = .ok (.iconst 0, 1) ∧ decode cX8_isAt 29 = .ok (.ireturn, 1) ∧ True := dq_of (l := (0, .aload_n 0, 1) :: (1, .getfield 169, 3) :: (4, .aload_n 0, 1) :: (5, .getfield 166, 3) :: (8, .if_icmp .ge 20, 3) :: (11, .aload_n 0, 1) :: (12, .getfield 23, 3) :: (15, .aload_n 0, 1) :: (16, .getfield 169, 3) :: (19, .iaload, 1) :: (20, .iload_n 1, 1) :: (21, .if_icmp .ne 7, 3) :: (24, .iconst 1, 1) :: (25, .goto 4, 3) :: (28, .iconst 0, 1) :: (29, .ireturn, 1) :: []) (by decide +kernel)
theorem e_X8_isAt_0 : decode cX8_isAt 0 = .ok (.aload_n 0, 1) := D_X8_isAt_0.1
theorem e_X8_isAt_1 : decode cX8_isAt 1 = .ok (.getfield 169, 3) := D_X8_isAt_0.2.1
theorem e_X8_isAt_4 : decode cX8_isAt 4 = .ok (.aload_n 0, 1) := D_X8_isAt_0.2.2.1
theorem e_X8_isAt_5 : decode cX8_isAt 5 = .ok (.getfield 166, 3) := D_X8_isAt_0.2.2.2.1
theorem e_X8_isAt_8 : decode cX8_isAt 8 = .ok (.if_icmp .ge 20, 3) := D_X8_isAt_0.2.2.2.2.1
theorem e_X8_isAt_11 : decode cX8_isAt 11 = .ok (.aload_n 0, 1) := D_X8_isAt_0.2.2.2.2.2.1
theorem e_X8_isAt_12 : decode cX8_isAt 12 = .ok (.getfield 23, 3) := D_X8_isAt_0.2.2.2.2.2.2.1
theorem e_X8_isAt_15 : decode cX8_isAt 15 = .ok (.aload_n 0, 1) := D_X8_isAt_0.2.2.2.2.2.2.2.1
theorem e_X8_isAt_16 : decode cX8_isAt 16 = .ok (.getfield 169, 3) := D_X8_isAt_0.2.2.2.2.2.2.2.2.1
theorem e_X8_isAt_19 : decode cX8_isAt 19 = .ok (.iaload, 1) := D_X8_isAt_0.2.2.2.2.2.2.2.2.2.1
theorem e_X8_isAt_20 : decode cX8_isAt 20 = .ok (.iload_n 1, 1) := D_X8_isAt_0.2.2.2.2.2.2.2.2.2.2.1
theorem e_X8_isAt_21 : decode cX8_isAt 21 = .ok (.if_icmp .ne 7, 3) := D_X8_isAt_0.2.2.2.2.2.2.2.2.2.2.2.1
theorem e_X8_isAt_24 : decode cX8_isAt 24 = .ok (.iconst 1, 1) := D_X8_isAt_0.2.2.2.2.2.2.2.2.2.2.2.2.1
theorem e_X8_isAt_25 : decode cX8_isAt 25 = .ok (.goto 4, 3) := D_X8_isAt_0.2.2.2.2.2.2.2.2.2.2.2.2.2.1
theorem e_X8_isAt_28 : decode cX8_isAt 28 = .ok (.iconst 0, 1) := D_X8_isAt_0.2.2.2.2.2.2.2.2.2.2.2.2.2.2.1
theorem e_X8_isAt_29 : decode cX8_isAt 29 = .ok (.ireturn, 1) := D_X8_isAt_0.2.2.2.2.2.2.2.2.2.2.2.2.2.2.2.1
set_option maxRecDepth 100000 in
theorem D_X8_takes_0 : decode cX8_takes 0 = .ok (.aload_n 0, 1) ∧ decode cX8_takes 1 = .ok (.iload_n 1, 1) ∧ decode cX8_takes 2 = .ok (.invokevirtual 172, 3) ∧ decode cX8_takes 5 = .ok (.istore_n 2, 1) ∧ decode cX8_takes 6 = .ok (.aload_n 0, 1) ∧ decode cX8_takes 7 = .ok (.dup, 1) ∧ decode cX8_takes 8 = .ok (.getfield 169, 3) ∧ decode cX8_takes 11 = .ok (.iload_n 2, 1) ∧ decode cX8_takes 12 = .ok (.ifCond .eq 7, 3) ∧ decode cX8_takes 15 = .ok (.iconst 1, 1) ∧ decode cX8_takes 16 = .ok (.goto 4, 3) ∧ decode cX8_takes 19 = .ok (.iconst 0, 1) ∧ decode cX8_takes 20 = .ok (.iadd, 1) ∧ decode cX8_takes 21 = .ok (.putfield 169, 3) ∧ decode cX8_takes 24 = .ok (.iload_n 2, 1) ∧ decode cX8_takes 25 = .ok (.ireturn, 1) ∧ True := dq_of (l := (0, .aload_n 0, 1) :: (1, .iload_n 1, 1) :: (2, .invokevirtual 172, 3) :: (5, .istore_n 2, 1) :: (6, .aload_n 0, 1) :: (7, .dup, 1) :: (8, .getfield 169, 3) :: (11, .iload_n 2, 1) :: (12, .ifCond .eq 7, 3) :: (15, .iconst 1, 1) :: (16, .goto 4, 3) :: (19, .iconst 0, 1) :: (20, .iadd, 1) :: (21, .putfield 169, 3) :: (24, .iload_n 2, 1) :: (25, .ireturn, 1) :: []) (by decide +kernel)
theorem e_X8_takes_0 : decode cX8_takes 0 = .ok (.aload_n 0, 1) := D_X8_takes_0.1
theorem e_X8_takes_1 : decode cX8_takes 1 = .ok (.iload_n 1, 1) := D_X8_takes_0.2.1
theorem e_X8_takes_2 : decode cX8_takes 2 = .ok (.invokevirtual 172, 3) := D_X8_takes_0.2.2.1
theorem e_X8_takes_5 : decode cX8_takes 5 = .ok (.istore_n 2, 1) := D_X8_takes_0.2.2.2.1
theorem e_X8_takes_6 : decode cX8_takes 6 = .ok (.aload_n 0, 1) := D_X8_takes_0.2.2.2.2.1
theorem e_X8_takes_7 : decode cX8_takes 7 = .ok (.dup, 1) := D_X8_takes_0.2.2.2.2.2.1
theorem e_X8_takes_8 : decode cX8_takes 8 = .ok (.getfield 169, 3) := D_X8_takes_0.2.2.2.2.2.2.1
theorem e_X8_takes_11 : decode cX8_takes 11 = .ok (.iload_n 2, 1) := D_X8_takes_0.2.2.2.2.2.2.2.1
theorem e_X8_takes_12 : decode cX8_takes 12 = .ok (.ifCond .eq 7, 3) := D_X8_takes_0.2.2.2.2.2.2.2.2.1
theorem e_X8_takes_15 : decode cX8_takes 15 = .ok (.iconst 1, 1) := D_X8_takes_0.2.2.2.2.2.2.2.2.2.1
theorem e_X8_takes_16 : decode cX8_takes 16 = .ok (.goto 4, 3) := D_X8_takes_0.2.2.2.2.2.2.2.2.2.2.1
theorem e_X8_takes_19 : decode cX8_takes 19 = .ok (.iconst 0, 1) := D_X8_takes_0.2.2.2.2.2.2.2.2.2.2.2.1
theorem e_X8_takes_20 : decode cX8_takes 20 = .ok (.iadd, 1) := D_X8_takes_0.2.2.2.2.2.2.2.2.2.2.2.2.1
theorem e_X8_takes_21 : decode cX8_takes 21 = .ok (.putfield 169, 3) := D_X8_takes_0.2.2.2.2.2.2.2.2.2.2.2.2.2.1
theorem e_X8_takes_24 : decode cX8_takes 24 = .ok (.iload_n 2, 1) := D_X8_takes_0.2.2.2.2.2.2.2.2.2.2.2.2.2.2.1
theorem e_X8_takes_25 : decode cX8_takes 25 = .ok (.ireturn, 1) := D_X8_takes_0.2.2.2.2.2.2.2.2.2.2.2.2.2.2.2.1
set_option maxRecDepth 100000 in
theorem D_X8_takesNumber_0 : decode cX8_takesNumber 0 = .ok (.aload_n 0, 1) ∧ decode cX8_takesNumber 1 = .ok (.getfield 169, 3) ∧ decode cX8_takesNumber 4 = .ok (.istore_n 3, 1) ∧ decode cX8_takesNumber 5 = .ok (.iconst 0, 1) ∧ decode cX8_takesNumber 6 = .ok (.istore 4, 2) ∧ decode cX8_takesNumber 8 = .ok (.aload_n 0, 1) ∧ decode cX8_takesNumber 9 = .ok (.getfield 169, 3) ∧ decode cX8_takesNumber 12 = .ok (.aload_n 0, 1) ∧ decode cX8_takesNumber 13 = .ok (.getfield 166, 3) ∧ decode cX8_takesNumber 16 = .ok (.if_icmp .ge 65, 3) ∧ decode cX8_takesNumber 19 = .ok (.aload_n 0, 1) ∧ decode cX8_takesNumber 20 = .ok (.getfield 23, 3) ∧ decode cX8_takesNumber 23 = .ok (.aload_n 0, 1) ∧ decode cX8_takesNumber 24 = .ok (.getfield 169, 3) ∧ decode cX8_takesNumber 27 = .ok (.iaload, 1) ∧ decode cX8_takesNumber 28 = .ok (.bipush 48, 2) ∧ decode cX8_takesNumber 30 = .ok (.bipush 57, 2) ∧ decode cX8_takesNumber 32 = .ok (.invokestatic 32, 3) ∧ decode cX8_takesNumber 35 = .ok (.ifCond .eq 46, 3) ∧ decode cX8_takesNumber 38 = .ok (.aload_n 0, 1) ∧ decode cX8_takesNumber 39 = .ok (.getfield 169, 3) ∧ decode cX8_takesNumber 42 = .ok (.iload_n 3, 1) ∧ decode cX8_takesNumber 43 = .ok (.iconst 3, 1) ∧ decode cX8_takesNumber 44 = .ok (.iadd, 1) ∧ decode cX8_takesNumber 45 = .ok (.if_icmp .ge 36, 3) ∧ decode cX8_takesNumber 48 = .ok (.bipush 10, 2) ∧ decode cX8_takesNumber 50 = .ok (.iload 4, 2) ∧ decode cX8_takesNumber 52 = .ok (.imul, 1) ∧ decode cX8_takesNumber 53 = .ok (.aload_n 0, 1) ∧ decode cX8_takesNumber 54 = .ok (.getfield 23, 3) ∧ decode cX8_takesNumber 57 = .ok (.aload_n 0, 1) ∧ decode cX8_takesNumber 58 = .ok (.getfield 169, 3) ∧ decode cX8_takesNumber 61 = .ok (.iaload, 1) ∧ decode cX8_takesNumber 62 = .ok (.iadd, 1) ∧ decode cX8_takesNumber 63 = .ok (.bipush 48, 2) ∧ decode cX8_takesNumber 65 = .ok (.isub, 1) ∧ decode cX8_takesNumber 66 = .ok (.istore 4, 2) ∧ decode cX8_takesNumber 68 = .ok (.aload_n 0, 1) ∧ decode cX8_takesNumber 69 = .ok (.dup, 1) ∧ decode cX8_takesNumber 70 = .ok (.getfield 169, 3) ∧ True := dq_of (l := (0, .aload_n 0, 1) :: (1, .getfield 169, 3) :: (4, .istore_n 3, 1) :: (5, .iconst 0, 1) :: (6, .istore 4, 2) :: (8, .aload_n 0, 1) :: (9, .getfield 169, 3) :: (12, .aload_n 0, 1) :: (13, .getfield 166, 3) :: (16, .if_icmp .ge 65, 3) :: (19, .aload_n 0, 1) :: (20, .getfield 23, 3) :: (23, .aload_n 0, 1) :: (24, .getfield 169, 3) :: (27, .iaload, 1) :: (28, .bipush 48, 2) :: (30, .bipush 57, 2) :: (32, .invokestatic 32, 3) :: (35, .ifCond .eq 46, 3) :: (38, .aload_n 0, 1) :: (39, .getfield 169, 3) :: (42, .iload_n 3, 1) :: (43, .iconst 3, 1) :: (44, .iadd, 1) :: (45, .if_icmp .ge 36, 3) :: (48, .bipush 10, 2) :: (50, .iload 4, 2) :: (52, .imul, 1) :: (53, .aload_n 0, 1) :: (54, .getfield 23, 3) :: (57, .aload_n 0, 1) :: (58, .getfield 169, 3) :: (61, .iaload, 1) :: (62, .iadd, 1) :: (63, .bipush 48, 2) :: (65, .isub, 1) :: (66, .istore 4, 2) :: (68, .aload_n 0, 1) :: (69, .dup, 1) :: (70, .getfield 169, 3) :: []) (by decide +kernel)
theorem e_X8_takesNumber_0 : decode cX8_takesNumber 0 = .ok (.aload_n 0, 1) := D_X8_takesNumber_0.1
theorem e_X8_takesNumber_1 : decode cX8_takesNumber 1 = .ok (.getfield 169, 3) := D_X8_takesNumber_0.2.1
theorem e_X8_takesNumber_4 : decode cX8_takesNumber 4 = .ok (.istore_n 3, 1) := D_X8_takesNumber_0.2.2.1
theorem e_X8_takesNumber_5 : decode cX8_takesNumber 5 = .ok (.iconst 0, 1) := D_X8_takesNumber_0.2.2.2.1
theorem e_X8_takesNumber_6 : decode cX8_takesNumber 6 = .ok (.istore 4, 2) := D_X8_takesNumber_0.2.2.2.2.1
theorem e_X8_takesNumber_8 : decode cX8_takesNumber 8 = .ok (.aload_n 0, 1) := D_X8_takesNumber_0.2.2.2.2.2.1
theorem e_X8_takesNumber_9 : decode cX8_takesNumber 9 = .ok (.getfield 169, 3) := D_X8_takesNumber_0.2.2.2.2.2.2.1
theorem e_X8_takesNumber_12 : decode cX8_takesNumber 12 = .ok (.aload_n 0, 1) := D_X8_takesNumber_0.2.2.2.2.2.2.2.1
theorem e_X8_takesNumber_13 : decode cX8_takesNumber 13 = .ok (.getfield 166, 3) := D_X8_takesNumber_0.2.2.2.2.2.2.2.2.1
theorem e_X8_takesNumber_16 : decode cX8_takesNumber 16 = .ok (.if_icmp .ge 65, 3) := D_X8_takesNumber_0.2.2.2.2.2.2.2.2.2.1
theorem e_X8_takesNumber_19 : decode cX8_takesNumber 19 = .ok (.aload_n 0, 1) := D_X8_takesNumber_0.2.2.2.2.2.2.2.2.2.2.1
theorem e_X8_takesNumber_20 : decode cX8_takesNumber 20 = .ok (.getfield 23, 3) := D_X8_takesNumber_0.2.2.2.2.2.2.2.2.2.2.2.1
theorem e_X8_takesNumber_23 : decode cX8_takesNumber 23 = .ok (.aload_n 0, 1) := D_X8_takesNumber_0.2.2.2.2.2.2.2.2.2.2.2.2.1
theorem e_X8_takesNumber_24 : decode cX8_takesNumber 24 = .ok (.getfield 169, 3) := D_X8_takesNumber_0.2.2.2.2.2.2.2.2.2.2.2.2.2.1
theorem e_X8_takesNumber_27 : decode cX8_takesNumber 27 = .ok (.iaload, 1) := D_X8_takesNumber_0.2.2.2.2.2.2.2.2.2.2.2.2.2.2.1
theorem e_X8_takesNumber_28 : decode cX8_takesNumber 28 = .ok (.bipush 48, 2) := D_X8_takesNumber_0.2.2.2.2.2.2.2.2.2.2.2.2.2.2.2.1
theorem e_X8_takesNumber_30 : decode cX8_takesNumber 30 = .ok (.bipush 57, 2) := D_X8_takesNumber_0.2.2.2.2.2.2.2.2.2.2.2.2.2.2.2.2.1
theorem e_X8_takesNumber_32 : decode cX8_takesNumber 32 = .ok (.invokestatic 32, 3) := D_X8_takesNumber_0.2.2.2.2.2.2.2.2.2.2.2.2.2.2.2.2.2.1
theorem e_X8_takesNumber_35 : decode cX8_takesNumber 35 = .ok (.ifCond .eq 46, 3) := D_X8_takesNumber_0.2.2.2.2.2.2.2.2.2.2.2.2.2.2.2.2.2.2.1
theorem e_X8_takesNumber_38 : decode cX8_takesNumber 38 = .ok (.aload_n 0, 1) := D_X8_takesNumber_0.2.2.2.2.2.2.2.2.2.2.2.2.2.2.2.2.2.2.2.1
theorem e_X8_takesNumber_39 : decode cX8_takesNumber 39 = .ok (.getfield 169, 3) := D_X8_takesNumber_0.2.2.2.2.2.2.2.2.2.2.2.2.2.2.2.2.2.2.2.2.1
theorem e_X8_takesNumber_42 : decode cX8_takesNumber 42 = .ok (.iload_n 3, 1) := D_X8_takesNumber_0.2.2.2.2.2.2.2.2.2.2.2.2.2.2.2.2.2.2.2.2.2.1
theorem e_X8_takesNumber_43 : decode cX8_takesNumber 43 = .ok (.iconst 3, 1) := D_X8_takesNumber_0.2.2.2.2.2.2.2.2.2.2.2.2.2.2.2.2.2.2.2.2.2.2.1
theorem e_X8_takesNumber_44 : decode cX8_takesNumber 44 = .ok (.iadd, 1) := D_X8_takesNumber_0.2.2.2.2.2.2.2.2.2.2.2.2.2.2.2.2.2.2.2.2.2.2.2.1
theorem e_X8_takesNumber_45 : decode cX8_takesNumber 45 = .ok (.if_icmp .ge 36, 3) := D_X8_takesNumber_0.2.2.2.2.2.2.2.2.2.2.2.2.2.2.2.2.2.2.2.2.2.2.2.2.1
theorem e_X8_takesNumber_48 : decode cX8_takesNumber 48 = .ok (.bipush 10, 2) := D_X8_takesNumber_0.2.2.2.2.2.2.2.2.2.2.2.2.2.2.2.2.2.2.2.2.2.2.2.2.2.1
theorem e_X8_takesNumber_50 : decode cX8_takesNumber 50 = .ok (.iload 4, 2) := D_X8_takesNumber_0.2.2.2.2.2.2.2.2.2.2.2.2.2.2.2.2.2.2.2.2.2.2.2.2.2.2.1
theorem e_X8_takesNumber_52 : decode cX8_takesNumber 52 = .ok (.imul, 1) := D_X8_takesNumber_0.2.2.2.2.2.2.2.2.2.2.2.2.2.2.2.2.2.2.2.2.2.2.2.2.2.2.2.1
theorem e_X8_takesNumber_53 : decode cX8_takesNumber 53 = .ok (.aload_n 0, 1) := D_X8_takesNumber_0.2.2.2.2.2.2.2.2.2.2.2.2.2.2.2.2.2.2.2.2.2.2.2.2.2.2.2.2.1
theorem e_X8_takesNumber_54 : decode cX8_takesNumber 54 = .ok (.getfield 23, 3) := D_X8_takesNumber_0.2.2.2.2.2.2.2.2.2.2.2.2.2.2.2.2.2.2.2.2.2.2.2.2.2.2.2.2.2.1
theorem e_X8_takesNumber_57 : decode cX8_takesNumber 57 = .ok (.aload_n 0, 1) := D_X8_takesNumber_0.2.2.2.2.2.2.2.2.2.2.2.2.2.2.2.2.2.2.2.2.2.2.2.2.2.2.2.2.2.2.1
theorem e_X8_takesNumber_58 : decode cX8_takesNumber 58 = .ok (.getfield 169, 3) := D_X8_takesNumber_0.2.2.2.2.2.2.2.2.2.2.2.2.2.2.2.2.2.2.2.2.2.2.2.2.2.2.2.2.2.2.2.1
theorem e_X8_takesNumber_61 : decode cX8_takesNumber 61 = .ok (.iaload, 1) := D_X8_takesNumber_0.2.2.2.2.2.2.2.2.2.2.2.2.2.2.2.2.2.2.2.2.2.2.2.2.2.2.2.2.2.2.2.2.1
theorem e_X8_takesNumber_62 : decode cX8_takesNumber 62 = .ok (.iadd, 1) := D_X8_takesNumber_0.2.2.2.2.2.2.2.2.2.2.2.2.2.2.2.2.2.2.2.2.2.2.2.2.2.2.2.2.2.2.2.2.2.1
theorem e_X8_takesNumber_63 : decode cX8_takesNumber 63 = .ok (.bipush 48, 2) := D_X8_takesNumber_0.2.2.2.2.2.2.2.2.2.2.2.2.2.2.2.2.2.2.2.2.2.2.2.2.2.2.2.2.2.2.2.2.2.2.1
theorem e_X8_takesNumber_65 : decode cX8_takesNumber 65 = .ok (.isub, 1) := D_X8_takesNumber_0.2.2.2.2.2.2.2.2.2.2.2.2.2.2.2.2.2.2.2.2.2.2.2.2.2.2.2.2.2.2.2.2.2.2.2.1
theorem e_X8_takesNumber_66 : decode cX8_takesNumber 66 = .ok (.istore 4, 2) := D_X8_takesNumber_0.2.2.2.2.2.2.2.2.2.2.2.2.2.2.2.2.2.2.2.2.2.2.2.2.2.2.2.2.2.2.2.2.2.2.2.2.1
theorem e_X8_takesNumber_68 : decode cX8_takesNumber 68 = .ok (.aload_n 0, 1) := D_X8_takesNumber_0.2.2.2.2.2.2.2.2.2.2.2.2.2.2.2.2.2.2.2.2.2.2.2.2.2.2.2.2.2.2.2.2.2.2.2.2.2.1
theorem e_X8_takesNumber_69 : decode cX8_takesNumber 69 = .ok (.dup, 1) := D_X8_takesNumber_0.2.2.2.2.2.2.2.2.2.2.2.2.2.2.2.2.2.2.2.2.2.2.2.2.2.2.2.2.2.2.2.2.2.2.2.2.2.2.1
theorem e_X8_takesNumber_70 : decode cX8_takesNumber 70 = .ok (.getfield 169, 3) := D_X8_takesNumber_0.2.2.2.2.2.2.2.2.2.2.2.2.2.2.2.2.2.2.2.2.2.2.2.2.2.2.2.2.2.2.2.2.2.2.2.2.2.2.2.1
set_option maxRecDepth 100000 in
theorem D_X8_takesNumber_1 : decode cX8_takesNumber 73 = .ok (.iconst 1, 1) ∧ decode cX8_takesNumber 74 = .ok (.iadd, 1) ∧ decode cX8_takesNumber 75 = .ok (.putfield 169, 3) ∧ decode cX8_takesNumber 78 = .ok (.goto (-70), 3) ∧ decode cX8_takesNumber 81 = .ok (.aload_n 0, 1) ∧ decode cX8_takesNumber 82 = .ok (.getfield 26, 3) ∧ decode cX8_takesNumber 85 = .ok (.iload_n 1, 1) ∧ decode cX8_takesNumber 86 = .ok (.iload 4, 2) ∧ decode cX8_takesNumber 88 = .ok (.iastore, 1) ∧ decode cX8_takesNumber 89 = .ok (.aload_n 0, 1) ∧ decode cX8_takesNumber 90 = .ok (.getfield 169, 3) ∧ decode cX8_takesNumber 93 = .ok (.iload_n 3, 1) ∧ decode cX8_takesNumber 94 = .ok (.if_icmp .le 15, 3) ∧ decode cX8_takesNumber 97 = .ok (.aload_n 0, 1) ∧ decode cX8_takesNumber 98 = .ok (.iload_n 2, 1) ∧ decode cX8_takesNumber 99 = .ok (.invokevirtual 175, 3) ∧ decode cX8_takesNumber 102 = .ok (.ifCond .eq 7, 3) ∧ decode cX8_takesNumber 105 = .ok (.iconst 1, 1) ∧ decode cX8_takesNumber 106 = .ok (.goto 4, 3) ∧ decode cX8_takesNumber 109 = .ok (.iconst 0, 1) ∧ decode cX8_takesNumber 110 = .ok (.ireturn, 1) ∧ True := dq_of (l := (73, .iconst 1, 1) :: (74, .iadd, 1) :: (75, .putfield 169, 3) :: (78, .goto (-70), 3) :: (81, .aload_n 0, 1) :: (82, .getfield 26, 3) :: (85, .iload_n 1, 1) :: (86, .iload 4, 2) :: (88, .iastore, 1) :: (89, .aload_n 0, 1) :: (90, .getfield 169, 3) :: (93, .iload_n 3, 1) :: (94, .if_icmp .le 15, 3) :: (97, .aload_n 0, 1) :: (98, .iload_n 2, 1) :: (99, .invokevirtual 175, 3) :: (102, .ifCond .eq 7, 3) :: (105, .iconst 1, 1) :: (106, .goto 4, 3) :: (109, .iconst 0, 1) :: (110, .ireturn, 1) :: []) (by decide +kernel)
theorem e_X8_takesNumber_73 : decode cX8_takesNumber 73 = .ok (.iconst 1, 1) := D_X8_takesNumber_1.1
theorem e_X8_takesNumber_74 : decode cX8_takesNumber 74 = .ok (.iadd, 1) := D_X8_takesNumber_1.2.1
theorem e_X8_takesNumber_75 : decode cX8_takesNumber 75 = .ok (.putfield 169, 3) := D_X8_takesNumber_1.2.2.1
theorem e_X8_takesNumber_78 : decode cX8_takesNumber 78 = .ok (.goto (-70), 3) := D_X8_takesNumber_1.2.2.2.1
theorem e_X8_takesNumber_81 : decode cX8_takesNumber 81 = .ok (.aload_n 0, 1) := D_X8_takesNumber_1.2.2.2.2.1
theorem e_X8_takesNumber_82 : decode cX8_takesNumber 82 = .ok (.getfield 26, 3) := D_X8_takesNumber_1.2.2.2.2.2.1
theorem e_X8_takesNumber_85 : decode cX8_takesNumber 85 = .ok (.iload_n 1, 1) := D_X8_takesNumber_1.2.2.2.2.2.2.1
theorem e_X8_takesNumber_86 : decode cX8_takesNumber 86 = .ok (.iload 4, 2) := D_X8_takesNumber_1.2.2.2.2.2.2.2.1
theorem e_X8_takesNumber_88 : decode cX8_takesNumber 88 = .ok (.iastore, 1) := D_X8_takesNumber_1.2.2.2.2.2.2.2.2.1
theorem e_X8_takesNumber_89 : decode cX8_takesNumber 89 = .ok (.aload_n 0, 1) := D_X8_takesNumber_1.2.2.2.2.2.2.2.2.2.1
theorem e_X8_takesNumber_90 : decode cX8_takesNumber 90 = .ok (.getfield 169, 3) := D_X8_takesNumber_1.2.2.2.2.2.2.2.2.2.2.1
theorem e_X8_takesNumber_93 : decode cX8_takesNumber 93 = .ok (.iload_n 3, 1) := D_X8_takesNumber_1.2.2.2.2.2.2.2.2.2.2.2.1
theorem e_X8_takesNumber_94 : decode cX8_takesNumber 94 = .ok (.if_icmp .le 15, 3) := D_X8_takesNumber_1.2.2.2.2.2.2.2.2.2.2.2.2.1
theorem e_X8_takesNumber_97 : decode cX8_takesNumber 97 = .ok (.aload_n 0, 1) := D_X8_takesNumber_1.2.2.2.2.2.2.2.2.2.2.2.2.2.1
theorem e_X8_takesNumber_98 : decode cX8_takesNumber 98 = .ok (.iload_n 2, 1) := D_X8_takesNumber_1.2.2.2.2.2.2.2.2.2.2.2.2.2.2.1
theorem e_X8_takesNumber_99 : decode cX8_takesNumber 99 = .ok (.invokevirtual 175, 3) := D_X8_takesNumber_1.2.2.2.2.2.2.2.2.2.2.2.2.2.2.2.1
theorem e_X8_takesNumber_102 : decode cX8_takesNumber 102 = .ok (.ifCond .eq 7, 3) := D_X8_takesNumber_1.2.2.2.2.2.2.2.2.2.2.2.2.2.2.2.2.1
theorem e_X8_takesNumber_105 : decode cX8_takesNumber 105 = .ok (.iconst 1, 1) := D_X8_takesNumber_1.2.2.2.2.2.2.2.2.2.2.2.2.2.2.2.2.2.1
theorem e_X8_takesNumber_106 : decode cX8_takesNumber 106 = .ok (.goto 4, 3) := D_X8_takesNumber_1.2.2.2.2.2.2.2.2.2.2.2.2.2.2.2.2.2.2.1
theorem e_X8_takesNumber_109 : decode cX8_takesNumber 109 = .ok (.iconst 0, 1) := D_X8_takesNumber_1.2.2.2.2.2.2.2.2.2.2.2.2.2.2.2.2.2.2.2.1
theorem e_X8_takesNumber_110 : decode cX8_takesNumber 110 = .ok (.ireturn, 1) := D_X8_takesNumber_1.2.2.2.2.2.2.2.2.2.2.2.2.2.2.2.2.2.2.2.2.1
set_option maxRecDepth 100000 in
theorem D_X8_letterAt_0 : decode cX8_letterAt 0 = .ok (.iload_n 0, 1) ∧ decode cX8_letterAt 1 = .ok (.tableswitch 103 0 7 #[47, 54, 61, 68, 75, 82, 89, 96], 47) ∧ decode cX8_letterAt 48 = .ok (.ldc2_w 178, 3) ∧ decode cX8_letterAt 51 = .ok (.lstore_n 2, 1) ∧ decode cX8_letterAt 52 = .ok (.goto 56, 3) ∧ decode cX8_letterAt 55 = .ok (.ldc2_w 180, 3) ∧ decode cX8_letterAt 58 = .ok (.lstore_n 2, 1) ∧ decode cX8_letterAt 59 = .ok (.goto 49, 3) ∧ decode cX8_letterAt 62 = .ok (.ldc2_w 182, 3) ∧ decode cX8_letterAt 65 = .ok (.lstore_n 2, 1) ∧ decode cX8_letterAt 66 = .ok (.goto 42, 3) ∧ decode cX8_letterAt 69 = .ok (.ldc2_w 184, 3) ∧ decode cX8_letterAt 72 = .ok (.lstore_n 2, 1) ∧ decode cX8_letterAt 73 = .ok (.goto 35, 3) ∧ decode cX8_letterAt 76 = .ok (.ldc2_w 186, 3) ∧ decode cX8_letterAt 79 = .ok (.lstore_n 2, 1) ∧ decode cX8_letterAt 80 = .ok (.goto 28, 3) ∧ decode cX8_letterAt 83 = .ok (.ldc2_w 188, 3) ∧ decode cX8_letterAt 86 = .ok (.lstore_n 2, 1) ∧ decode cX8_letterAt 87 = .ok (.goto 21, 3) ∧ decode cX8_letterAt 90 = .ok (.ldc2_w 190, 3) ∧ decode cX8_letterAt 93 = .ok (.lstore_n 2, 1) ∧ decode cX8_letterAt 94 = .ok (.goto 14, 3) ∧ decode cX8_letterAt 97 = .ok (.ldc2_w 192, 3) ∧ decode cX8_letterAt 100 = .ok (.lstore_n 2, 1) ∧ decode cX8_letterAt 101 = .ok (.goto 7, 3) ∧ decode cX8_letterAt 104 = .ok (.ldc2_w 194, 3) ∧ decode cX8_letterAt 107 = .ok (.lstore_n 2, 1) ∧ decode cX8_letterAt 108 = .ok (.iconst 0, 1) ∧ decode cX8_letterAt 109 = .ok (.istore 4, 2) ∧ decode cX8_letterAt 111 = .ok (.lload_n 2, 1) ∧ decode cX8_letterAt 112 = .ok (.lstore 5, 2) ∧ decode cX8_letterAt 114 = .ok (.lload 5, 2) ∧ decode cX8_letterAt 116 = .ok (.lconst 0, 1) ∧ decode cX8_letterAt 117 = .ok (.lcmp, 1) ∧ decode cX8_letterAt 118 = .ok (.ifCond .le 16, 3) ∧ decode cX8_letterAt 121 = .ok (.iinc 4 1, 3) ∧ decode cX8_letterAt 124 = .ok (.lload 5, 2) ∧ decode cX8_letterAt 126 = .ok (.bipush 8, 2) ∧ decode cX8_letterAt 128 = .ok (.lshr, 1) ∧ True := dq_of (l := (0, .iload_n 0, 1) :: (1, .tableswitch 103 0 7 #[47, 54, 61, 68, 75, 82, 89, 96], 47) :: (48, .ldc2_w 178, 3) :: (51, .lstore_n 2, 1) :: (52, .goto 56, 3) :: (55, .ldc2_w 180, 3) :: (58, .lstore_n 2, 1) :: (59, .goto 49, 3) :: (62, .ldc2_w 182, 3) :: (65, .lstore_n 2, 1) :: (66, .goto 42, 3) :: (69, .ldc2_w 184, 3) :: (72, .lstore_n 2, 1) :: (73, .goto 35, 3) :: (76, .ldc2_w 186, 3) :: (79, .lstore_n 2, 1) :: (80, .goto 28, 3) :: (83, .ldc2_w 188, 3) :: (86, .lstore_n 2, 1) :: (87, .goto 21, 3) :: (90, .ldc2_w 190, 3) :: (93, .lstore_n 2, 1) :: (94, .goto 14, 3) :: (97, .ldc2_w 192, 3) :: (100, .lstore_n 2, 1) :: (101, .goto 7, 3) :: (104, .ldc2_w 194, 3) :: (107, .lstore_n 2, 1) :: (108, .iconst 0, 1) :: (109, .istore 4, 2) :: (111, .lload_n 2, 1) :: (112, .lstore 5, 2) :: (114, .lload 5, 2) :: (116, .lconst 0, 1) :: (117, .lcmp, 1) :: (118, .ifCond .le 16, 3) :: (121, .iinc 4 1, 3) :: (124, .lload 5, 2) :: (126, .bipush 8, 2) :: (128, .lshr, 1) :: []) (by decide +kernel)
theorem e_X8_letterAt_0 : decode cX8_letterAt 0 = .ok (.iload_n 0, 1) := D_X8_letterAt_0.1
theorem e_X8_letterAt_1 : decode cX8_letterAt 1 = .ok (.tableswitch 103 0 7 #[47, 54, 61, 68, 75, 82, 89, 96], 47) := D_X8_letterAt_0.2.1
theorem e_X8_letterAt_48 : decode cX8_letterAt 48 = .ok (.ldc2_w 178, 3) := D_X8_letterAt_0.2.2.1
theorem e_X8_letterAt_51 : decode cX8_letterAt 51 = .ok (.lstore_n 2, 1) := D_X8_letterAt_0.2.2.2.1
theorem e_X8_letterAt_52 : decode cX8_letterAt 52 = .ok (.goto 56, 3) := D_X8_letterAt_0.2.2.2.2.1
theorem e_X8_letterAt_55 : decode cX8_letterAt 55 = .ok (.ldc2_w 180, 3) := D_X8_letterAt_0.2.2.2.2.2.1
theorem e_X8_letterAt_58 : decode cX8_letterAt 58 = .ok (.lstore_n 2, 1) := D_X8_letterAt_0.2.2.2.2.2.2.1
theorem e_X8_letterAt_59 : decode cX8_letterAt 59 = .ok (.goto 49, 3) := D_X8_letterAt_0.2.2.2.2.2.2.2.1
theorem e_X8_letterAt_62 : decode cX8_letterAt 62 = .ok (.ldc2_w 182, 3) := D_X8_letterAt_0.2.2.2.2.2.2.2.2.1
theorem e_X8_letterAt_65 : decode cX8_letterAt 65 = .ok (.lstore_n 2, 1) := D_X8_letterAt_0.2.2.2.2.2.2.2.2.2.1
theorem e_X8_letterAt_66 : decode cX8_letterAt 66 = .ok (.goto 42, 3) := D_X8_letterAt_0.2.2.2.2.2.2.2.2.2.2.1
theorem e_X8_letterAt_69 : decode cX8_letterAt 69 = .ok (.ldc2_w 184, 3) := D_X8_letterAt_0.2.2.2.2.2.2.2.2.2.2.2.1
theorem e_X8_letterAt_72 : decode cX8_letterAt 72 = .ok (.lstore_n 2, 1) := D_X8_letterAt_0.2.2.2.2.2.2.2.2.2.2.2.2.1
theorem e_X8_letterAt_73 : decode cX8_letterAt 73 = .ok (.goto 35, 3) := D_X8_letterAt_0.2.2.2.2.2.2.2.2.2.2.2.2.2.1
theorem e_X8_letterAt_76 : decode cX8_letterAt 76 = .ok (.ldc2_w 186, 3) := D_X8_letterAt_0.2.2.2.2.2.2.2.2.2.2.2.2.2.2.1
theorem e_X8_letterAt_79 : decode cX8_letterAt 79 = .ok (.lstore_n 2, 1) := D_X8_letterAt_0.2.2.2.2.2.2.2.2.2.2.2.2.2.2.2.1
theorem e_X8_letterAt_80 : decode cX8_letterAt 80 = .ok (.goto 28, 3) := D_X8_letterAt_0.2.2.2.2.2.2.2.2.2.2.2.2.2.2.2.2.1
theorem e_X8_letterAt_83 : decode cX8_letterAt 83 = .ok (.ldc2_w 188, 3) := D_X8_letterAt_0.2.2.2.2.2.2.2.2.2.2.2.2.2.2.2.2.2.1
theorem e_X8_letterAt_86 : decode cX8_letterAt 86 = .ok (.lstore_n 2, 1) := D_X8_letterAt_0.2.2.2.2.2.2.2.2.2.2.2.2.2.2.2.2.2.2.1
theorem e_X8_letterAt_87 : decode cX8_letterAt 87 = .ok (.goto 21, 3) := D_X8_letterAt_0.2.2.2.2.2.2.2.2.2.2.2.2.2.2.2.2.2.2.2.1
theorem e_X8_letterAt_90 : decode cX8_letterAt 90 = .ok (.ldc2_w 190, 3) := D_X8_letterAt_0.2.2.2.2.2.2.2.2.2.2.2.2.2.2.2.2.2.2.2.2.1
theorem e_X8_letterAt_93 : decode cX8_letterAt 93 = .ok (.lstore_n 2, 1) := D_X8_letterAt_0.2.2.2.2.2.2.2.2.2.2.2.2.2.2.2.2.2.2.2.2.2.1
theorem e_X8_letterAt_94 : decode cX8_letterAt 94 = .ok (.goto 14, 3) := D_X8_letterAt_0.2.2.2.2.2.2.2.2.2.2.2.2.2.2.2.2.2.2.2.2.2.2.1
theorem e_X8_letterAt_97 : decode cX8_letterAt 97 = .ok (.ldc2_w 192, 3) := D_X8_letterAt_0.2.2.2.2.2.2.2.2.2.2.2.2.2.2.2.2.2.2.2.2.2.2.2.1
theorem e_X8_letterAt_100 : decode cX8_letterAt 100 = .ok (.lstore_n 2, 1) := D_X8_letterAt_0.2.2.2.2.2.2.2.2.2.2.2.2.2.2.2.2.2.2.2.2.2.2.2.2.1
theorem e_X8_letterAt_101 : decode cX8_letterAt 101 = .ok (.goto 7, 3) := D_X8_letterAt_0.2.2.2.2.2.2.2.2.2.2.2.2.2.2.2.2.2.2.2.2.2.2.2.2.2.1
theorem e_X8_letterAt_104 : decode cX8_letterAt 104 = .ok (.ldc2_w 194, 3) := D_X8_letterAt_0.2.2.2.2.2.2.2.2.2.2.2.2.2.2.2.2.2.2.2.2.2.2.2.2.2.2.1
theorem e_X8_letterAt_107 : decode cX8_letterAt 107 = .ok (.lstore_n 2, 1) := D_X8_letterAt_0.2.2.2.2.2.2.2.2.2.2.2.2.2.2.2.2.2.2.2.2.2.2.2.2.2.2.2.1
theorem e_X8_letterAt_108 : decode cX8_letterAt 108 = .ok (.iconst 0, 1) := D_X8_letterAt_0.2.2.2.2.2.2.2.2.2.2.2.2.2.2.2.2.2.2.2.2.2.2.2.2.2.2.2.2.1
theorem e_X8_letterAt_109 : decode cX8_letterAt 109 = .ok (.istore 4, 2) := D_X8_letterAt_0.2.2.2.2.2.2.2.2.2.2.2.2.2.2.2.2.2.2.2.2.2.2.2.2.2.2.2.2.2.1
theorem e_X8_letterAt_111 : decode cX8_letterAt 111 = .ok (.lload_n 2, 1) := D_X8_letterAt_0.2.2.2.2.2.2.2.2.2.2.2.2.2.2.2.2.2.2.2.2.2.2.2.2.2.2.2.2.2.2.1
theorem e_X8_letterAt_112 : decode cX8_letterAt 112 = .ok (.lstore 5, 2) := D_X8_letterAt_0.2.2.2.2.2.2.2.2.2.2.2.2.2.2.2.2.2.2.2.2.2.2.2.2.2.2.2.2.2.2.2.1
theorem e_X8_letterAt_114 : decode cX8_letterAt 114 = .ok (.lload 5, 2) := D_X8_letterAt_0.2.2.2.2.2.2.2.2.2.2.2.2.2.2.2.2.2.2.2.2.2.2.2.2.2.2.2.2.2.2.2.2.1
theorem e_X8_letterAt_116 : decode cX8_letterAt 116 = .ok (.lconst 0, 1) := D_X8_letterAt_0.2.2.2.2.2.2.2.2.2.2.2.2.2.2.2.2.2.2.2.2.2.2.2.2.2.2.2.2.2.2.2.2.2.1
theorem e_X8_letterAt_117 : decode cX8_letterAt 117 = .ok (.lcmp, 1) := D_X8_letterAt_0.2.2.2.2.2.2.2.2.2.2.2.2.2.2.2.2.2.2.2.2.2.2.2.2.2.2.2.2.2.2.2.2.2.2.1
theorem e_X8_letterAt_118 : decode cX8_letterAt 118 = .ok (.ifCond .le 16, 3) := D_X8_letterAt_0.2.2.2.2.2.2.2.2.2.2.2.2.2.2.2.2.2.2.2.2.2.2.2.2.2.2.2.2.2.2.2.2.2.2.2.1
theorem e_X8_letterAt_121 : decode cX8_letterAt 121 = .ok (.iinc 4 1, 3) := D_X8_letterAt_0.2.2.2.2.2.2.2.2.2.2.2.2.2.2.2.2.2.2.2.2.2.2.2.2.2.2.2.2.2.2.2.2.2.2.2.2.1
theorem e_X8_letterAt_124 : decode cX8_letterAt 124 = .ok (.lload 5, 2) := D_X8_letterAt_0.2.2.2.2.2.2.2.2.2.2.2.2.2.2.2.2.2.2.2.2.2.2.2.2.2.2.2.2.2.2.2.2.2.2.2.2.2.1
theorem e_X8_letterAt_126 : decode cX8_letterAt 126 = .ok (.bipush 8, 2) := D_X8_letterAt_0.2.2.2.2.2.2.2.2.2.2.2.2.2.2.2.2.2.2.2.2.2.2.2.2.2.2.2.2.2.2.2.2.2.2.2.2.2.2.1
theorem e_X8_letterAt_128 : decode cX8_letterAt 128 = .ok (.lshr, 1) := D_X8_letterAt_0.2.2.2.2.2.2.2.2.2.2.2.2.2.2.2.2.2.2.2.2.2.2.2.2.2.2.2.2.2.2.2.2.2.2.2.2.2.2.2.1
set_option maxRecDepth 100000 in
theorem D_X8_letterAt_1 : decode cX8_letterAt 129 = .ok (.lstore 5, 2) ∧ decode cX8_letterAt 131 = .ok (.goto (-17), 3) ∧ decode cX8_letterAt 134 = .ok (.iload_n 1, 1) ∧ decode cX8_letterAt 135 = .ok (.iload 4, 2) ∧ decode cX8_letterAt 137 = .ok (.if_icmp .lt 7, 3) ∧ decode cX8_letterAt 140 = .ok (.iconst 0, 1) ∧ decode cX8_letterAt 141 = .ok (.goto 19, 3) ∧ decode cX8_letterAt 144 = .ok (.lload_n 2, 1) ∧ decode cX8_letterAt 145 = .ok (.bipush 8, 2) ∧ decode cX8_letterAt 147 = .ok (.iload 4, 2) ∧ decode cX8_letterAt 149 = .ok (.iconst 1, 1) ∧ decode cX8_letterAt 150 = .ok (.isub, 1) ∧ decode cX8_letterAt 151 = .ok (.iload_n 1, 1) ∧ decode cX8_letterAt 152 = .ok (.isub, 1) ∧ decode cX8_letterAt 153 = .ok (.imul, 1) ∧ decode cX8_letterAt 154 = .ok (.lshr, 1) ∧ decode cX8_letterAt 155 = .ok (.ldc2_w 196, 3) ∧ decode cX8_letterAt 158 = .ok (.land, 1) ∧ decode cX8_letterAt 159 = .ok (.l2i, 1) ∧ decode cX8_letterAt 160 = .ok (.ireturn, 1) ∧ True := dq_of (l := (129, .lstore 5, 2) :: (131, .goto (-17), 3) :: (134, .iload_n 1, 1) :: (135, .iload 4, 2) :: (137, .if_icmp .lt 7, 3) :: (140, .iconst 0, 1) :: (141, .goto 19, 3) :: (144, .lload_n 2, 1) :: (145, .bipush 8, 2) :: (147, .iload 4, 2) :: (149, .iconst 1, 1) :: (150, .isub, 1) :: (151, .iload_n 1, 1) :: (152, .isub, 1) :: (153, .imul, 1) :: (154, .lshr, 1) :: (155, .ldc2_w 196, 3) :: (158, .land, 1) :: (159, .l2i, 1) :: (160, .ireturn, 1) :: []) (by decide +kernel)
theorem e_X8_letterAt_129 : decode cX8_letterAt 129 = .ok (.lstore 5, 2) := D_X8_letterAt_1.1
theorem e_X8_letterAt_131 : decode cX8_letterAt 131 = .ok (.goto (-17), 3) := D_X8_letterAt_1.2.1
theorem e_X8_letterAt_134 : decode cX8_letterAt 134 = .ok (.iload_n 1, 1) := D_X8_letterAt_1.2.2.1
theorem e_X8_letterAt_135 : decode cX8_letterAt 135 = .ok (.iload 4, 2) := D_X8_letterAt_1.2.2.2.1
theorem e_X8_letterAt_137 : decode cX8_letterAt 137 = .ok (.if_icmp .lt 7, 3) := D_X8_letterAt_1.2.2.2.2.1
theorem e_X8_letterAt_140 : decode cX8_letterAt 140 = .ok (.iconst 0, 1) := D_X8_letterAt_1.2.2.2.2.2.1
theorem e_X8_letterAt_141 : decode cX8_letterAt 141 = .ok (.goto 19, 3) := D_X8_letterAt_1.2.2.2.2.2.2.1
theorem e_X8_letterAt_144 : decode cX8_letterAt 144 = .ok (.lload_n 2, 1) := D_X8_letterAt_1.2.2.2.2.2.2.2.1
theorem e_X8_letterAt_145 : decode cX8_letterAt 145 = .ok (.bipush 8, 2) := D_X8_letterAt_1.2.2.2.2.2.2.2.2.1
theorem e_X8_letterAt_147 : decode cX8_letterAt 147 = .ok (.iload 4, 2) := D_X8_letterAt_1.2.2.2.2.2.2.2.2.2.1
theorem e_X8_letterAt_149 : decode cX8_letterAt 149 = .ok (.iconst 1, 1) := D_X8_letterAt_1.2.2.2.2.2.2.2.2.2.2.1
theorem e_X8_letterAt_150 : decode cX8_letterAt 150 = .ok (.isub, 1) := D_X8_letterAt_1.2.2.2.2.2.2.2.2.2.2.2.1
theorem e_X8_letterAt_151 : decode cX8_letterAt 151 = .ok (.iload_n 1, 1) := D_X8_letterAt_1.2.2.2.2.2.2.2.2.2.2.2.2.1
theorem e_X8_letterAt_152 : decode cX8_letterAt 152 = .ok (.isub, 1) := D_X8_letterAt_1.2.2.2.2.2.2.2.2.2.2.2.2.2.1
theorem e_X8_letterAt_153 : decode cX8_letterAt 153 = .ok (.imul, 1) := D_X8_letterAt_1.2.2.2.2.2.2.2.2.2.2.2.2.2.2.1
theorem e_X8_letterAt_154 : decode cX8_letterAt 154 = .ok (.lshr, 1) := D_X8_letterAt_1.2.2.2.2.2.2.2.2.2.2.2.2.2.2.2.1
theorem e_X8_letterAt_155 : decode cX8_letterAt 155 = .ok (.ldc2_w 196, 3) := D_X8_letterAt_1.2.2.2.2.2.2.2.2.2.2.2.2.2.2.2.2.1
theorem e_X8_letterAt_158 : decode cX8_letterAt 158 = .ok (.land, 1) := D_X8_letterAt_1.2.2.2.2.2.2.2.2.2.2.2.2.2.2.2.2.2.1
theorem e_X8_letterAt_159 : decode cX8_letterAt 159 = .ok (.l2i, 1) := D_X8_letterAt_1.2.2.2.2.2.2.2.2.2.2.2.2.2.2.2.2.2.2.1
theorem e_X8_letterAt_160 : decode cX8_letterAt 160 = .ok (.ireturn, 1) := D_X8_letterAt_1.2.2.2.2.2.2.2.2.2.2.2.2.2.2.2.2.2.2.2.1
set_option maxRecDepth 100000 in
theorem D_X8_takesWord_0 : decode cX8_takesWord 0 = .ok (.iconst 0, 1) ∧ decode cX8_takesWord 1 = .ok (.istore_n 2, 1) ∧ decode cX8_takesWord 2 = .ok (.iload_n 1, 1) ∧ decode cX8_takesWord 3 = .ok (.iload_n 2, 1) ∧ decode cX8_takesWord 4 = .ok (.invokestatic 198, 3) ∧ decode cX8_takesWord 7 = .ok (.ifCond .le 41, 3) ∧ decode cX8_takesWord 10 = .ok (.aload_n 0, 1) ∧ decode cX8_takesWord 11 = .ok (.getfield 169, 3) ∧ decode cX8_takesWord 14 = .ok (.iload_n 2, 1) ∧ decode cX8_takesWord 15 = .ok (.iadd, 1) ∧ decode cX8_takesWord 16 = .ok (.aload_n 0, 1) ∧ decode cX8_takesWord 17 = .ok (.getfield 166, 3) ∧ decode cX8_takesWord 20 = .ok (.if_icmp .ge 28, 3) ∧ decode cX8_takesWord 23 = .ok (.aload_n 0, 1) ∧ decode cX8_takesWord 24 = .ok (.getfield 23, 3) ∧ decode cX8_takesWord 27 = .ok (.aload_n 0, 1) ∧ decode cX8_takesWord 28 = .ok (.getfield 169, 3) ∧ decode cX8_takesWord 31 = .ok (.iload_n 2, 1) ∧ decode cX8_takesWord 32 = .ok (.iadd, 1) ∧ decode cX8_takesWord 33 = .ok (.iaload, 1) ∧ decode cX8_takesWord 34 = .ok (.iload_n 1, 1) ∧ decode cX8_takesWord 35 = .ok (.iload_n 2, 1) ∧ decode cX8_takesWord 36 = .ok (.invokestatic 198, 3) ∧ decode cX8_takesWord 39 = .ok (.if_icmp .ne 9, 3) ∧ decode cX8_takesWord 42 = .ok (.iinc 2 1, 3) ∧ decode cX8_takesWord 45 = .ok (.goto (-43), 3) ∧ decode cX8_takesWord 48 = .ok (.iload_n 1, 1) ∧ decode cX8_takesWord 49 = .ok (.iload_n 2, 1) ∧ decode cX8_takesWord 50 = .ok (.invokestatic 198, 3) ∧ decode cX8_takesWord 53 = .ok (.ifCond .ne 7, 3) ∧ decode cX8_takesWord 56 = .ok (.iconst 1, 1) ∧ decode cX8_takesWord 57 = .ok (.goto 4, 3) ∧ decode cX8_takesWord 60 = .ok (.iconst 0, 1) ∧ decode cX8_takesWord 61 = .ok (.istore_n 3, 1) ∧ decode cX8_takesWord 62 = .ok (.aload_n 0, 1) ∧ decode cX8_takesWord 63 = .ok (.dup, 1) ∧ decode cX8_takesWord 64 = .ok (.getfield 169, 3) ∧ decode cX8_takesWord 67 = .ok (.iload_n 3, 1) ∧ decode cX8_takesWord 68 = .ok (.ifCond .eq 7, 3) ∧ decode cX8_takesWord 71 = .ok (.iload_n 2, 1) ∧ True := dq_of (l := (0, .iconst 0, 1) :: (1, .istore_n 2, 1) :: (2, .iload_n 1, 1) :: (3, .iload_n 2, 1) :: (4, .invokestatic 198, 3) :: (7, .ifCond .le 41, 3) :: (10, .aload_n 0, 1) :: (11, .getfield 169, 3) :: (14, .iload_n 2, 1) :: (15, .iadd, 1) :: (16, .aload_n 0, 1) :: (17, .getfield 166, 3) :: (20, .if_icmp .ge 28, 3) :: (23, .aload_n 0, 1) :: (24, .getfield 23, 3) :: (27, .aload_n 0, 1) :: (28, .getfield 169, 3) :: (31, .iload_n 2, 1) :: (32, .iadd, 1) :: (33, .iaload, 1) :: (34, .iload_n 1, 1) :: (35, .iload_n 2, 1) :: (36, .invokestatic 198, 3) :: (39, .if_icmp .ne 9, 3) :: (42, .iinc 2 1, 3) :: (45, .goto (-43), 3) :: (48, .iload_n 1, 1) :: (49, .iload_n 2, 1) :: (50, .invokestatic 198, 3) :: (53, .ifCond .ne 7, 3) :: (56, .iconst 1, 1) :: (57, .goto 4, 3) :: (60, .iconst 0, 1) :: (61, .istore_n 3, 1) :: (62, .aload_n 0, 1) :: (63, .dup, 1) :: (64, .getfield 169, 3) :: (67, .iload_n 3, 1) :: (68, .ifCond .eq 7, 3) :: (71, .iload_n 2, 1) :: []) (by decide +kernel)
theorem e_X8_takesWord_0 : decode cX8_takesWord 0 = .ok (.iconst 0, 1) := D_X8_takesWord_0.1
theorem e_X8_takesWord_1 : decode cX8_takesWord 1 = .ok (.istore_n 2, 1) := D_X8_takesWord_0.2.1
theorem e_X8_takesWord_2 : decode cX8_takesWord 2 = .ok (.iload_n 1, 1) := D_X8_takesWord_0.2.2.1
theorem e_X8_takesWord_3 : decode cX8_takesWord 3 = .ok (.iload_n 2, 1) := D_X8_takesWord_0.2.2.2.1
theorem e_X8_takesWord_4 : decode cX8_takesWord 4 = .ok (.invokestatic 198, 3) := D_X8_takesWord_0.2.2.2.2.1
theorem e_X8_takesWord_7 : decode cX8_takesWord 7 = .ok (.ifCond .le 41, 3) := D_X8_takesWord_0.2.2.2.2.2.1
theorem e_X8_takesWord_10 : decode cX8_takesWord 10 = .ok (.aload_n 0, 1) := D_X8_takesWord_0.2.2.2.2.2.2.1
theorem e_X8_takesWord_11 : decode cX8_takesWord 11 = .ok (.getfield 169, 3) := D_X8_takesWord_0.2.2.2.2.2.2.2.1
theorem e_X8_takesWord_14 : decode cX8_takesWord 14 = .ok (.iload_n 2, 1) := D_X8_takesWord_0.2.2.2.2.2.2.2.2.1
theorem e_X8_takesWord_15 : decode cX8_takesWord 15 = .ok (.iadd, 1) := D_X8_takesWord_0.2.2.2.2.2.2.2.2.2.1
theorem e_X8_takesWord_16 : decode cX8_takesWord 16 = .ok (.aload_n 0, 1) := D_X8_takesWord_0.2.2.2.2.2.2.2.2.2.2.1
theorem e_X8_takesWord_17 : decode cX8_takesWord 17 = .ok (.getfield 166, 3) := D_X8_takesWord_0.2.2.2.2.2.2.2.2.2.2.2.1
theorem e_X8_takesWord_20 : decode cX8_takesWord 20 = .ok (.if_icmp .ge 28, 3) := D_X8_takesWord_0.2.2.2.2.2.2.2.2.2.2.2.2.1
theorem e_X8_takesWord_23 : decode cX8_takesWord 23 = .ok (.aload_n 0, 1) := D_X8_takesWord_0.2.2.2.2.2.2.2.2.2.2.2.2.2.1
theorem e_X8_takesWord_24 : decode cX8_takesWord 24 = .ok (.getfield 23, 3) := D_X8_takesWord_0.2.2.2.2.2.2.2.2.2.2.2.2.2.2.1
theorem e_X8_takesWord_27 : decode cX8_takesWord 27 = .ok (.aload_n 0, 1) := D_X8_takesWord_0.2.2.2.2.2.2.2.2.2.2.2.2.2.2.2.1
theorem e_X8_takesWord_28 : decode cX8_takesWord 28 = .ok (.getfield 169, 3) := D_X8_takesWord_0.2.2.2.2.2.2.2.2.2.2.2.2.2.2.2.2.1
theorem e_X8_takesWord_31 : decode cX8_takesWord 31 = .ok (.iload_n 2, 1) := D_X8_takesWord_0.2.2.2.2.2.2.2.2.2.2.2.2.2.2.2.2.2.1
theorem e_X8_takesWord_32 : decode cX8_takesWord 32 = .ok (.iadd, 1) := D_X8_takesWord_0.2.2.2.2.2.2.2.2.2.2.2.2.2.2.2.2.2.2.1
theorem e_X8_takesWord_33 : decode cX8_takesWord 33 = .ok (.iaload, 1) := D_X8_takesWord_0.2.2.2.2.2.2.2.2.2.2.2.2.2.2.2.2.2.2.2.1
theorem e_X8_takesWord_34 : decode cX8_takesWord 34 = .ok (.iload_n 1, 1) := D_X8_takesWord_0.2.2.2.2.2.2.2.2.2.2.2.2.2.2.2.2.2.2.2.2.1
theorem e_X8_takesWord_35 : decode cX8_takesWord 35 = .ok (.iload_n 2, 1) := D_X8_takesWord_0.2.2.2.2.2.2.2.2.2.2.2.2.2.2.2.2.2.2.2.2.2.1
theorem e_X8_takesWord_36 : decode cX8_takesWord 36 = .ok (.invokestatic 198, 3) := D_X8_takesWord_0.2.2.2.2.2.2.2.2.2.2.2.2.2.2.2.2.2.2.2.2.2.2.1
theorem e_X8_takesWord_39 : decode cX8_takesWord 39 = .ok (.if_icmp .ne 9, 3) := D_X8_takesWord_0.2.2.2.2.2.2.2.2.2.2.2.2.2.2.2.2.2.2.2.2.2.2.2.1
theorem e_X8_takesWord_42 : decode cX8_takesWord 42 = .ok (.iinc 2 1, 3) := D_X8_takesWord_0.2.2.2.2.2.2.2.2.2.2.2.2.2.2.2.2.2.2.2.2.2.2.2.2.1
theorem e_X8_takesWord_45 : decode cX8_takesWord 45 = .ok (.goto (-43), 3) := D_X8_takesWord_0.2.2.2.2.2.2.2.2.2.2.2.2.2.2.2.2.2.2.2.2.2.2.2.2.2.1
theorem e_X8_takesWord_48 : decode cX8_takesWord 48 = .ok (.iload_n 1, 1) := D_X8_takesWord_0.2.2.2.2.2.2.2.2.2.2.2.2.2.2.2.2.2.2.2.2.2.2.2.2.2.2.1
theorem e_X8_takesWord_49 : decode cX8_takesWord 49 = .ok (.iload_n 2, 1) := D_X8_takesWord_0.2.2.2.2.2.2.2.2.2.2.2.2.2.2.2.2.2.2.2.2.2.2.2.2.2.2.2.1
theorem e_X8_takesWord_50 : decode cX8_takesWord 50 = .ok (.invokestatic 198, 3) := D_X8_takesWord_0.2.2.2.2.2.2.2.2.2.2.2.2.2.2.2.2.2.2.2.2.2.2.2.2.2.2.2.2.1
theorem e_X8_takesWord_53 : decode cX8_takesWord 53 = .ok (.ifCond .ne 7, 3) := D_X8_takesWord_0.2.2.2.2.2.2.2.2.2.2.2.2.2.2.2.2.2.2.2.2.2.2.2.2.2.2.2.2.2.1
theorem e_X8_takesWord_56 : decode cX8_takesWord 56 = .ok (.iconst 1, 1) := D_X8_takesWord_0.2.2.2.2.2.2.2.2.2.2.2.2.2.2.2.2.2.2.2.2.2.2.2.2.2.2.2.2.2.2.1
theorem e_X8_takesWord_57 : decode cX8_takesWord 57 = .ok (.goto 4, 3) := D_X8_takesWord_0.2.2.2.2.2.2.2.2.2.2.2.2.2.2.2.2.2.2.2.2.2.2.2.2.2.2.2.2.2.2.2.1
theorem e_X8_takesWord_60 : decode cX8_takesWord 60 = .ok (.iconst 0, 1) := D_X8_takesWord_0.2.2.2.2.2.2.2.2.2.2.2.2.2.2.2.2.2.2.2.2.2.2.2.2.2.2.2.2.2.2.2.2.1
theorem e_X8_takesWord_61 : decode cX8_takesWord 61 = .ok (.istore_n 3, 1) := D_X8_takesWord_0.2.2.2.2.2.2.2.2.2.2.2.2.2.2.2.2.2.2.2.2.2.2.2.2.2.2.2.2.2.2.2.2.2.1
theorem e_X8_takesWord_62 : decode cX8_takesWord 62 = .ok (.aload_n 0, 1) := D_X8_takesWord_0.2.2.2.2.2.2.2.2.2.2.2.2.2.2.2.2.2.2.2.2.2.2.2.2.2.2.2.2.2.2.2.2.2.2.1
theorem e_X8_takesWord_63 : decode cX8_takesWord 63 = .ok (.dup, 1) := D_X8_takesWord_0.2.2.2.2.2.2.2.2.2.2.2.2.2.2.2.2.2.2.2.2.2.2.2.2.2.2.2.2.2.2.2.2.2.2.2.1
theorem e_X8_takesWord_64 : decode cX8_takesWord 64 = .ok (.getfield 169, 3) := D_X8_takesWord_0.2.2.2.2.2.2.2.2.2.2.2.2.2.2.2.2.2.2.2.2.2.2.2.2.2.2.2.2.2.2.2.2.2.2.2.2.1
theorem e_X8_takesWord_67 : decode cX8_takesWord 67 = .ok (.iload_n 3, 1) := D_X8_takesWord_0.2.2.2.2.2.2.2.2.2.2.2.2.2.2.2.2.2.2.2.2.2.2.2.2.2.2.2.2.2.2.2.2.2.2.2.2.2.1
theorem e_X8_takesWord_68 : decode cX8_takesWord 68 = .ok (.ifCond .eq 7, 3) := D_X8_takesWord_0.2.2.2.2.2.2.2.2.2.2.2.2.2.2.2.2.2.2.2.2.2.2.2.2.2.2.2.2.2.2.2.2.2.2.2.2.2.2.1
theorem e_X8_takesWord_71 : decode cX8_takesWord 71 = .ok (.iload_n 2, 1) := D_X8_takesWord_0.2.2.2.2.2.2.2.2.2.2.2.2.2.2.2.2.2.2.2.2.2.2.2.2.2.2.2.2.2.2.2.2.2.2.2.2.2.2.2.1
set_option maxRecDepth 100000 in
theorem D_X8_takesWord_1 : decode cX8_takesWord 72 = .ok (.goto 4, 3) ∧ decode cX8_takesWord 75 = .ok (.iconst 0, 1) ∧ decode cX8_takesWord 76 = .ok (.iadd, 1) ∧ decode cX8_takesWord 77 = .ok (.putfield 169, 3) ∧ decode cX8_takesWord 80 = .ok (.iload_n 3, 1) ∧ decode cX8_takesWord 81 = .ok (.ireturn, 1) ∧ True := dq_of (l := (72, .goto 4, 3) :: (75, .iconst 0, 1) :: (76, .iadd, 1) :: (77, .putfield 169, 3) :: (80, .iload_n 3, 1) :: (81, .ireturn, 1) :: []) (by decide +kernel)
theorem e_X8_takesWord_72 : decode cX8_takesWord 72 = .ok (.goto 4, 3) := D_X8_takesWord_1.1
theorem e_X8_takesWord_75 : decode cX8_takesWord 75 = .ok (.iconst 0, 1) := D_X8_takesWord_1.2.1
theorem e_X8_takesWord_76 : decode cX8_takesWord 76 = .ok (.iadd, 1) := D_X8_takesWord_1.2.2.1
theorem e_X8_takesWord_77 : decode cX8_takesWord 77 = .ok (.putfield 169, 3) := D_X8_takesWord_1.2.2.2.1
theorem e_X8_takesWord_80 : decode cX8_takesWord 80 = .ok (.iload_n 3, 1) := D_X8_takesWord_1.2.2.2.2.1
theorem e_X8_takesWord_81 : decode cX8_takesWord 81 = .ok (.ireturn, 1) := D_X8_takesWord_1.2.2.2.2.2.1
set_option maxRecDepth 100000 in
theorem D_X8_takesOption_0 : decode cX8_takesOption 0 = .ok (.aload_n 0, 1) ∧ decode cX8_takesOption 1 = .ok (.getfield 169, 3) ∧ decode cX8_takesOption 4 = .ok (.istore_n 2, 1) ∧ decode cX8_takesOption 5 = .ok (.aload_n 0, 1) ∧ decode cX8_takesOption 6 = .ok (.bipush 32, 2) ∧ decode cX8_takesOption 8 = .ok (.invokevirtual 175, 3) ∧ decode cX8_takesOption 11 = .ok (.ifCond .eq 15, 3) ∧ decode cX8_takesOption 14 = .ok (.aload_n 0, 1) ∧ decode cX8_takesOption 15 = .ok (.iload_n 1, 1) ∧ decode cX8_takesOption 16 = .ok (.invokevirtual 201, 3) ∧ decode cX8_takesOption 19 = .ok (.ifCond .eq 7, 3) ∧ decode cX8_takesOption 22 = .ok (.iconst 1, 1) ∧ decode cX8_takesOption 23 = .ok (.goto 4, 3) ∧ decode cX8_takesOption 26 = .ok (.iconst 0, 1) ∧ decode cX8_takesOption 27 = .ok (.istore_n 3, 1) ∧ decode cX8_takesOption 28 = .ok (.aload_n 0, 1) ∧ decode cX8_takesOption 29 = .ok (.iload_n 3, 1) ∧ decode cX8_takesOption 30 = .ok (.ifCond .eq 10, 3) ∧ decode cX8_takesOption 33 = .ok (.aload_n 0, 1) ∧ decode cX8_takesOption 34 = .ok (.getfield 169, 3) ∧ decode cX8_takesOption 37 = .ok (.goto 4, 3) ∧ decode cX8_takesOption 40 = .ok (.iload_n 2, 1) ∧ decode cX8_takesOption 41 = .ok (.putfield 169, 3) ∧ decode cX8_takesOption 44 = .ok (.iload_n 3, 1) ∧ decode cX8_takesOption 45 = .ok (.ireturn, 1) ∧ True := dq_of (l := (0, .aload_n 0, 1) :: (1, .getfield 169, 3) :: (4, .istore_n 2, 1) :: (5, .aload_n 0, 1) :: (6, .bipush 32, 2) :: (8, .invokevirtual 175, 3) :: (11, .ifCond .eq 15, 3) :: (14, .aload_n 0, 1) :: (15, .iload_n 1, 1) :: (16, .invokevirtual 201, 3) :: (19, .ifCond .eq 7, 3) :: (22, .iconst 1, 1) :: (23, .goto 4, 3) :: (26, .iconst 0, 1) :: (27, .istore_n 3, 1) :: (28, .aload_n 0, 1) :: (29, .iload_n 3, 1) :: (30, .ifCond .eq 10, 3) :: (33, .aload_n 0, 1) :: (34, .getfield 169, 3) :: (37, .goto 4, 3) :: (40, .iload_n 2, 1) :: (41, .putfield 169, 3) :: (44, .iload_n 3, 1) :: (45, .ireturn, 1) :: []) (by decide +kernel)
theorem e_X8_takesOption_0 : decode cX8_takesOption 0 = .ok (.aload_n 0, 1) := D_X8_takesOption_0.1
theorem e_X8_takesOption_1 : decode cX8_takesOption 1 = .ok (.getfield 169, 3) := D_X8_takesOption_0.2.1
theorem e_X8_takesOption_4 : decode cX8_takesOption 4 = .ok (.istore_n 2, 1) := D_X8_takesOption_0.2.2.1
theorem e_X8_takesOption_5 : decode cX8_takesOption 5 = .ok (.aload_n 0, 1) := D_X8_takesOption_0.2.2.2.1
theorem e_X8_takesOption_6 : decode cX8_takesOption 6 = .ok (.bipush 32, 2) := D_X8_takesOption_0.2.2.2.2.1
theorem e_X8_takesOption_8 : decode cX8_takesOption 8 = .ok (.invokevirtual 175, 3) := D_X8_takesOption_0.2.2.2.2.2.1
theorem e_X8_takesOption_11 : decode cX8_takesOption 11 = .ok (.ifCond .eq 15, 3) := D_X8_takesOption_0.2.2.2.2.2.2.1
theorem e_X8_takesOption_14 : decode cX8_takesOption 14 = .ok (.aload_n 0, 1) := D_X8_takesOption_0.2.2.2.2.2.2.2.1
theorem e_X8_takesOption_15 : decode cX8_takesOption 15 = .ok (.iload_n 1, 1) := D_X8_takesOption_0.2.2.2.2.2.2.2.2.1
theorem e_X8_takesOption_16 : decode cX8_takesOption 16 = .ok (.invokevirtual 201, 3) := D_X8_takesOption_0.2.2.2.2.2.2.2.2.2.1
theorem e_X8_takesOption_19 : decode cX8_takesOption 19 = .ok (.ifCond .eq 7, 3) := D_X8_takesOption_0.2.2.2.2.2.2.2.2.2.2.1
theorem e_X8_takesOption_22 : decode cX8_takesOption 22 = .ok (.iconst 1, 1) := D_X8_takesOption_0.2.2.2.2.2.2.2.2.2.2.2.1
theorem e_X8_takesOption_23 : decode cX8_takesOption 23 = .ok (.goto 4, 3) := D_X8_takesOption_0.2.2.2.2.2.2.2.2.2.2.2.2.1
theorem e_X8_takesOption_26 : decode cX8_takesOption 26 = .ok (.iconst 0, 1) := D_X8_takesOption_0.2.2.2.2.2.2.2.2.2.2.2.2.2.1
theorem e_X8_takesOption_27 : decode cX8_takesOption 27 = .ok (.istore_n 3, 1) := D_X8_takesOption_0.2.2.2.2.2.2.2.2.2.2.2.2.2.2.1
theorem e_X8_takesOption_28 : decode cX8_takesOption 28 = .ok (.aload_n 0, 1) := D_X8_takesOption_0.2.2.2.2.2.2.2.2.2.2.2.2.2.2.2.1
theorem e_X8_takesOption_29 : decode cX8_takesOption 29 = .ok (.iload_n 3, 1) := D_X8_takesOption_0.2.2.2.2.2.2.2.2.2.2.2.2.2.2.2.2.1
theorem e_X8_takesOption_30 : decode cX8_takesOption 30 = .ok (.ifCond .eq 10, 3) := D_X8_takesOption_0.2.2.2.2.2.2.2.2.2.2.2.2.2.2.2.2.2.1
theorem e_X8_takesOption_33 : decode cX8_takesOption 33 = .ok (.aload_n 0, 1) := D_X8_takesOption_0.2.2.2.2.2.2.2.2.2.2.2.2.2.2.2.2.2.2.1
theorem e_X8_takesOption_34 : decode cX8_takesOption 34 = .ok (.getfield 169, 3) := D_X8_takesOption_0.2.2.2.2.2.2.2.2.2.2.2.2.2.2.2.2.2.2.2.1
theorem e_X8_takesOption_37 : decode cX8_takesOption 37 = .ok (.goto 4, 3) := D_X8_takesOption_0.2.2.2.2.2.2.2.2.2.2.2.2.2.2.2.2.2.2.2.2.1
theorem e_X8_takesOption_40 : decode cX8_takesOption 40 = .ok (.iload_n 2, 1) := D_X8_takesOption_0.2.2.2.2.2.2.2.2.2.2.2.2.2.2.2.2.2.2.2.2.2.1
theorem e_X8_takesOption_41 : decode cX8_takesOption 41 = .ok (.putfield 169, 3) := D_X8_takesOption_0.2.2.2.2.2.2.2.2.2.2.2.2.2.2.2.2.2.2.2.2.2.2.1
theorem e_X8_takesOption_44 : decode cX8_takesOption 44 = .ok (.iload_n 3, 1) := D_X8_takesOption_0.2.2.2.2.2.2.2.2.2.2.2.2.2.2.2.2.2.2.2.2.2.2.2.1
theorem e_X8_takesOption_45 : decode cX8_takesOption 45 = .ok (.ireturn, 1) := D_X8_takesOption_0.2.2.2.2.2.2.2.2.2.2.2.2.2.2.2.2.2.2.2.2.2.2.2.2.1
set_option maxRecDepth 100000 in
theorem D_X8_takesSize_0 : decode cX8_takesSize 0 = .ok (.aload_n 0, 1) ∧ decode cX8_takesSize 1 = .ok (.iconst 4, 1) ∧ decode cX8_takesSize 2 = .ok (.invokevirtual 201, 3) ∧ decode cX8_takesSize 5 = .ok (.ifCond .eq 12, 3) ∧ decode cX8_takesSize 8 = .ok (.aload_n 0, 1) ∧ decode cX8_takesSize 9 = .ok (.getfield 26, 3) ∧ decode cX8_takesSize 12 = .ok (.iconst 2, 1) ∧ decode cX8_takesSize 13 = .ok (.iconst 3, 1) ∧ decode cX8_takesSize 14 = .ok (.iastore, 1) ∧ decode cX8_takesSize 15 = .ok (.iconst 1, 1) ∧ decode cX8_takesSize 16 = .ok (.ireturn, 1) ∧ decode cX8_takesSize 17 = .ok (.aload_n 0, 1) ∧ decode cX8_takesSize 18 = .ok (.iconst 3, 1) ∧ decode cX8_takesSize 19 = .ok (.invokevirtual 201, 3) ∧ decode cX8_takesSize 22 = .ok (.ifCond .eq 33, 3) ∧ decode cX8_takesSize 25 = .ok (.aload_n 0, 1) ∧ decode cX8_takesSize 26 = .ok (.getfield 169, 3) ∧ decode cX8_takesSize 29 = .ok (.aload_n 0, 1) ∧ decode cX8_takesSize 30 = .ok (.getfield 166, 3) ∧ decode cX8_takesSize 33 = .ok (.if_icmp .eq 22, 3) ∧ decode cX8_takesSize 36 = .ok (.aload_n 0, 1) ∧ decode cX8_takesSize 37 = .ok (.getfield 23, 3) ∧ decode cX8_takesSize 40 = .ok (.aload_n 0, 1) ∧ decode cX8_takesSize 41 = .ok (.getfield 169, 3) ∧ decode cX8_takesSize 44 = .ok (.iaload, 1) ∧ decode cX8_takesSize 45 = .ok (.bipush 51, 2) ∧ decode cX8_takesSize 47 = .ok (.bipush 53, 2) ∧ decode cX8_takesSize 49 = .ok (.invokestatic 32, 3) ∧ decode cX8_takesSize 52 = .ok (.ifCond .ne 5, 3) ∧ decode cX8_takesSize 55 = .ok (.iconst 0, 1) ∧ decode cX8_takesSize 56 = .ok (.ireturn, 1) ∧ decode cX8_takesSize 57 = .ok (.aload_n 0, 1) ∧ decode cX8_takesSize 58 = .ok (.getfield 26, 3) ∧ decode cX8_takesSize 61 = .ok (.iconst 2, 1) ∧ decode cX8_takesSize 62 = .ok (.bipush 53, 2) ∧ decode cX8_takesSize 64 = .ok (.aload_n 0, 1) ∧ decode cX8_takesSize 65 = .ok (.getfield 23, 3) ∧ decode cX8_takesSize 68 = .ok (.aload_n 0, 1) ∧ decode cX8_takesSize 69 = .ok (.getfield 169, 3) ∧ decode cX8_takesSize 72 = .ok (.iaload, 1) ∧ True := dq_of (l := (0, .aload_n 0, 1) :: (1, .iconst 4, 1) :: (2, .invokevirtual 201, 3) :: (5, .ifCond .eq 12, 3) :: (8, .aload_n 0, 1) :: (9, .getfield 26, 3) :: (12, .iconst 2, 1) :: (13, .iconst 3, 1) :: (14, .iastore, 1) :: (15, .iconst 1, 1) :: (16, .ireturn, 1) :: (17, .aload_n 0, 1) :: (18, .iconst 3, 1) :: (19, .invokevirtual 201, 3) :: (22, .ifCond .eq 33, 3) :: (25, .aload_n 0, 1) :: (26, .getfield 169, 3) :: (29, .aload_n 0, 1) :: (30, .getfield 166, 3) :: (33, .if_icmp .eq 22, 3) :: (36, .aload_n 0, 1) :: (37, .getfield 23, 3) :: (40, .aload_n 0, 1) :: (41, .getfield 169, 3) :: (44, .iaload, 1) :: (45, .bipush 51, 2) :: (47, .bipush 53, 2) :: (49, .invokestatic 32, 3) :: (52, .ifCond .ne 5, 3) :: (55, .iconst 0, 1) :: (56, .ireturn, 1) :: (57, .aload_n 0, 1) :: (58, .getfield 26, 3) :: (61, .iconst 2, 1) :: (62, .bipush 53, 2) :: (64, .aload_n 0, 1) :: (65, .getfield 23, 3) :: (68, .aload_n 0, 1) :: (69, .getfield 169, 3) :: (72, .iaload, 1) :: []) (by decide +kernel)
theorem e_X8_takesSize_0 : decode cX8_takesSize 0 = .ok (.aload_n 0, 1) := D_X8_takesSize_0.1
theorem e_X8_takesSize_1 : decode cX8_takesSize 1 = .ok (.iconst 4, 1) := D_X8_takesSize_0.2.1
theorem e_X8_takesSize_2 : decode cX8_takesSize 2 = .ok (.invokevirtual 201, 3) := D_X8_takesSize_0.2.2.1
theorem e_X8_takesSize_5 : decode cX8_takesSize 5 = .ok (.ifCond .eq 12, 3) := D_X8_takesSize_0.2.2.2.1
theorem e_X8_takesSize_8 : decode cX8_takesSize 8 = .ok (.aload_n 0, 1) := D_X8_takesSize_0.2.2.2.2.1
theorem e_X8_takesSize_9 : decode cX8_takesSize 9 = .ok (.getfield 26, 3) := D_X8_takesSize_0.2.2.2.2.2.1
theorem e_X8_takesSize_12 : decode cX8_takesSize 12 = .ok (.iconst 2, 1) := D_X8_takesSize_0.2.2.2.2.2.2.1
theorem e_X8_takesSize_13 : decode cX8_takesSize 13 = .ok (.iconst 3, 1) := D_X8_takesSize_0.2.2.2.2.2.2.2.1
theorem e_X8_takesSize_14 : decode cX8_takesSize 14 = .ok (.iastore, 1) := D_X8_takesSize_0.2.2.2.2.2.2.2.2.1
theorem e_X8_takesSize_15 : decode cX8_takesSize 15 = .ok (.iconst 1, 1) := D_X8_takesSize_0.2.2.2.2.2.2.2.2.2.1
theorem e_X8_takesSize_16 : decode cX8_takesSize 16 = .ok (.ireturn, 1) := D_X8_takesSize_0.2.2.2.2.2.2.2.2.2.2.1
theorem e_X8_takesSize_17 : decode cX8_takesSize 17 = .ok (.aload_n 0, 1) := D_X8_takesSize_0.2.2.2.2.2.2.2.2.2.2.2.1
theorem e_X8_takesSize_18 : decode cX8_takesSize 18 = .ok (.iconst 3, 1) := D_X8_takesSize_0.2.2.2.2.2.2.2.2.2.2.2.2.1
theorem e_X8_takesSize_19 : decode cX8_takesSize 19 = .ok (.invokevirtual 201, 3) := D_X8_takesSize_0.2.2.2.2.2.2.2.2.2.2.2.2.2.1
theorem e_X8_takesSize_22 : decode cX8_takesSize 22 = .ok (.ifCond .eq 33, 3) := D_X8_takesSize_0.2.2.2.2.2.2.2.2.2.2.2.2.2.2.1
theorem e_X8_takesSize_25 : decode cX8_takesSize 25 = .ok (.aload_n 0, 1) := D_X8_takesSize_0.2.2.2.2.2.2.2.2.2.2.2.2.2.2.2.1
theorem e_X8_takesSize_26 : decode cX8_takesSize 26 = .ok (.getfield 169, 3) := D_X8_takesSize_0.2.2.2.2.2.2.2.2.2.2.2.2.2.2.2.2.1
theorem e_X8_takesSize_29 : decode cX8_takesSize 29 = .ok (.aload_n 0, 1) := D_X8_takesSize_0.2.2.2.2.2.2.2.2.2.2.2.2.2.2.2.2.2.1
theorem e_X8_takesSize_30 : decode cX8_takesSize 30 = .ok (.getfield 166, 3) := D_X8_takesSize_0.2.2.2.2.2.2.2.2.2.2.2.2.2.2.2.2.2.2.1
theorem e_X8_takesSize_33 : decode cX8_takesSize 33 = .ok (.if_icmp .eq 22, 3) := D_X8_takesSize_0.2.2.2.2.2.2.2.2.2.2.2.2.2.2.2.2.2.2.2.1
theorem e_X8_takesSize_36 : decode cX8_takesSize 36 = .ok (.aload_n 0, 1) := D_X8_takesSize_0.2.2.2.2.2.2.2.2.2.2.2.2.2.2.2.2.2.2.2.2.1
theorem e_X8_takesSize_37 : decode cX8_takesSize 37 = .ok (.getfield 23, 3) := D_X8_takesSize_0.2.2.2.2.2.2.2.2.2.2.2.2.2.2.2.2.2.2.2.2.2.1
theorem e_X8_takesSize_40 : decode cX8_takesSize 40 = .ok (.aload_n 0, 1) := D_X8_takesSize_0.2.2.2.2.2.2.2.2.2.2.2.2.2.2.2.2.2.2.2.2.2.2.1
theorem e_X8_takesSize_41 : decode cX8_takesSize 41 = .ok (.getfield 169, 3) := D_X8_takesSize_0.2.2.2.2.2.2.2.2.2.2.2.2.2.2.2.2.2.2.2.2.2.2.2.1
theorem e_X8_takesSize_44 : decode cX8_takesSize 44 = .ok (.iaload, 1) := D_X8_takesSize_0.2.2.2.2.2.2.2.2.2.2.2.2.2.2.2.2.2.2.2.2.2.2.2.2.1
theorem e_X8_takesSize_45 : decode cX8_takesSize 45 = .ok (.bipush 51, 2) := D_X8_takesSize_0.2.2.2.2.2.2.2.2.2.2.2.2.2.2.2.2.2.2.2.2.2.2.2.2.2.1
theorem e_X8_takesSize_47 : decode cX8_takesSize 47 = .ok (.bipush 53, 2) := D_X8_takesSize_0.2.2.2.2.2.2.2.2.2.2.2.2.2.2.2.2.2.2.2.2.2.2.2.2.2.2.1
theorem e_X8_takesSize_49 : decode cX8_takesSize 49 = .ok (.invokestatic 32, 3) := D_X8_takesSize_0.2.2.2.2.2.2.2.2.2.2.2.2.2.2.2.2.2.2.2.2.2.2.2.2.2.2.2.1
theorem e_X8_takesSize_52 : decode cX8_takesSize 52 = .ok (.ifCond .ne 5, 3) := D_X8_takesSize_0.2.2.2.2.2.2.2.2.2.2.2.2.2.2.2.2.2.2.2.2.2.2.2.2.2.2.2.2.1
theorem e_X8_takesSize_55 : decode cX8_takesSize 55 = .ok (.iconst 0, 1) := D_X8_takesSize_0.2.2.2.2.2.2.2.2.2.2.2.2.2.2.2.2.2.2.2.2.2.2.2.2.2.2.2.2.2.1
theorem e_X8_takesSize_56 : decode cX8_takesSize 56 = .ok (.ireturn, 1) := D_X8_takesSize_0.2.2.2.2.2.2.2.2.2.2.2.2.2.2.2.2.2.2.2.2.2.2.2.2.2.2.2.2.2.2.1
theorem e_X8_takesSize_57 : decode cX8_takesSize 57 = .ok (.aload_n 0, 1) := D_X8_takesSize_0.2.2.2.2.2.2.2.2.2.2.2.2.2.2.2.2.2.2.2.2.2.2.2.2.2.2.2.2.2.2.2.1
theorem e_X8_takesSize_58 : decode cX8_takesSize 58 = .ok (.getfield 26, 3) := D_X8_takesSize_0.2.2.2.2.2.2.2.2.2.2.2.2.2.2.2.2.2.2.2.2.2.2.2.2.2.2.2.2.2.2.2.2.1
theorem e_X8_takesSize_61 : decode cX8_takesSize 61 = .ok (.iconst 2, 1) := D_X8_takesSize_0.2.2.2.2.2.2.2.2.2.2.2.2.2.2.2.2.2.2.2.2.2.2.2.2.2.2.2.2.2.2.2.2.2.1
theorem e_X8_takesSize_62 : decode cX8_takesSize 62 = .ok (.bipush 53, 2) := D_X8_takesSize_0.2.2.2.2.2.2.2.2.2.2.2.2.2.2.2.2.2.2.2.2.2.2.2.2.2.2.2.2.2.2.2.2.2.2.1
theorem e_X8_takesSize_64 : decode cX8_takesSize 64 = .ok (.aload_n 0, 1) := D_X8_takesSize_0.2.2.2.2.2.2.2.2.2.2.2.2.2.2.2.2.2.2.2.2.2.2.2.2.2.2.2.2.2.2.2.2.2.2.2.1
theorem e_X8_takesSize_65 : decode cX8_takesSize 65 = .ok (.getfield 23, 3) := D_X8_takesSize_0.2.2.2.2.2.2.2.2.2.2.2.2.2.2.2.2.2.2.2.2.2.2.2.2.2.2.2.2.2.2.2.2.2.2.2.2.1
theorem e_X8_takesSize_68 : decode cX8_takesSize 68 = .ok (.aload_n 0, 1) := D_X8_takesSize_0.2.2.2.2.2.2.2.2.2.2.2.2.2.2.2.2.2.2.2.2.2.2.2.2.2.2.2.2.2.2.2.2.2.2.2.2.2.1
theorem e_X8_takesSize_69 : decode cX8_takesSize 69 = .ok (.getfield 169, 3) := D_X8_takesSize_0.2.2.2.2.2.2.2.2.2.2.2.2.2.2.2.2.2.2.2.2.2.2.2.2.2.2.2.2.2.2.2.2.2.2.2.2.2.2.1
theorem e_X8_takesSize_72 : decode cX8_takesSize 72 = .ok (.iaload, 1) := D_X8_takesSize_0.2.2.2.2.2.2.2.2.2.2.2.2.2.2.2.2.2.2.2.2.2.2.2.2.2.2.2.2.2.2.2.2.2.2.2.2.2.2.2.1
set_option maxRecDepth 100000 in
theorem D_X8_takesSize_1 : decode cX8_takesSize 73 = .ok (.isub, 1) ∧ decode cX8_takesSize 74 = .ok (.iastore, 1) ∧ decode cX8_takesSize 75 = .ok (.aload_n 0, 1) ∧ decode cX8_takesSize 76 = .ok (.dup, 1) ∧ decode cX8_takesSize 77 = .ok (.getfield 169, 3) ∧ decode cX8_takesSize 80 = .ok (.iconst 1, 1) ∧ decode cX8_takesSize 81 = .ok (.iadd, 1) ∧ decode cX8_takesSize 82 = .ok (.putfield 169, 3) ∧ decode cX8_takesSize 85 = .ok (.iconst 1, 1) ∧ decode cX8_takesSize 86 = .ok (.ireturn, 1) ∧ True := dq_of (l := (73, .isub, 1) :: (74, .iastore, 1) :: (75, .aload_n 0, 1) :: (76, .dup, 1) :: (77, .getfield 169, 3) :: (80, .iconst 1, 1) :: (81, .iadd, 1) :: (82, .putfield 169, 3) :: (85, .iconst 1, 1) :: (86, .ireturn, 1) :: []) (by decide +kernel)
theorem e_X8_takesSize_73 : decode cX8_takesSize 73 = .ok (.isub, 1) := D_X8_takesSize_1.1
theorem e_X8_takesSize_74 : decode cX8_takesSize 74 = .ok (.iastore, 1) := D_X8_takesSize_1.2.1
theorem e_X8_takesSize_75 : decode cX8_takesSize 75 = .ok (.aload_n 0, 1) := D_X8_takesSize_1.2.2.1
theorem e_X8_takesSize_76 : decode cX8_takesSize 76 = .ok (.dup, 1) := D_X8_takesSize_1.2.2.2.1
theorem e_X8_takesSize_77 : decode cX8_takesSize 77 = .ok (.getfield 169, 3) := D_X8_takesSize_1.2.2.2.2.1
theorem e_X8_takesSize_80 : decode cX8_takesSize 80 = .ok (.iconst 1, 1) := D_X8_takesSize_1.2.2.2.2.2.1
theorem e_X8_takesSize_81 : decode cX8_takesSize 81 = .ok (.iadd, 1) := D_X8_takesSize_1.2.2.2.2.2.2.1
theorem e_X8_takesSize_82 : decode cX8_takesSize 82 = .ok (.putfield 169, 3) := D_X8_takesSize_1.2.2.2.2.2.2.2.1
theorem e_X8_takesSize_85 : decode cX8_takesSize 85 = .ok (.iconst 1, 1) := D_X8_takesSize_1.2.2.2.2.2.2.2.2.1
theorem e_X8_takesSize_86 : decode cX8_takesSize 86 = .ok (.ireturn, 1) := D_X8_takesSize_1.2.2.2.2.2.2.2.2.2.1
set_option maxRecDepth 100000 in
theorem D_X8_takesKind_0 : decode cX8_takesKind 0 = .ok (.iconst 0, 1) ∧ decode cX8_takesKind 1 = .ok (.istore_n 1, 1) ∧ decode cX8_takesKind 2 = .ok (.iload_n 1, 1) ∧ decode cX8_takesKind 3 = .ok (.iconst 4, 1) ∧ decode cX8_takesKind 4 = .ok (.if_icmp .ge 28, 3) ∧ decode cX8_takesKind 7 = .ok (.aload_n 0, 1) ∧ decode cX8_takesKind 8 = .ok (.iconst 5, 1) ∧ decode cX8_takesKind 9 = .ok (.iload_n 1, 1) ∧ decode cX8_takesKind 10 = .ok (.iadd, 1) ∧ decode cX8_takesKind 11 = .ok (.invokevirtual 201, 3) ∧ decode cX8_takesKind 14 = .ok (.ifCond .eq 12, 3) ∧ decode cX8_takesKind 17 = .ok (.aload_n 0, 1) ∧ decode cX8_takesKind 18 = .ok (.getfield 26, 3) ∧ decode cX8_takesKind 21 = .ok (.iconst 3, 1) ∧ decode cX8_takesKind 22 = .ok (.iload_n 1, 1) ∧ decode cX8_takesKind 23 = .ok (.iastore, 1) ∧ decode cX8_takesKind 24 = .ok (.iconst 1, 1) ∧ decode cX8_takesKind 25 = .ok (.ireturn, 1) ∧ decode cX8_takesKind 26 = .ok (.iinc 1 1, 3) ∧ decode cX8_takesKind 29 = .ok (.goto (-27), 3) ∧ decode cX8_takesKind 32 = .ok (.iconst 0, 1) ∧ decode cX8_takesKind 33 = .ok (.ireturn, 1) ∧ True := dq_of (l := (0, .iconst 0, 1) :: (1, .istore_n 1, 1) :: (2, .iload_n 1, 1) :: (3, .iconst 4, 1) :: (4, .if_icmp .ge 28, 3) :: (7, .aload_n 0, 1) :: (8, .iconst 5, 1) :: (9, .iload_n 1, 1) :: (10, .iadd, 1) :: (11, .invokevirtual 201, 3) :: (14, .ifCond .eq 12, 3) :: (17, .aload_n 0, 1) :: (18, .getfield 26, 3) :: (21, .iconst 3, 1) :: (22, .iload_n 1, 1) :: (23, .iastore, 1) :: (24, .iconst 1, 1) :: (25, .ireturn, 1) :: (26, .iinc 1 1, 3) :: (29, .goto (-27), 3) :: (32, .iconst 0, 1) :: (33, .ireturn, 1) :: []) (by decide +kernel)
theorem e_X8_takesKind_0 : decode cX8_takesKind 0 = .ok (.iconst 0, 1) := D_X8_takesKind_0.1
theorem e_X8_takesKind_1 : decode cX8_takesKind 1 = .ok (.istore_n 1, 1) := D_X8_takesKind_0.2.1
theorem e_X8_takesKind_2 : decode cX8_takesKind 2 = .ok (.iload_n 1, 1) := D_X8_takesKind_0.2.2.1
theorem e_X8_takesKind_3 : decode cX8_takesKind 3 = .ok (.iconst 4, 1) := D_X8_takesKind_0.2.2.2.1
theorem e_X8_takesKind_4 : decode cX8_takesKind 4 = .ok (.if_icmp .ge 28, 3) := D_X8_takesKind_0.2.2.2.2.1
theorem e_X8_takesKind_7 : decode cX8_takesKind 7 = .ok (.aload_n 0, 1) := D_X8_takesKind_0.2.2.2.2.2.1
theorem e_X8_takesKind_8 : decode cX8_takesKind 8 = .ok (.iconst 5, 1) := D_X8_takesKind_0.2.2.2.2.2.2.1
theorem e_X8_takesKind_9 : decode cX8_takesKind 9 = .ok (.iload_n 1, 1) := D_X8_takesKind_0.2.2.2.2.2.2.2.1
theorem e_X8_takesKind_10 : decode cX8_takesKind 10 = .ok (.iadd, 1) := D_X8_takesKind_0.2.2.2.2.2.2.2.2.1
theorem e_X8_takesKind_11 : decode cX8_takesKind 11 = .ok (.invokevirtual 201, 3) := D_X8_takesKind_0.2.2.2.2.2.2.2.2.2.1
theorem e_X8_takesKind_14 : decode cX8_takesKind 14 = .ok (.ifCond .eq 12, 3) := D_X8_takesKind_0.2.2.2.2.2.2.2.2.2.2.1
theorem e_X8_takesKind_17 : decode cX8_takesKind 17 = .ok (.aload_n 0, 1) := D_X8_takesKind_0.2.2.2.2.2.2.2.2.2.2.2.1
theorem e_X8_takesKind_18 : decode cX8_takesKind 18 = .ok (.getfield 26, 3) := D_X8_takesKind_0.2.2.2.2.2.2.2.2.2.2.2.2.1
theorem e_X8_takesKind_21 : decode cX8_takesKind 21 = .ok (.iconst 3, 1) := D_X8_takesKind_0.2.2.2.2.2.2.2.2.2.2.2.2.2.1
theorem e_X8_takesKind_22 : decode cX8_takesKind 22 = .ok (.iload_n 1, 1) := D_X8_takesKind_0.2.2.2.2.2.2.2.2.2.2.2.2.2.2.1
theorem e_X8_takesKind_23 : decode cX8_takesKind 23 = .ok (.iastore, 1) := D_X8_takesKind_0.2.2.2.2.2.2.2.2.2.2.2.2.2.2.2.1
theorem e_X8_takesKind_24 : decode cX8_takesKind 24 = .ok (.iconst 1, 1) := D_X8_takesKind_0.2.2.2.2.2.2.2.2.2.2.2.2.2.2.2.2.1
theorem e_X8_takesKind_25 : decode cX8_takesKind 25 = .ok (.ireturn, 1) := D_X8_takesKind_0.2.2.2.2.2.2.2.2.2.2.2.2.2.2.2.2.2.1
theorem e_X8_takesKind_26 : decode cX8_takesKind 26 = .ok (.iinc 1 1, 3) := D_X8_takesKind_0.2.2.2.2.2.2.2.2.2.2.2.2.2.2.2.2.2.2.1
theorem e_X8_takesKind_29 : decode cX8_takesKind 29 = .ok (.goto (-27), 3) := D_X8_takesKind_0.2.2.2.2.2.2.2.2.2.2.2.2.2.2.2.2.2.2.2.1
theorem e_X8_takesKind_32 : decode cX8_takesKind 32 = .ok (.iconst 0, 1) := D_X8_takesKind_0.2.2.2.2.2.2.2.2.2.2.2.2.2.2.2.2.2.2.2.2.1
theorem e_X8_takesKind_33 : decode cX8_takesKind 33 = .ok (.ireturn, 1) := D_X8_takesKind_0.2.2.2.2.2.2.2.2.2.2.2.2.2.2.2.2.2.2.2.2.2.1
set_option maxRecDepth 100000 in
theorem D_X8_takesJob_0 : decode cX8_takesJob 0 = .ok (.aload_n 0, 1) ∧ decode cX8_takesJob 1 = .ok (.iconst 0, 1) ∧ decode cX8_takesJob 2 = .ok (.bipush 112, 2) ∧ decode cX8_takesJob 4 = .ok (.invokevirtual 204, 3) ∧ decode cX8_takesJob 7 = .ok (.ifCond .eq 22, 3) ∧ decode cX8_takesJob 10 = .ok (.aload_n 0, 1) ∧ decode cX8_takesJob 11 = .ok (.bipush 32, 2) ∧ decode cX8_takesJob 13 = .ok (.invokevirtual 175, 3) ∧ decode cX8_takesJob 16 = .ok (.ifCond .eq 13, 3) ∧ decode cX8_takesJob 19 = .ok (.aload_n 0, 1) ∧ decode cX8_takesJob 20 = .ok (.iconst 1, 1) ∧ decode cX8_takesJob 21 = .ok (.bipush 99, 2) ∧ decode cX8_takesJob 23 = .ok (.invokevirtual 204, 3) ∧ decode cX8_takesJob 26 = .ok (.ifCond .ne 5, 3) ∧ decode cX8_takesJob 29 = .ok (.iconst 0, 1) ∧ decode cX8_takesJob 30 = .ok (.ireturn, 1) ∧ decode cX8_takesJob 31 = .ok (.aload_n 0, 1) ∧ decode cX8_takesJob 32 = .ok (.getfield 26, 3) ∧ decode cX8_takesJob 35 = .ok (.iconst 4, 1) ∧ decode cX8_takesJob 36 = .ok (.aload_n 0, 1) ∧ decode cX8_takesJob 37 = .ok (.iconst 0, 1) ∧ decode cX8_takesJob 38 = .ok (.invokevirtual 207, 3) ∧ decode cX8_takesJob 41 = .ok (.ifCond .eq 7, 3) ∧ decode cX8_takesJob 44 = .ok (.iconst 1, 1) ∧ decode cX8_takesJob 45 = .ok (.goto 4, 3) ∧ decode cX8_takesJob 48 = .ok (.iconst 0, 1) ∧ decode cX8_takesJob 49 = .ok (.iastore, 1) ∧ decode cX8_takesJob 50 = .ok (.aload_n 0, 1) ∧ decode cX8_takesJob 51 = .ok (.getfield 26, 3) ∧ decode cX8_takesJob 54 = .ok (.iconst 4, 1) ∧ decode cX8_takesJob 55 = .ok (.dup2, 1) ∧ decode cX8_takesJob 56 = .ok (.iaload, 1) ∧ decode cX8_takesJob 57 = .ok (.aload_n 0, 1) ∧ decode cX8_takesJob 58 = .ok (.iconst 1, 1) ∧ decode cX8_takesJob 59 = .ok (.invokevirtual 207, 3) ∧ decode cX8_takesJob 62 = .ok (.ifCond .eq 7, 3) ∧ decode cX8_takesJob 65 = .ok (.iconst 2, 1) ∧ decode cX8_takesJob 66 = .ok (.goto 4, 3) ∧ decode cX8_takesJob 69 = .ok (.iconst 0, 1) ∧ decode cX8_takesJob 70 = .ok (.iadd, 1) ∧ True := dq_of (l := (0, .aload_n 0, 1) :: (1, .iconst 0, 1) :: (2, .bipush 112, 2) :: (4, .invokevirtual 204, 3) :: (7, .ifCond .eq 22, 3) :: (10, .aload_n 0, 1) :: (11, .bipush 32, 2) :: (13, .invokevirtual 175, 3) :: (16, .ifCond .eq 13, 3) :: (19, .aload_n 0, 1) :: (20, .iconst 1, 1) :: (21, .bipush 99, 2) :: (23, .invokevirtual 204, 3) :: (26, .ifCond .ne 5, 3) :: (29, .iconst 0, 1) :: (30, .ireturn, 1) :: (31, .aload_n 0, 1) :: (32, .getfield 26, 3) :: (35, .iconst 4, 1) :: (36, .aload_n 0, 1) :: (37, .iconst 0, 1) :: (38, .invokevirtual 207, 3) :: (41, .ifCond .eq 7, 3) :: (44, .iconst 1, 1) :: (45, .goto 4, 3) :: (48, .iconst 0, 1) :: (49, .iastore, 1) :: (50, .aload_n 0, 1) :: (51, .getfield 26, 3) :: (54, .iconst 4, 1) :: (55, .dup2, 1) :: (56, .iaload, 1) :: (57, .aload_n 0, 1) :: (58, .iconst 1, 1) :: (59, .invokevirtual 207, 3) :: (62, .ifCond .eq 7, 3) :: (65, .iconst 2, 1) :: (66, .goto 4, 3) :: (69, .iconst 0, 1) :: (70, .iadd, 1) :: []) (by decide +kernel)
theorem e_X8_takesJob_0 : decode cX8_takesJob 0 = .ok (.aload_n 0, 1) := D_X8_takesJob_0.1
theorem e_X8_takesJob_1 : decode cX8_takesJob 1 = .ok (.iconst 0, 1) := D_X8_takesJob_0.2.1
theorem e_X8_takesJob_2 : decode cX8_takesJob 2 = .ok (.bipush 112, 2) := D_X8_takesJob_0.2.2.1
theorem e_X8_takesJob_4 : decode cX8_takesJob 4 = .ok (.invokevirtual 204, 3) := D_X8_takesJob_0.2.2.2.1
theorem e_X8_takesJob_7 : decode cX8_takesJob 7 = .ok (.ifCond .eq 22, 3) := D_X8_takesJob_0.2.2.2.2.1
theorem e_X8_takesJob_10 : decode cX8_takesJob 10 = .ok (.aload_n 0, 1) := D_X8_takesJob_0.2.2.2.2.2.1
theorem e_X8_takesJob_11 : decode cX8_takesJob 11 = .ok (.bipush 32, 2) := D_X8_takesJob_0.2.2.2.2.2.2.1
theorem e_X8_takesJob_13 : decode cX8_takesJob 13 = .ok (.invokevirtual 175, 3) := D_X8_takesJob_0.2.2.2.2.2.2.2.1
theorem e_X8_takesJob_16 : decode cX8_takesJob 16 = .ok (.ifCond .eq 13, 3) := D_X8_takesJob_0.2.2.2.2.2.2.2.2.1
theorem e_X8_takesJob_19 : decode cX8_takesJob 19 = .ok (.aload_n 0, 1) := D_X8_takesJob_0.2.2.2.2.2.2.2.2.2.1
theorem e_X8_takesJob_20 : decode cX8_takesJob 20 = .ok (.iconst 1, 1) := D_X8_takesJob_0.2.2.2.2.2.2.2.2.2.2.1
theorem e_X8_takesJob_21 : decode cX8_takesJob 21 = .ok (.bipush 99, 2) := D_X8_takesJob_0.2.2.2.2.2.2.2.2.2.2.2.1
theorem e_X8_takesJob_23 : decode cX8_takesJob 23 = .ok (.invokevirtual 204, 3) := D_X8_takesJob_0.2.2.2.2.2.2.2.2.2.2.2.2.1
theorem e_X8_takesJob_26 : decode cX8_takesJob 26 = .ok (.ifCond .ne 5, 3) := D_X8_takesJob_0.2.2.2.2.2.2.2.2.2.2.2.2.2.1
theorem e_X8_takesJob_29 : decode cX8_takesJob 29 = .ok (.iconst 0, 1) := D_X8_takesJob_0.2.2.2.2.2.2.2.2.2.2.2.2.2.2.1
theorem e_X8_takesJob_30 : decode cX8_takesJob 30 = .ok (.ireturn, 1) := D_X8_takesJob_0.2.2.2.2.2.2.2.2.2.2.2.2.2.2.2.1
theorem e_X8_takesJob_31 : decode cX8_takesJob 31 = .ok (.aload_n 0, 1) := D_X8_takesJob_0.2.2.2.2.2.2.2.2.2.2.2.2.2.2.2.2.1
theorem e_X8_takesJob_32 : decode cX8_takesJob 32 = .ok (.getfield 26, 3) := D_X8_takesJob_0.2.2.2.2.2.2.2.2.2.2.2.2.2.2.2.2.2.1
theorem e_X8_takesJob_35 : decode cX8_takesJob 35 = .ok (.iconst 4, 1) := D_X8_takesJob_0.2.2.2.2.2.2.2.2.2.2.2.2.2.2.2.2.2.2.1
theorem e_X8_takesJob_36 : decode cX8_takesJob 36 = .ok (.aload_n 0, 1) := D_X8_takesJob_0.2.2.2.2.2.2.2.2.2.2.2.2.2.2.2.2.2.2.2.1
theorem e_X8_takesJob_37 : decode cX8_takesJob 37 = .ok (.iconst 0, 1) := D_X8_takesJob_0.2.2.2.2.2.2.2.2.2.2.2.2.2.2.2.2.2.2.2.2.1
theorem e_X8_takesJob_38 : decode cX8_takesJob 38 = .ok (.invokevirtual 207, 3) := D_X8_takesJob_0.2.2.2.2.2.2.2.2.2.2.2.2.2.2.2.2.2.2.2.2.2.1
theorem e_X8_takesJob_41 : decode cX8_takesJob 41 = .ok (.ifCond .eq 7, 3) := D_X8_takesJob_0.2.2.2.2.2.2.2.2.2.2.2.2.2.2.2.2.2.2.2.2.2.2.1
theorem e_X8_takesJob_44 : decode cX8_takesJob 44 = .ok (.iconst 1, 1) := D_X8_takesJob_0.2.2.2.2.2.2.2.2.2.2.2.2.2.2.2.2.2.2.2.2.2.2.2.1
theorem e_X8_takesJob_45 : decode cX8_takesJob 45 = .ok (.goto 4, 3) := D_X8_takesJob_0.2.2.2.2.2.2.2.2.2.2.2.2.2.2.2.2.2.2.2.2.2.2.2.2.1
theorem e_X8_takesJob_48 : decode cX8_takesJob 48 = .ok (.iconst 0, 1) := D_X8_takesJob_0.2.2.2.2.2.2.2.2.2.2.2.2.2.2.2.2.2.2.2.2.2.2.2.2.2.1
theorem e_X8_takesJob_49 : decode cX8_takesJob 49 = .ok (.iastore, 1) := D_X8_takesJob_0.2.2.2.2.2.2.2.2.2.2.2.2.2.2.2.2.2.2.2.2.2.2.2.2.2.2.1
theorem e_X8_takesJob_50 : decode cX8_takesJob 50 = .ok (.aload_n 0, 1) := D_X8_takesJob_0.2.2.2.2.2.2.2.2.2.2.2.2.2.2.2.2.2.2.2.2.2.2.2.2.2.2.2.1
theorem e_X8_takesJob_51 : decode cX8_takesJob 51 = .ok (.getfield 26, 3) := D_X8_takesJob_0.2.2.2.2.2.2.2.2.2.2.2.2.2.2.2.2.2.2.2.2.2.2.2.2.2.2.2.2.1
theorem e_X8_takesJob_54 : decode cX8_takesJob 54 = .ok (.iconst 4, 1) := D_X8_takesJob_0.2.2.2.2.2.2.2.2.2.2.2.2.2.2.2.2.2.2.2.2.2.2.2.2.2.2.2.2.2.1
theorem e_X8_takesJob_55 : decode cX8_takesJob 55 = .ok (.dup2, 1) := D_X8_takesJob_0.2.2.2.2.2.2.2.2.2.2.2.2.2.2.2.2.2.2.2.2.2.2.2.2.2.2.2.2.2.2.1
theorem e_X8_takesJob_56 : decode cX8_takesJob 56 = .ok (.iaload, 1) := D_X8_takesJob_0.2.2.2.2.2.2.2.2.2.2.2.2.2.2.2.2.2.2.2.2.2.2.2.2.2.2.2.2.2.2.2.1
theorem e_X8_takesJob_57 : decode cX8_takesJob 57 = .ok (.aload_n 0, 1) := D_X8_takesJob_0.2.2.2.2.2.2.2.2.2.2.2.2.2.2.2.2.2.2.2.2.2.2.2.2.2.2.2.2.2.2.2.2.1
theorem e_X8_takesJob_58 : decode cX8_takesJob 58 = .ok (.iconst 1, 1) := D_X8_takesJob_0.2.2.2.2.2.2.2.2.2.2.2.2.2.2.2.2.2.2.2.2.2.2.2.2.2.2.2.2.2.2.2.2.2.1
theorem e_X8_takesJob_59 : decode cX8_takesJob 59 = .ok (.invokevirtual 207, 3) := D_X8_takesJob_0.2.2.2.2.2.2.2.2.2.2.2.2.2.2.2.2.2.2.2.2.2.2.2.2.2.2.2.2.2.2.2.2.2.2.1
theorem e_X8_takesJob_62 : decode cX8_takesJob 62 = .ok (.ifCond .eq 7, 3) := D_X8_takesJob_0.2.2.2.2.2.2.2.2.2.2.2.2.2.2.2.2.2.2.2.2.2.2.2.2.2.2.2.2.2.2.2.2.2.2.2.1
theorem e_X8_takesJob_65 : decode cX8_takesJob 65 = .ok (.iconst 2, 1) := D_X8_takesJob_0.2.2.2.2.2.2.2.2.2.2.2.2.2.2.2.2.2.2.2.2.2.2.2.2.2.2.2.2.2.2.2.2.2.2.2.2.1
theorem e_X8_takesJob_66 : decode cX8_takesJob 66 = .ok (.goto 4, 3) := D_X8_takesJob_0.2.2.2.2.2.2.2.2.2.2.2.2.2.2.2.2.2.2.2.2.2.2.2.2.2.2.2.2.2.2.2.2.2.2.2.2.2.1
theorem e_X8_takesJob_69 : decode cX8_takesJob 69 = .ok (.iconst 0, 1) := D_X8_takesJob_0.2.2.2.2.2.2.2.2.2.2.2.2.2.2.2.2.2.2.2.2.2.2.2.2.2.2.2.2.2.2.2.2.2.2.2.2.2.2.1
theorem e_X8_takesJob_70 : decode cX8_takesJob 70 = .ok (.iadd, 1) := D_X8_takesJob_0.2.2.2.2.2.2.2.2.2.2.2.2.2.2.2.2.2.2.2.2.2.2.2.2.2.2.2.2.2.2.2.2.2.2.2.2.2.2.2.1
set_option maxRecDepth 100000 in
theorem D_X8_takesJob_1 : decode cX8_takesJob 71 = .ok (.iastore, 1) ∧ decode cX8_takesJob 72 = .ok (.aload_n 0, 1) ∧ decode cX8_takesJob 73 = .ok (.iconst 2, 1) ∧ decode cX8_takesJob 74 = .ok (.invokevirtual 207, 3) ∧ decode cX8_takesJob 77 = .ok (.ifCond .eq 57, 3) ∧ decode cX8_takesJob 80 = .ok (.aload_n 0, 1) ∧ decode cX8_takesJob 81 = .ok (.bipush 49, 2) ∧ decode cX8_takesJob 83 = .ok (.invokevirtual 172, 3) ∧ decode cX8_takesJob 86 = .ok (.ifCond .ne 14, 3) ∧ decode cX8_takesJob 89 = .ok (.aload_n 0, 1) ∧ decode cX8_takesJob 90 = .ok (.bipush 50, 2) ∧ decode cX8_takesJob 92 = .ok (.invokevirtual 172, 3) ∧ decode cX8_takesJob 95 = .ok (.ifCond .ne 5, 3) ∧ decode cX8_takesJob 98 = .ok (.iconst 0, 1) ∧ decode cX8_takesJob 99 = .ok (.ireturn, 1) ∧ decode cX8_takesJob 100 = .ok (.aload_n 0, 1) ∧ decode cX8_takesJob 101 = .ok (.getfield 26, 3) ∧ decode cX8_takesJob 104 = .ok (.iconst 4, 1) ∧ decode cX8_takesJob 105 = .ok (.dup2, 1) ∧ decode cX8_takesJob 106 = .ok (.iaload, 1) ∧ decode cX8_takesJob 107 = .ok (.aload_n 0, 1) ∧ decode cX8_takesJob 108 = .ok (.bipush 49, 2) ∧ decode cX8_takesJob 110 = .ok (.invokevirtual 172, 3) ∧ decode cX8_takesJob 113 = .ok (.ifCond .eq 7, 3) ∧ decode cX8_takesJob 116 = .ok (.iconst 4, 1) ∧ decode cX8_takesJob 117 = .ok (.goto 5, 3) ∧ decode cX8_takesJob 120 = .ok (.bipush 8, 2) ∧ decode cX8_takesJob 122 = .ok (.iadd, 1) ∧ decode cX8_takesJob 123 = .ok (.iastore, 1) ∧ decode cX8_takesJob 124 = .ok (.aload_n 0, 1) ∧ decode cX8_takesJob 125 = .ok (.dup, 1) ∧ decode cX8_takesJob 126 = .ok (.getfield 169, 3) ∧ decode cX8_takesJob 129 = .ok (.iconst 1, 1) ∧ decode cX8_takesJob 130 = .ok (.iadd, 1) ∧ decode cX8_takesJob 131 = .ok (.putfield 169, 3) ∧ decode cX8_takesJob 134 = .ok (.aload_n 0, 1) ∧ decode cX8_takesJob 135 = .ok (.bipush 32, 2) ∧ decode cX8_takesJob 137 = .ok (.invokevirtual 175, 3) ∧ decode cX8_takesJob 140 = .ok (.ifCond .eq 39, 3) ∧ decode cX8_takesJob 143 = .ok (.aload_n 0, 1) ∧ True := dq_of (l := (71, .iastore, 1) :: (72, .aload_n 0, 1) :: (73, .iconst 2, 1) :: (74, .invokevirtual 207, 3) :: (77, .ifCond .eq 57, 3) :: (80, .aload_n 0, 1) :: (81, .bipush 49, 2) :: (83, .invokevirtual 172, 3) :: (86, .ifCond .ne 14, 3) :: (89, .aload_n 0, 1) :: (90, .bipush 50, 2) :: (92, .invokevirtual 172, 3) :: (95, .ifCond .ne 5, 3) :: (98, .iconst 0, 1) :: (99, .ireturn, 1) :: (100, .aload_n 0, 1) :: (101, .getfield 26, 3) :: (104, .iconst 4, 1) :: (105, .dup2, 1) :: (106, .iaload, 1) :: (107, .aload_n 0, 1) :: (108, .bipush 49, 2) :: (110, .invokevirtual 172, 3) :: (113, .ifCond .eq 7, 3) :: (116, .iconst 4, 1) :: (117, .goto 5, 3) :: (120, .bipush 8, 2) :: (122, .iadd, 1) :: (123, .iastore, 1) :: (124, .aload_n 0, 1) :: (125, .dup, 1) :: (126, .getfield 169, 3) :: (129, .iconst 1, 1) :: (130, .iadd, 1) :: (131, .putfield 169, 3) :: (134, .aload_n 0, 1) :: (135, .bipush 32, 2) :: (137, .invokevirtual 175, 3) :: (140, .ifCond .eq 39, 3) :: (143, .aload_n 0, 1) :: []) (by decide +kernel)
theorem e_X8_takesJob_71 : decode cX8_takesJob 71 = .ok (.iastore, 1) := D_X8_takesJob_1.1
theorem e_X8_takesJob_72 : decode cX8_takesJob 72 = .ok (.aload_n 0, 1) := D_X8_takesJob_1.2.1
theorem e_X8_takesJob_73 : decode cX8_takesJob 73 = .ok (.iconst 2, 1) := D_X8_takesJob_1.2.2.1
theorem e_X8_takesJob_74 : decode cX8_takesJob 74 = .ok (.invokevirtual 207, 3) := D_X8_takesJob_1.2.2.2.1
theorem e_X8_takesJob_77 : decode cX8_takesJob 77 = .ok (.ifCond .eq 57, 3) := D_X8_takesJob_1.2.2.2.2.1
theorem e_X8_takesJob_80 : decode cX8_takesJob 80 = .ok (.aload_n 0, 1) := D_X8_takesJob_1.2.2.2.2.2.1
theorem e_X8_takesJob_81 : decode cX8_takesJob 81 = .ok (.bipush 49, 2) := D_X8_takesJob_1.2.2.2.2.2.2.1
theorem e_X8_takesJob_83 : decode cX8_takesJob 83 = .ok (.invokevirtual 172, 3) := D_X8_takesJob_1.2.2.2.2.2.2.2.1
theorem e_X8_takesJob_86 : decode cX8_takesJob 86 = .ok (.ifCond .ne 14, 3) := D_X8_takesJob_1.2.2.2.2.2.2.2.2.1
theorem e_X8_takesJob_89 : decode cX8_takesJob 89 = .ok (.aload_n 0, 1) := D_X8_takesJob_1.2.2.2.2.2.2.2.2.2.1
theorem e_X8_takesJob_90 : decode cX8_takesJob 90 = .ok (.bipush 50, 2) := D_X8_takesJob_1.2.2.2.2.2.2.2.2.2.2.1
theorem e_X8_takesJob_92 : decode cX8_takesJob 92 = .ok (.invokevirtual 172, 3) := D_X8_takesJob_1.2.2.2.2.2.2.2.2.2.2.2.1
theorem e_X8_takesJob_95 : decode cX8_takesJob 95 = .ok (.ifCond .ne 5, 3) := D_X8_takesJob_1.2.2.2.2.2.2.2.2.2.2.2.2.1
theorem e_X8_takesJob_98 : decode cX8_takesJob 98 = .ok (.iconst 0, 1) := D_X8_takesJob_1.2.2.2.2.2.2.2.2.2.2.2.2.2.1
theorem e_X8_takesJob_99 : decode cX8_takesJob 99 = .ok (.ireturn, 1) := D_X8_takesJob_1.2.2.2.2.2.2.2.2.2.2.2.2.2.2.1
theorem e_X8_takesJob_100 : decode cX8_takesJob 100 = .ok (.aload_n 0, 1) := D_X8_takesJob_1.2.2.2.2.2.2.2.2.2.2.2.2.2.2.2.1
theorem e_X8_takesJob_101 : decode cX8_takesJob 101 = .ok (.getfield 26, 3) := D_X8_takesJob_1.2.2.2.2.2.2.2.2.2.2.2.2.2.2.2.2.1
theorem e_X8_takesJob_104 : decode cX8_takesJob 104 = .ok (.iconst 4, 1) := D_X8_takesJob_1.2.2.2.2.2.2.2.2.2.2.2.2.2.2.2.2.2.1
theorem e_X8_takesJob_105 : decode cX8_takesJob 105 = .ok (.dup2, 1) := D_X8_takesJob_1.2.2.2.2.2.2.2.2.2.2.2.2.2.2.2.2.2.2.1
theorem e_X8_takesJob_106 : decode cX8_takesJob 106 = .ok (.iaload, 1) := D_X8_takesJob_1.2.2.2.2.2.2.2.2.2.2.2.2.2.2.2.2.2.2.2.1
theorem e_X8_takesJob_107 : decode cX8_takesJob 107 = .ok (.aload_n 0, 1) := D_X8_takesJob_1.2.2.2.2.2.2.2.2.2.2.2.2.2.2.2.2.2.2.2.2.1
theorem e_X8_takesJob_108 : decode cX8_takesJob 108 = .ok (.bipush 49, 2) := D_X8_takesJob_1.2.2.2.2.2.2.2.2.2.2.2.2.2.2.2.2.2.2.2.2.2.1
theorem e_X8_takesJob_110 : decode cX8_takesJob 110 = .ok (.invokevirtual 172, 3) := D_X8_takesJob_1.2.2.2.2.2.2.2.2.2.2.2.2.2.2.2.2.2.2.2.2.2.2.1
theorem e_X8_takesJob_113 : decode cX8_takesJob 113 = .ok (.ifCond .eq 7, 3) := D_X8_takesJob_1.2.2.2.2.2.2.2.2.2.2.2.2.2.2.2.2.2.2.2.2.2.2.2.1
theorem e_X8_takesJob_116 : decode cX8_takesJob 116 = .ok (.iconst 4, 1) := D_X8_takesJob_1.2.2.2.2.2.2.2.2.2.2.2.2.2.2.2.2.2.2.2.2.2.2.2.2.1
theorem e_X8_takesJob_117 : decode cX8_takesJob 117 = .ok (.goto 5, 3) := D_X8_takesJob_1.2.2.2.2.2.2.2.2.2.2.2.2.2.2.2.2.2.2.2.2.2.2.2.2.2.1
theorem e_X8_takesJob_120 : decode cX8_takesJob 120 = .ok (.bipush 8, 2) := D_X8_takesJob_1.2.2.2.2.2.2.2.2.2.2.2.2.2.2.2.2.2.2.2.2.2.2.2.2.2.2.1
theorem e_X8_takesJob_122 : decode cX8_takesJob 122 = .ok (.iadd, 1) := D_X8_takesJob_1.2.2.2.2.2.2.2.2.2.2.2.2.2.2.2.2.2.2.2.2.2.2.2.2.2.2.2.1
theorem e_X8_takesJob_123 : decode cX8_takesJob 123 = .ok (.iastore, 1) := D_X8_takesJob_1.2.2.2.2.2.2.2.2.2.2.2.2.2.2.2.2.2.2.2.2.2.2.2.2.2.2.2.2.1
theorem e_X8_takesJob_124 : decode cX8_takesJob 124 = .ok (.aload_n 0, 1) := D_X8_takesJob_1.2.2.2.2.2.2.2.2.2.2.2.2.2.2.2.2.2.2.2.2.2.2.2.2.2.2.2.2.2.1
theorem e_X8_takesJob_125 : decode cX8_takesJob 125 = .ok (.dup, 1) := D_X8_takesJob_1.2.2.2.2.2.2.2.2.2.2.2.2.2.2.2.2.2.2.2.2.2.2.2.2.2.2.2.2.2.2.1
theorem e_X8_takesJob_126 : decode cX8_takesJob 126 = .ok (.getfield 169, 3) := D_X8_takesJob_1.2.2.2.2.2.2.2.2.2.2.2.2.2.2.2.2.2.2.2.2.2.2.2.2.2.2.2.2.2.2.2.1
theorem e_X8_takesJob_129 : decode cX8_takesJob 129 = .ok (.iconst 1, 1) := D_X8_takesJob_1.2.2.2.2.2.2.2.2.2.2.2.2.2.2.2.2.2.2.2.2.2.2.2.2.2.2.2.2.2.2.2.2.1
theorem e_X8_takesJob_130 : decode cX8_takesJob 130 = .ok (.iadd, 1) := D_X8_takesJob_1.2.2.2.2.2.2.2.2.2.2.2.2.2.2.2.2.2.2.2.2.2.2.2.2.2.2.2.2.2.2.2.2.2.1
theorem e_X8_takesJob_131 : decode cX8_takesJob 131 = .ok (.putfield 169, 3) := D_X8_takesJob_1.2.2.2.2.2.2.2.2.2.2.2.2.2.2.2.2.2.2.2.2.2.2.2.2.2.2.2.2.2.2.2.2.2.2.1
theorem e_X8_takesJob_134 : decode cX8_takesJob 134 = .ok (.aload_n 0, 1) := D_X8_takesJob_1.2.2.2.2.2.2.2.2.2.2.2.2.2.2.2.2.2.2.2.2.2.2.2.2.2.2.2.2.2.2.2.2.2.2.2.1
theorem e_X8_takesJob_135 : decode cX8_takesJob 135 = .ok (.bipush 32, 2) := D_X8_takesJob_1.2.2.2.2.2.2.2.2.2.2.2.2.2.2.2.2.2.2.2.2.2.2.2.2.2.2.2.2.2.2.2.2.2.2.2.2.1
theorem e_X8_takesJob_137 : decode cX8_takesJob 137 = .ok (.invokevirtual 175, 3) := D_X8_takesJob_1.2.2.2.2.2.2.2.2.2.2.2.2.2.2.2.2.2.2.2.2.2.2.2.2.2.2.2.2.2.2.2.2.2.2.2.2.2.1
theorem e_X8_takesJob_140 : decode cX8_takesJob 140 = .ok (.ifCond .eq 39, 3) := D_X8_takesJob_1.2.2.2.2.2.2.2.2.2.2.2.2.2.2.2.2.2.2.2.2.2.2.2.2.2.2.2.2.2.2.2.2.2.2.2.2.2.2.1
theorem e_X8_takesJob_143 : decode cX8_takesJob 143 = .ok (.aload_n 0, 1) := D_X8_takesJob_1.2.2.2.2.2.2.2.2.2.2.2.2.2.2.2.2.2.2.2.2.2.2.2.2.2.2.2.2.2.2.2.2.2.2.2.2.2.2.2.1
set_option maxRecDepth 100000 in
theorem D_X8_takesJob_2 : decode cX8_takesJob 144 = .ok (.invokevirtual 210, 3) ∧ decode cX8_takesJob 147 = .ok (.ifCond .eq 32, 3) ∧ decode cX8_takesJob 150 = .ok (.aload_n 0, 1) ∧ decode cX8_takesJob 151 = .ok (.bipush 32, 2) ∧ decode cX8_takesJob 153 = .ok (.invokevirtual 175, 3) ∧ decode cX8_takesJob 156 = .ok (.ifCond .eq 23, 3) ∧ decode cX8_takesJob 159 = .ok (.aload_n 0, 1) ∧ decode cX8_takesJob 160 = .ok (.invokevirtual 214, 3) ∧ decode cX8_takesJob 163 = .ok (.ifCond .eq 16, 3) ∧ decode cX8_takesJob 166 = .ok (.aload_n 0, 1) ∧ decode cX8_takesJob 167 = .ok (.bipush 59, 2) ∧ decode cX8_takesJob 169 = .ok (.invokevirtual 175, 3) ∧ decode cX8_takesJob 172 = .ok (.ifCond .eq 7, 3) ∧ decode cX8_takesJob 175 = .ok (.iconst 1, 1) ∧ decode cX8_takesJob 176 = .ok (.goto 4, 3) ∧ decode cX8_takesJob 179 = .ok (.iconst 0, 1) ∧ decode cX8_takesJob 180 = .ok (.ireturn, 1) ∧ True := dq_of (l := (144, .invokevirtual 210, 3) :: (147, .ifCond .eq 32, 3) :: (150, .aload_n 0, 1) :: (151, .bipush 32, 2) :: (153, .invokevirtual 175, 3) :: (156, .ifCond .eq 23, 3) :: (159, .aload_n 0, 1) :: (160, .invokevirtual 214, 3) :: (163, .ifCond .eq 16, 3) :: (166, .aload_n 0, 1) :: (167, .bipush 59, 2) :: (169, .invokevirtual 175, 3) :: (172, .ifCond .eq 7, 3) :: (175, .iconst 1, 1) :: (176, .goto 4, 3) :: (179, .iconst 0, 1) :: (180, .ireturn, 1) :: []) (by decide +kernel)
theorem e_X8_takesJob_144 : decode cX8_takesJob 144 = .ok (.invokevirtual 210, 3) := D_X8_takesJob_2.1
theorem e_X8_takesJob_147 : decode cX8_takesJob 147 = .ok (.ifCond .eq 32, 3) := D_X8_takesJob_2.2.1
theorem e_X8_takesJob_150 : decode cX8_takesJob 150 = .ok (.aload_n 0, 1) := D_X8_takesJob_2.2.2.1
theorem e_X8_takesJob_151 : decode cX8_takesJob 151 = .ok (.bipush 32, 2) := D_X8_takesJob_2.2.2.2.1
theorem e_X8_takesJob_153 : decode cX8_takesJob 153 = .ok (.invokevirtual 175, 3) := D_X8_takesJob_2.2.2.2.2.1
theorem e_X8_takesJob_156 : decode cX8_takesJob 156 = .ok (.ifCond .eq 23, 3) := D_X8_takesJob_2.2.2.2.2.2.1
theorem e_X8_takesJob_159 : decode cX8_takesJob 159 = .ok (.aload_n 0, 1) := D_X8_takesJob_2.2.2.2.2.2.2.1
theorem e_X8_takesJob_160 : decode cX8_takesJob 160 = .ok (.invokevirtual 214, 3) := D_X8_takesJob_2.2.2.2.2.2.2.2.1
theorem e_X8_takesJob_163 : decode cX8_takesJob 163 = .ok (.ifCond .eq 16, 3) := D_X8_takesJob_2.2.2.2.2.2.2.2.2.1
theorem e_X8_takesJob_166 : decode cX8_takesJob 166 = .ok (.aload_n 0, 1) := D_X8_takesJob_2.2.2.2.2.2.2.2.2.2.1
theorem e_X8_takesJob_167 : decode cX8_takesJob 167 = .ok (.bipush 59, 2) := D_X8_takesJob_2.2.2.2.2.2.2.2.2.2.2.1
theorem e_X8_takesJob_169 : decode cX8_takesJob 169 = .ok (.invokevirtual 175, 3) := D_X8_takesJob_2.2.2.2.2.2.2.2.2.2.2.2.1
theorem e_X8_takesJob_172 : decode cX8_takesJob 172 = .ok (.ifCond .eq 7, 3) := D_X8_takesJob_2.2.2.2.2.2.2.2.2.2.2.2.2.1
theorem e_X8_takesJob_175 : decode cX8_takesJob 175 = .ok (.iconst 1, 1) := D_X8_takesJob_2.2.2.2.2.2.2.2.2.2.2.2.2.2.1
theorem e_X8_takesJob_176 : decode cX8_takesJob 176 = .ok (.goto 4, 3) := D_X8_takesJob_2.2.2.2.2.2.2.2.2.2.2.2.2.2.2.1
theorem e_X8_takesJob_179 : decode cX8_takesJob 179 = .ok (.iconst 0, 1) := D_X8_takesJob_2.2.2.2.2.2.2.2.2.2.2.2.2.2.2.2.1
theorem e_X8_takesJob_180 : decode cX8_takesJob 180 = .ok (.ireturn, 1) := D_X8_takesJob_2.2.2.2.2.2.2.2.2.2.2.2.2.2.2.2.2.1
set_option maxRecDepth 100000 in
theorem D_X8_hasFault_0 : decode cX8_hasFault 0 = .ok (.aload_n 0, 1) ∧ decode cX8_hasFault 1 = .ok (.iconst 0, 1) ∧ decode cX8_hasFault 2 = .ok (.putfield 169, 3) ∧ decode cX8_hasFault 5 = .ok (.aload_n 0, 1) ∧ decode cX8_hasFault 6 = .ok (.iconst 0, 1) ∧ decode cX8_hasFault 7 = .ok (.putfield 217, 3) ∧ decode cX8_hasFault 10 = .ok (.aload_n 0, 1) ∧ decode cX8_hasFault 11 = .ok (.getfield 169, 3) ∧ decode cX8_hasFault 14 = .ok (.aload_n 0, 1) ∧ decode cX8_hasFault 15 = .ok (.getfield 166, 3) ∧ decode cX8_hasFault 18 = .ok (.if_icmp .ge 127, 3) ∧ decode cX8_hasFault 21 = .ok (.aload_n 0, 1) ∧ decode cX8_hasFault 22 = .ok (.getfield 169, 3) ∧ decode cX8_hasFault 25 = .ok (.istore_n 1, 1) ∧ decode cX8_hasFault 26 = .ok (.aload_n 0, 1) ∧ decode cX8_hasFault 27 = .ok (.invokevirtual 220, 3) ∧ decode cX8_hasFault 30 = .ok (.ifCond .ne 7, 3) ∧ decode cX8_hasFault 33 = .ok (.iconst 1, 1) ∧ decode cX8_hasFault 34 = .ok (.goto 81, 3) ∧ decode cX8_hasFault 37 = .ok (.aload_n 0, 1) ∧ decode cX8_hasFault 38 = .ok (.getfield 26, 3) ∧ decode cX8_hasFault 41 = .ok (.iconst 0, 1) ∧ decode cX8_hasFault 42 = .ok (.iaload, 1) ∧ decode cX8_hasFault 43 = .ok (.invokestatic 70, 3) ∧ decode cX8_hasFault 46 = .ok (.ifCond .eq 15, 3) ∧ decode cX8_hasFault 49 = .ok (.aload_n 0, 1) ∧ decode cX8_hasFault 50 = .ok (.getfield 26, 3) ∧ decode cX8_hasFault 53 = .ok (.iconst 1, 1) ∧ decode cX8_hasFault 54 = .ok (.iaload, 1) ∧ decode cX8_hasFault 55 = .ok (.invokestatic 73, 3) ∧ decode cX8_hasFault 58 = .ok (.ifCond .ne 7, 3) ∧ decode cX8_hasFault 61 = .ok (.iconst 2, 1) ∧ decode cX8_hasFault 62 = .ok (.goto 53, 3) ∧ decode cX8_hasFault 65 = .ok (.aload_n 0, 1) ∧ decode cX8_hasFault 66 = .ok (.aload_n 0, 1) ∧ decode cX8_hasFault 67 = .ok (.getfield 26, 3) ∧ decode cX8_hasFault 70 = .ok (.iconst 0, 1) ∧ decode cX8_hasFault 71 = .ok (.iaload, 1) ∧ decode cX8_hasFault 72 = .ok (.aload_n 0, 1) ∧ decode cX8_hasFault 73 = .ok (.getfield 26, 3) ∧ True := dq_of (l := (0, .aload_n 0, 1) :: (1, .iconst 0, 1) :: (2, .putfield 169, 3) :: (5, .aload_n 0, 1) :: (6, .iconst 0, 1) :: (7, .putfield 217, 3) :: (10, .aload_n 0, 1) :: (11, .getfield 169, 3) :: (14, .aload_n 0, 1) :: (15, .getfield 166, 3) :: (18, .if_icmp .ge 127, 3) :: (21, .aload_n 0, 1) :: (22, .getfield 169, 3) :: (25, .istore_n 1, 1) :: (26, .aload_n 0, 1) :: (27, .invokevirtual 220, 3) :: (30, .ifCond .ne 7, 3) :: (33, .iconst 1, 1) :: (34, .goto 81, 3) :: (37, .aload_n 0, 1) :: (38, .getfield 26, 3) :: (41, .iconst 0, 1) :: (42, .iaload, 1) :: (43, .invokestatic 70, 3) :: (46, .ifCond .eq 15, 3) :: (49, .aload_n 0, 1) :: (50, .getfield 26, 3) :: (53, .iconst 1, 1) :: (54, .iaload, 1) :: (55, .invokestatic 73, 3) :: (58, .ifCond .ne 7, 3) :: (61, .iconst 2, 1) :: (62, .goto 53, 3) :: (65, .aload_n 0, 1) :: (66, .aload_n 0, 1) :: (67, .getfield 26, 3) :: (70, .iconst 0, 1) :: (71, .iaload, 1) :: (72, .aload_n 0, 1) :: (73, .getfield 26, 3) :: []) (by decide +kernel)
theorem e_X8_hasFault_0 : decode cX8_hasFault 0 = .ok (.aload_n 0, 1) := D_X8_hasFault_0.1
theorem e_X8_hasFault_1 : decode cX8_hasFault 1 = .ok (.iconst 0, 1) := D_X8_hasFault_0.2.1
theorem e_X8_hasFault_2 : decode cX8_hasFault 2 = .ok (.putfield 169, 3) := D_X8_hasFault_0.2.2.1
theorem e_X8_hasFault_5 : decode cX8_hasFault 5 = .ok (.aload_n 0, 1) := D_X8_hasFault_0.2.2.2.1
theorem e_X8_hasFault_6 : decode cX8_hasFault 6 = .ok (.iconst 0, 1) := D_X8_hasFault_0.2.2.2.2.1
theorem e_X8_hasFault_7 : decode cX8_hasFault 7 = .ok (.putfield 217, 3) := D_X8_hasFault_0.2.2.2.2.2.1
theorem e_X8_hasFault_10 : decode cX8_hasFault 10 = .ok (.aload_n 0, 1) := D_X8_hasFault_0.2.2.2.2.2.2.1
theorem e_X8_hasFault_11 : decode cX8_hasFault 11 = .ok (.getfield 169, 3) := D_X8_hasFault_0.2.2.2.2.2.2.2.1
theorem e_X8_hasFault_14 : decode cX8_hasFault 14 = .ok (.aload_n 0, 1) := D_X8_hasFault_0.2.2.2.2.2.2.2.2.1
theorem e_X8_hasFault_15 : decode cX8_hasFault 15 = .ok (.getfield 166, 3) := D_X8_hasFault_0.2.2.2.2.2.2.2.2.2.1
theorem e_X8_hasFault_18 : decode cX8_hasFault 18 = .ok (.if_icmp .ge 127, 3) := D_X8_hasFault_0.2.2.2.2.2.2.2.2.2.2.1
theorem e_X8_hasFault_21 : decode cX8_hasFault 21 = .ok (.aload_n 0, 1) := D_X8_hasFault_0.2.2.2.2.2.2.2.2.2.2.2.1
theorem e_X8_hasFault_22 : decode cX8_hasFault 22 = .ok (.getfield 169, 3) := D_X8_hasFault_0.2.2.2.2.2.2.2.2.2.2.2.2.1
theorem e_X8_hasFault_25 : decode cX8_hasFault 25 = .ok (.istore_n 1, 1) := D_X8_hasFault_0.2.2.2.2.2.2.2.2.2.2.2.2.2.1
theorem e_X8_hasFault_26 : decode cX8_hasFault 26 = .ok (.aload_n 0, 1) := D_X8_hasFault_0.2.2.2.2.2.2.2.2.2.2.2.2.2.2.1
theorem e_X8_hasFault_27 : decode cX8_hasFault 27 = .ok (.invokevirtual 220, 3) := D_X8_hasFault_0.2.2.2.2.2.2.2.2.2.2.2.2.2.2.2.1
theorem e_X8_hasFault_30 : decode cX8_hasFault 30 = .ok (.ifCond .ne 7, 3) := D_X8_hasFault_0.2.2.2.2.2.2.2.2.2.2.2.2.2.2.2.2.1
theorem e_X8_hasFault_33 : decode cX8_hasFault 33 = .ok (.iconst 1, 1) := D_X8_hasFault_0.2.2.2.2.2.2.2.2.2.2.2.2.2.2.2.2.2.1
theorem e_X8_hasFault_34 : decode cX8_hasFault 34 = .ok (.goto 81, 3) := D_X8_hasFault_0.2.2.2.2.2.2.2.2.2.2.2.2.2.2.2.2.2.2.1
theorem e_X8_hasFault_37 : decode cX8_hasFault 37 = .ok (.aload_n 0, 1) := D_X8_hasFault_0.2.2.2.2.2.2.2.2.2.2.2.2.2.2.2.2.2.2.2.1
theorem e_X8_hasFault_38 : decode cX8_hasFault 38 = .ok (.getfield 26, 3) := D_X8_hasFault_0.2.2.2.2.2.2.2.2.2.2.2.2.2.2.2.2.2.2.2.2.1
theorem e_X8_hasFault_41 : decode cX8_hasFault 41 = .ok (.iconst 0, 1) := D_X8_hasFault_0.2.2.2.2.2.2.2.2.2.2.2.2.2.2.2.2.2.2.2.2.2.1
theorem e_X8_hasFault_42 : decode cX8_hasFault 42 = .ok (.iaload, 1) := D_X8_hasFault_0.2.2.2.2.2.2.2.2.2.2.2.2.2.2.2.2.2.2.2.2.2.2.1
theorem e_X8_hasFault_43 : decode cX8_hasFault 43 = .ok (.invokestatic 70, 3) := D_X8_hasFault_0.2.2.2.2.2.2.2.2.2.2.2.2.2.2.2.2.2.2.2.2.2.2.2.1
theorem e_X8_hasFault_46 : decode cX8_hasFault 46 = .ok (.ifCond .eq 15, 3) := D_X8_hasFault_0.2.2.2.2.2.2.2.2.2.2.2.2.2.2.2.2.2.2.2.2.2.2.2.2.1
theorem e_X8_hasFault_49 : decode cX8_hasFault 49 = .ok (.aload_n 0, 1) := D_X8_hasFault_0.2.2.2.2.2.2.2.2.2.2.2.2.2.2.2.2.2.2.2.2.2.2.2.2.2.1
theorem e_X8_hasFault_50 : decode cX8_hasFault 50 = .ok (.getfield 26, 3) := D_X8_hasFault_0.2.2.2.2.2.2.2.2.2.2.2.2.2.2.2.2.2.2.2.2.2.2.2.2.2.2.1
theorem e_X8_hasFault_53 : decode cX8_hasFault 53 = .ok (.iconst 1, 1) := D_X8_hasFault_0.2.2.2.2.2.2.2.2.2.2.2.2.2.2.2.2.2.2.2.2.2.2.2.2.2.2.2.1
theorem e_X8_hasFault_54 : decode cX8_hasFault 54 = .ok (.iaload, 1) := D_X8_hasFault_0.2.2.2.2.2.2.2.2.2.2.2.2.2.2.2.2.2.2.2.2.2.2.2.2.2.2.2.2.1
theorem e_X8_hasFault_55 : decode cX8_hasFault 55 = .ok (.invokestatic 73, 3) := D_X8_hasFault_0.2.2.2.2.2.2.2.2.2.2.2.2.2.2.2.2.2.2.2.2.2.2.2.2.2.2.2.2.2.1
theorem e_X8_hasFault_58 : decode cX8_hasFault 58 = .ok (.ifCond .ne 7, 3) := D_X8_hasFault_0.2.2.2.2.2.2.2.2.2.2.2.2.2.2.2.2.2.2.2.2.2.2.2.2.2.2.2.2.2.2.1
theorem e_X8_hasFault_61 : decode cX8_hasFault 61 = .ok (.iconst 2, 1) := D_X8_hasFault_0.2.2.2.2.2.2.2.2.2.2.2.2.2.2.2.2.2.2.2.2.2.2.2.2.2.2.2.2.2.2.2.1
theorem e_X8_hasFault_62 : decode cX8_hasFault 62 = .ok (.goto 53, 3) := D_X8_hasFault_0.2.2.2.2.2.2.2.2.2.2.2.2.2.2.2.2.2.2.2.2.2.2.2.2.2.2.2.2.2.2.2.2.1
theorem e_X8_hasFault_65 : decode cX8_hasFault 65 = .ok (.aload_n 0, 1) := D_X8_hasFault_0.2.2.2.2.2.2.2.2.2.2.2.2.2.2.2.2.2.2.2.2.2.2.2.2.2.2.2.2.2.2.2.2.2.1
theorem e_X8_hasFault_66 : decode cX8_hasFault 66 = .ok (.aload_n 0, 1) := D_X8_hasFault_0.2.2.2.2.2.2.2.2.2.2.2.2.2.2.2.2.2.2.2.2.2.2.2.2.2.2.2.2.2.2.2.2.2.2.1
theorem e_X8_hasFault_67 : decode cX8_hasFault 67 = .ok (.getfield 26, 3) := D_X8_hasFault_0.2.2.2.2.2.2.2.2.2.2.2.2.2.2.2.2.2.2.2.2.2.2.2.2.2.2.2.2.2.2.2.2.2.2.2.1
theorem e_X8_hasFault_70 : decode cX8_hasFault 70 = .ok (.iconst 0, 1) := D_X8_hasFault_0.2.2.2.2.2.2.2.2.2.2.2.2.2.2.2.2.2.2.2.2.2.2.2.2.2.2.2.2.2.2.2.2.2.2.2.2.1
theorem e_X8_hasFault_71 : decode cX8_hasFault 71 = .ok (.iaload, 1) := D_X8_hasFault_0.2.2.2.2.2.2.2.2.2.2.2.2.2.2.2.2.2.2.2.2.2.2.2.2.2.2.2.2.2.2.2.2.2.2.2.2.2.1
theorem e_X8_hasFault_72 : decode cX8_hasFault 72 = .ok (.aload_n 0, 1) := D_X8_hasFault_0.2.2.2.2.2.2.2.2.2.2.2.2.2.2.2.2.2.2.2.2.2.2.2.2.2.2.2.2.2.2.2.2.2.2.2.2.2.2.1
theorem e_X8_hasFault_73 : decode cX8_hasFault 73 = .ok (.getfield 26, 3) := D_X8_hasFault_0.2.2.2.2.2.2.2.2.2.2.2.2.2.2.2.2.2.2.2.2.2.2.2.2.2.2.2.2.2.2.2.2.2.2.2.2.2.2.2.1
set_option maxRecDepth 100000 in
theorem D_X8_hasFault_1 : decode cX8_hasFault 76 = .ok (.iconst 3, 1) ∧ decode cX8_hasFault 77 = .ok (.iaload, 1) ∧ decode cX8_hasFault 78 = .ok (.aload_n 0, 1) ∧ decode cX8_hasFault 79 = .ok (.getfield 26, 3) ∧ decode cX8_hasFault 82 = .ok (.iconst 4, 1) ∧ decode cX8_hasFault 83 = .ok (.iaload, 1) ∧ decode cX8_hasFault 84 = .ok (.invokevirtual 76, 3) ∧ decode cX8_hasFault 87 = .ok (.ifCond .le 7, 3) ∧ decode cX8_hasFault 90 = .ok (.iconst 3, 1) ∧ decode cX8_hasFault 91 = .ok (.goto 24, 3) ∧ decode cX8_hasFault 94 = .ok (.aload_n 0, 1) ∧ decode cX8_hasFault 95 = .ok (.getfield 7, 3) ∧ decode cX8_hasFault 98 = .ok (.iconst 0, 1) ∧ decode cX8_hasFault 99 = .ok (.iaload, 1) ∧ decode cX8_hasFault 100 = .ok (.aload_n 0, 1) ∧ decode cX8_hasFault 101 = .ok (.getfield 217, 3) ∧ decode cX8_hasFault 104 = .ok (.iadd, 1) ∧ decode cX8_hasFault 105 = .ok (.bipush 10, 2) ∧ decode cX8_hasFault 107 = .ok (.if_icmp .lt 7, 3) ∧ decode cX8_hasFault 110 = .ok (.iconst 4, 1) ∧ decode cX8_hasFault 111 = .ok (.goto 4, 3) ∧ decode cX8_hasFault 114 = .ok (.iconst 0, 1) ∧ decode cX8_hasFault 115 = .ok (.istore_n 2, 1) ∧ decode cX8_hasFault 116 = .ok (.iload_n 2, 1) ∧ decode cX8_hasFault 117 = .ok (.ifCond .le 15, 3) ∧ decode cX8_hasFault 120 = .ok (.aload_n 0, 1) ∧ decode cX8_hasFault 121 = .ok (.iload_n 1, 1) ∧ decode cX8_hasFault 122 = .ok (.putfield 223, 3) ∧ decode cX8_hasFault 125 = .ok (.aload_n 0, 1) ∧ decode cX8_hasFault 126 = .ok (.iload_n 2, 1) ∧ decode cX8_hasFault 127 = .ok (.putfield 226, 3) ∧ decode cX8_hasFault 130 = .ok (.iconst 1, 1) ∧ decode cX8_hasFault 131 = .ok (.ireturn, 1) ∧ decode cX8_hasFault 132 = .ok (.aload_n 0, 1) ∧ decode cX8_hasFault 133 = .ok (.dup, 1) ∧ decode cX8_hasFault 134 = .ok (.getfield 217, 3) ∧ decode cX8_hasFault 137 = .ok (.iconst 1, 1) ∧ decode cX8_hasFault 138 = .ok (.iadd, 1) ∧ decode cX8_hasFault 139 = .ok (.putfield 217, 3) ∧ decode cX8_hasFault 142 = .ok (.goto (-132), 3) ∧ True := dq_of (l := (76, .iconst 3, 1) :: (77, .iaload, 1) :: (78, .aload_n 0, 1) :: (79, .getfield 26, 3) :: (82, .iconst 4, 1) :: (83, .iaload, 1) :: (84, .invokevirtual 76, 3) :: (87, .ifCond .le 7, 3) :: (90, .iconst 3, 1) :: (91, .goto 24, 3) :: (94, .aload_n 0, 1) :: (95, .getfield 7, 3) :: (98, .iconst 0, 1) :: (99, .iaload, 1) :: (100, .aload_n 0, 1) :: (101, .getfield 217, 3) :: (104, .iadd, 1) :: (105, .bipush 10, 2) :: (107, .if_icmp .lt 7, 3) :: (110, .iconst 4, 1) :: (111, .goto 4, 3) :: (114, .iconst 0, 1) :: (115, .istore_n 2, 1) :: (116, .iload_n 2, 1) :: (117, .ifCond .le 15, 3) :: (120, .aload_n 0, 1) :: (121, .iload_n 1, 1) :: (122, .putfield 223, 3) :: (125, .aload_n 0, 1) :: (126, .iload_n 2, 1) :: (127, .putfield 226, 3) :: (130, .iconst 1, 1) :: (131, .ireturn, 1) :: (132, .aload_n 0, 1) :: (133, .dup, 1) :: (134, .getfield 217, 3) :: (137, .iconst 1, 1) :: (138, .iadd, 1) :: (139, .putfield 217, 3) :: (142, .goto (-132), 3) :: []) (by decide +kernel)
theorem e_X8_hasFault_76 : decode cX8_hasFault 76 = .ok (.iconst 3, 1) := D_X8_hasFault_1.1
theorem e_X8_hasFault_77 : decode cX8_hasFault 77 = .ok (.iaload, 1) := D_X8_hasFault_1.2.1
theorem e_X8_hasFault_78 : decode cX8_hasFault 78 = .ok (.aload_n 0, 1) := D_X8_hasFault_1.2.2.1
theorem e_X8_hasFault_79 : decode cX8_hasFault 79 = .ok (.getfield 26, 3) := D_X8_hasFault_1.2.2.2.1
theorem e_X8_hasFault_82 : decode cX8_hasFault 82 = .ok (.iconst 4, 1) := D_X8_hasFault_1.2.2.2.2.1
theorem e_X8_hasFault_83 : decode cX8_hasFault 83 = .ok (.iaload, 1) := D_X8_hasFault_1.2.2.2.2.2.1
theorem e_X8_hasFault_84 : decode cX8_hasFault 84 = .ok (.invokevirtual 76, 3) := D_X8_hasFault_1.2.2.2.2.2.2.1
theorem e_X8_hasFault_87 : decode cX8_hasFault 87 = .ok (.ifCond .le 7, 3) := D_X8_hasFault_1.2.2.2.2.2.2.2.1
theorem e_X8_hasFault_90 : decode cX8_hasFault 90 = .ok (.iconst 3, 1) := D_X8_hasFault_1.2.2.2.2.2.2.2.2.1
theorem e_X8_hasFault_91 : decode cX8_hasFault 91 = .ok (.goto 24, 3) := D_X8_hasFault_1.2.2.2.2.2.2.2.2.2.1
theorem e_X8_hasFault_94 : decode cX8_hasFault 94 = .ok (.aload_n 0, 1) := D_X8_hasFault_1.2.2.2.2.2.2.2.2.2.2.1
theorem e_X8_hasFault_95 : decode cX8_hasFault 95 = .ok (.getfield 7, 3) := D_X8_hasFault_1.2.2.2.2.2.2.2.2.2.2.2.1
theorem e_X8_hasFault_98 : decode cX8_hasFault 98 = .ok (.iconst 0, 1) := D_X8_hasFault_1.2.2.2.2.2.2.2.2.2.2.2.2.1
theorem e_X8_hasFault_99 : decode cX8_hasFault 99 = .ok (.iaload, 1) := D_X8_hasFault_1.2.2.2.2.2.2.2.2.2.2.2.2.2.1
theorem e_X8_hasFault_100 : decode cX8_hasFault 100 = .ok (.aload_n 0, 1) := D_X8_hasFault_1.2.2.2.2.2.2.2.2.2.2.2.2.2.2.1
theorem e_X8_hasFault_101 : decode cX8_hasFault 101 = .ok (.getfield 217, 3) := D_X8_hasFault_1.2.2.2.2.2.2.2.2.2.2.2.2.2.2.2.1
theorem e_X8_hasFault_104 : decode cX8_hasFault 104 = .ok (.iadd, 1) := D_X8_hasFault_1.2.2.2.2.2.2.2.2.2.2.2.2.2.2.2.2.1
theorem e_X8_hasFault_105 : decode cX8_hasFault 105 = .ok (.bipush 10, 2) := D_X8_hasFault_1.2.2.2.2.2.2.2.2.2.2.2.2.2.2.2.2.2.1
theorem e_X8_hasFault_107 : decode cX8_hasFault 107 = .ok (.if_icmp .lt 7, 3) := D_X8_hasFault_1.2.2.2.2.2.2.2.2.2.2.2.2.2.2.2.2.2.2.1
theorem e_X8_hasFault_110 : decode cX8_hasFault 110 = .ok (.iconst 4, 1) := D_X8_hasFault_1.2.2.2.2.2.2.2.2.2.2.2.2.2.2.2.2.2.2.2.1
theorem e_X8_hasFault_111 : decode cX8_hasFault 111 = .ok (.goto 4, 3) := D_X8_hasFault_1.2.2.2.2.2.2.2.2.2.2.2.2.2.2.2.2.2.2.2.2.1
theorem e_X8_hasFault_114 : decode cX8_hasFault 114 = .ok (.iconst 0, 1) := D_X8_hasFault_1.2.2.2.2.2.2.2.2.2.2.2.2.2.2.2.2.2.2.2.2.2.1
theorem e_X8_hasFault_115 : decode cX8_hasFault 115 = .ok (.istore_n 2, 1) := D_X8_hasFault_1.2.2.2.2.2.2.2.2.2.2.2.2.2.2.2.2.2.2.2.2.2.2.1
theorem e_X8_hasFault_116 : decode cX8_hasFault 116 = .ok (.iload_n 2, 1) := D_X8_hasFault_1.2.2.2.2.2.2.2.2.2.2.2.2.2.2.2.2.2.2.2.2.2.2.2.1
theorem e_X8_hasFault_117 : decode cX8_hasFault 117 = .ok (.ifCond .le 15, 3) := D_X8_hasFault_1.2.2.2.2.2.2.2.2.2.2.2.2.2.2.2.2.2.2.2.2.2.2.2.2.1
theorem e_X8_hasFault_120 : decode cX8_hasFault 120 = .ok (.aload_n 0, 1) := D_X8_hasFault_1.2.2.2.2.2.2.2.2.2.2.2.2.2.2.2.2.2.2.2.2.2.2.2.2.2.1
theorem e_X8_hasFault_121 : decode cX8_hasFault 121 = .ok (.iload_n 1, 1) := D_X8_hasFault_1.2.2.2.2.2.2.2.2.2.2.2.2.2.2.2.2.2.2.2.2.2.2.2.2.2.2.1
theorem e_X8_hasFault_122 : decode cX8_hasFault 122 = .ok (.putfield 223, 3) := D_X8_hasFault_1.2.2.2.2.2.2.2.2.2.2.2.2.2.2.2.2.2.2.2.2.2.2.2.2.2.2.2.1
theorem e_X8_hasFault_125 : decode cX8_hasFault 125 = .ok (.aload_n 0, 1) := D_X8_hasFault_1.2.2.2.2.2.2.2.2.2.2.2.2.2.2.2.2.2.2.2.2.2.2.2.2.2.2.2.2.1
theorem e_X8_hasFault_126 : decode cX8_hasFault 126 = .ok (.iload_n 2, 1) := D_X8_hasFault_1.2.2.2.2.2.2.2.2.2.2.2.2.2.2.2.2.2.2.2.2.2.2.2.2.2.2.2.2.2.1
theorem e_X8_hasFault_127 : decode cX8_hasFault 127 = .ok (.putfield 226, 3) := D_X8_hasFault_1.2.2.2.2.2.2.2.2.2.2.2.2.2.2.2.2.2.2.2.2.2.2.2.2.2.2.2.2.2.2.1
theorem e_X8_hasFault_130 : decode cX8_hasFault 130 = .ok (.iconst 1, 1) := D_X8_hasFault_1.2.2.2.2.2.2.2.2.2.2.2.2.2.2.2.2.2.2.2.2.2.2.2.2.2.2.2.2.2.2.2.1
theorem e_X8_hasFault_131 : decode cX8_hasFault 131 = .ok (.ireturn, 1) := D_X8_hasFault_1.2.2.2.2.2.2.2.2.2.2.2.2.2.2.2.2.2.2.2.2.2.2.2.2.2.2.2.2.2.2.2.2.1
theorem e_X8_hasFault_132 : decode cX8_hasFault 132 = .ok (.aload_n 0, 1) := D_X8_hasFault_1.2.2.2.2.2.2.2.2.2.2.2.2.2.2.2.2.2.2.2.2.2.2.2.2.2.2.2.2.2.2.2.2.2.1
theorem e_X8_hasFault_133 : decode cX8_hasFault 133 = .ok (.dup, 1) := D_X8_hasFault_1.2.2.2.2.2.2.2.2.2.2.2.2.2.2.2.2.2.2.2.2.2.2.2.2.2.2.2.2.2.2.2.2.2.2.1
theorem e_X8_hasFault_134 : decode cX8_hasFault 134 = .ok (.getfield 217, 3) := D_X8_hasFault_1.2.2.2.2.2.2.2.2.2.2.2.2.2.2.2.2.2.2.2.2.2.2.2.2.2.2.2.2.2.2.2.2.2.2.2.1
theorem e_X8_hasFault_137 : decode cX8_hasFault 137 = .ok (.iconst 1, 1) := D_X8_hasFault_1.2.2.2.2.2.2.2.2.2.2.2.2.2.2.2.2.2.2.2.2.2.2.2.2.2.2.2.2.2.2.2.2.2.2.2.2.1
theorem e_X8_hasFault_138 : decode cX8_hasFault 138 = .ok (.iadd, 1) := D_X8_hasFault_1.2.2.2.2.2.2.2.2.2.2.2.2.2.2.2.2.2.2.2.2.2.2.2.2.2.2.2.2.2.2.2.2.2.2.2.2.2.1
theorem e_X8_hasFault_139 : decode cX8_hasFault 139 = .ok (.putfield 217, 3) := D_X8_hasFault_1.2.2.2.2.2.2.2.2.2.2.2.2.2.2.2.2.2.2.2.2.2.2.2.2.2.2.2.2.2.2.2.2.2.2.2.2.2.2.1
theorem e_X8_hasFault_142 : decode cX8_hasFault 142 = .ok (.goto (-132), 3) := D_X8_hasFault_1.2.2.2.2.2.2.2.2.2.2.2.2.2.2.2.2.2.2.2.2.2.2.2.2.2.2.2.2.2.2.2.2.2.2.2.2.2.2.2.1
set_option maxRecDepth 100000 in
theorem D_X8_hasFault_2 : decode cX8_hasFault 145 = .ok (.iconst 0, 1) ∧ decode cX8_hasFault 146 = .ok (.ireturn, 1) ∧ True := dq_of (l := (145, .iconst 0, 1) :: (146, .ireturn, 1) :: []) (by decide +kernel)
theorem e_X8_hasFault_145 : decode cX8_hasFault 145 = .ok (.iconst 0, 1) := D_X8_hasFault_2.1
theorem e_X8_hasFault_146 : decode cX8_hasFault 146 = .ok (.ireturn, 1) := D_X8_hasFault_2.2.1
set_option maxRecDepth 100000 in
theorem D_X8_fault_0 : decode cX8_fault 0 = .ok (.iload_n 1, 1) ∧ decode cX8_fault 1 = .ok (.iconst 0, 1) ∧ decode cX8_fault 2 = .ok (.iconst 1, 1) ∧ decode cX8_fault 3 = .ok (.invokestatic 32, 3) ∧ decode cX8_fault 6 = .ok (.ifCond .ne 5, 3) ∧ decode cX8_fault 9 = .ok (.iconst (-1), 1) ∧ decode cX8_fault 10 = .ok (.ireturn, 1) ∧ decode cX8_fault 11 = .ok (.aload_n 0, 1) ∧ decode cX8_fault 12 = .ok (.invokevirtual 229, 3) ∧ decode cX8_fault 15 = .ok (.ifCond .ne 8, 3) ∧ decode cX8_fault 18 = .ok (.bipush (-4), 2) ∧ decode cX8_fault 20 = .ok (.goto 18, 3) ∧ decode cX8_fault 23 = .ok (.iload_n 1, 1) ∧ decode cX8_fault 24 = .ok (.ifCond .ne 10, 3) ∧ decode cX8_fault 27 = .ok (.aload_n 0, 1) ∧ decode cX8_fault 28 = .ok (.getfield 223, 3) ∧ decode cX8_fault 31 = .ok (.goto 7, 3) ∧ decode cX8_fault 34 = .ok (.aload_n 0, 1) ∧ decode cX8_fault 35 = .ok (.getfield 226, 3) ∧ decode cX8_fault 38 = .ok (.ireturn, 1) ∧ True := dq_of (l := (0, .iload_n 1, 1) :: (1, .iconst 0, 1) :: (2, .iconst 1, 1) :: (3, .invokestatic 32, 3) :: (6, .ifCond .ne 5, 3) :: (9, .iconst (-1), 1) :: (10, .ireturn, 1) :: (11, .aload_n 0, 1) :: (12, .invokevirtual 229, 3) :: (15, .ifCond .ne 8, 3) :: (18, .bipush (-4), 2) :: (20, .goto 18, 3) :: (23, .iload_n 1, 1) :: (24, .ifCond .ne 10, 3) :: (27, .aload_n 0, 1) :: (28, .getfield 223, 3) :: (31, .goto 7, 3) :: (34, .aload_n 0, 1) :: (35, .getfield 226, 3) :: (38, .ireturn, 1) :: []) (by decide +kernel)
theorem e_X8_fault_0 : decode cX8_fault 0 = .ok (.iload_n 1, 1) := D_X8_fault_0.1
theorem e_X8_fault_1 : decode cX8_fault 1 = .ok (.iconst 0, 1) := D_X8_fault_0.2.1
theorem e_X8_fault_2 : decode cX8_fault 2 = .ok (.iconst 1, 1) := D_X8_fault_0.2.2.1
theorem e_X8_fault_3 : decode cX8_fault 3 = .ok (.invokestatic 32, 3) := D_X8_fault_0.2.2.2.1
theorem e_X8_fault_6 : decode cX8_fault 6 = .ok (.ifCond .ne 5, 3) := D_X8_fault_0.2.2.2.2.1
theorem e_X8_fault_9 : decode cX8_fault 9 = .ok (.iconst (-1), 1) := D_X8_fault_0.2.2.2.2.2.1
theorem e_X8_fault_10 : decode cX8_fault 10 = .ok (.ireturn, 1) := D_X8_fault_0.2.2.2.2.2.2.1
theorem e_X8_fault_11 : decode cX8_fault 11 = .ok (.aload_n 0, 1) := D_X8_fault_0.2.2.2.2.2.2.2.1
theorem e_X8_fault_12 : decode cX8_fault 12 = .ok (.invokevirtual 229, 3) := D_X8_fault_0.2.2.2.2.2.2.2.2.1
theorem e_X8_fault_15 : decode cX8_fault 15 = .ok (.ifCond .ne 8, 3) := D_X8_fault_0.2.2.2.2.2.2.2.2.2.1
theorem e_X8_fault_18 : decode cX8_fault 18 = .ok (.bipush (-4), 2) := D_X8_fault_0.2.2.2.2.2.2.2.2.2.2.1
theorem e_X8_fault_20 : decode cX8_fault 20 = .ok (.goto 18, 3) := D_X8_fault_0.2.2.2.2.2.2.2.2.2.2.2.1
theorem e_X8_fault_23 : decode cX8_fault 23 = .ok (.iload_n 1, 1) := D_X8_fault_0.2.2.2.2.2.2.2.2.2.2.2.2.1
theorem e_X8_fault_24 : decode cX8_fault 24 = .ok (.ifCond .ne 10, 3) := D_X8_fault_0.2.2.2.2.2.2.2.2.2.2.2.2.2.1
theorem e_X8_fault_27 : decode cX8_fault 27 = .ok (.aload_n 0, 1) := D_X8_fault_0.2.2.2.2.2.2.2.2.2.2.2.2.2.2.1
theorem e_X8_fault_28 : decode cX8_fault 28 = .ok (.getfield 223, 3) := D_X8_fault_0.2.2.2.2.2.2.2.2.2.2.2.2.2.2.2.1
theorem e_X8_fault_31 : decode cX8_fault 31 = .ok (.goto 7, 3) := D_X8_fault_0.2.2.2.2.2.2.2.2.2.2.2.2.2.2.2.2.1
theorem e_X8_fault_34 : decode cX8_fault 34 = .ok (.aload_n 0, 1) := D_X8_fault_0.2.2.2.2.2.2.2.2.2.2.2.2.2.2.2.2.2.1
theorem e_X8_fault_35 : decode cX8_fault 35 = .ok (.getfield 226, 3) := D_X8_fault_0.2.2.2.2.2.2.2.2.2.2.2.2.2.2.2.2.2.2.1
theorem e_X8_fault_38 : decode cX8_fault 38 = .ok (.ireturn, 1) := D_X8_fault_0.2.2.2.2.2.2.2.2.2.2.2.2.2.2.2.2.2.2.2.1
set_option maxRecDepth 100000 in
theorem D_X8_enter_0 : decode cX8_enter 0 = .ok (.aload_n 0, 1) ∧ decode cX8_enter 1 = .ok (.invokevirtual 229, 3) ∧ decode cX8_enter 4 = .ok (.ifCond .eq 6, 3) ∧ decode cX8_enter 7 = .ok (.bipush (-2), 2) ∧ decode cX8_enter 9 = .ok (.ireturn, 1) ∧ decode cX8_enter 10 = .ok (.aload_n 0, 1) ∧ decode cX8_enter 11 = .ok (.invokevirtual 40, 3) ∧ decode cX8_enter 14 = .ok (.aload_n 0, 1) ∧ decode cX8_enter 15 = .ok (.getfield 217, 3) ∧ decode cX8_enter 18 = .ok (.istore_n 1, 1) ∧ decode cX8_enter 19 = .ok (.aload_n 0, 1) ∧ decode cX8_enter 20 = .ok (.iconst 0, 1) ∧ decode cX8_enter 21 = .ok (.putfield 169, 3) ∧ decode cX8_enter 24 = .ok (.iconst 0, 1) ∧ decode cX8_enter 25 = .ok (.istore_n 2, 1) ∧ decode cX8_enter 26 = .ok (.iload_n 2, 1) ∧ decode cX8_enter 27 = .ok (.iload_n 1, 1) ∧ decode cX8_enter 28 = .ok (.if_icmp .ge 50, 3) ∧ decode cX8_enter 31 = .ok (.aload_n 0, 1) ∧ decode cX8_enter 32 = .ok (.invokevirtual 220, 3) ∧ decode cX8_enter 35 = .ok (.istore_n 3, 1) ∧ decode cX8_enter 36 = .ok (.aload_n 0, 1) ∧ decode cX8_enter 37 = .ok (.aload_n 0, 1) ∧ decode cX8_enter 38 = .ok (.getfield 26, 3) ∧ decode cX8_enter 41 = .ok (.iconst 0, 1) ∧ decode cX8_enter 42 = .ok (.iaload, 1) ∧ decode cX8_enter 43 = .ok (.aload_n 0, 1) ∧ decode cX8_enter 44 = .ok (.getfield 26, 3) ∧ decode cX8_enter 47 = .ok (.iconst 1, 1) ∧ decode cX8_enter 48 = .ok (.iaload, 1) ∧ decode cX8_enter 49 = .ok (.aload_n 0, 1) ∧ decode cX8_enter 50 = .ok (.getfield 26, 3) ∧ decode cX8_enter 53 = .ok (.iconst 2, 1) ∧ decode cX8_enter 54 = .ok (.iaload, 1) ∧ decode cX8_enter 55 = .ok (.aload_n 0, 1) ∧ decode cX8_enter 56 = .ok (.getfield 26, 3) ∧ decode cX8_enter 59 = .ok (.iconst 3, 1) ∧ decode cX8_enter 60 = .ok (.iaload, 1) ∧ decode cX8_enter 61 = .ok (.aload_n 0, 1) ∧ decode cX8_enter 62 = .ok (.getfield 26, 3) ∧ True := dq_of (l := (0, .aload_n 0, 1) :: (1, .invokevirtual 229, 3) :: (4, .ifCond .eq 6, 3) :: (7, .bipush (-2), 2) :: (9, .ireturn, 1) :: (10, .aload_n 0, 1) :: (11, .invokevirtual 40, 3) :: (14, .aload_n 0, 1) :: (15, .getfield 217, 3) :: (18, .istore_n 1, 1) :: (19, .aload_n 0, 1) :: (20, .iconst 0, 1) :: (21, .putfield 169, 3) :: (24, .iconst 0, 1) :: (25, .istore_n 2, 1) :: (26, .iload_n 2, 1) :: (27, .iload_n 1, 1) :: (28, .if_icmp .ge 50, 3) :: (31, .aload_n 0, 1) :: (32, .invokevirtual 220, 3) :: (35, .istore_n 3, 1) :: (36, .aload_n 0, 1) :: (37, .aload_n 0, 1) :: (38, .getfield 26, 3) :: (41, .iconst 0, 1) :: (42, .iaload, 1) :: (43, .aload_n 0, 1) :: (44, .getfield 26, 3) :: (47, .iconst 1, 1) :: (48, .iaload, 1) :: (49, .aload_n 0, 1) :: (50, .getfield 26, 3) :: (53, .iconst 2, 1) :: (54, .iaload, 1) :: (55, .aload_n 0, 1) :: (56, .getfield 26, 3) :: (59, .iconst 3, 1) :: (60, .iaload, 1) :: (61, .aload_n 0, 1) :: (62, .getfield 26, 3) :: []) (by decide +kernel)
theorem e_X8_enter_0 : decode cX8_enter 0 = .ok (.aload_n 0, 1) := D_X8_enter_0.1
theorem e_X8_enter_1 : decode cX8_enter 1 = .ok (.invokevirtual 229, 3) := D_X8_enter_0.2.1
theorem e_X8_enter_4 : decode cX8_enter 4 = .ok (.ifCond .eq 6, 3) := D_X8_enter_0.2.2.1
theorem e_X8_enter_7 : decode cX8_enter 7 = .ok (.bipush (-2), 2) := D_X8_enter_0.2.2.2.1
theorem e_X8_enter_9 : decode cX8_enter 9 = .ok (.ireturn, 1) := D_X8_enter_0.2.2.2.2.1
theorem e_X8_enter_10 : decode cX8_enter 10 = .ok (.aload_n 0, 1) := D_X8_enter_0.2.2.2.2.2.1
theorem e_X8_enter_11 : decode cX8_enter 11 = .ok (.invokevirtual 40, 3) := D_X8_enter_0.2.2.2.2.2.2.1
theorem e_X8_enter_14 : decode cX8_enter 14 = .ok (.aload_n 0, 1) := D_X8_enter_0.2.2.2.2.2.2.2.1
theorem e_X8_enter_15 : decode cX8_enter 15 = .ok (.getfield 217, 3) := D_X8_enter_0.2.2.2.2.2.2.2.2.1
theorem e_X8_enter_18 : decode cX8_enter 18 = .ok (.istore_n 1, 1) := D_X8_enter_0.2.2.2.2.2.2.2.2.2.1
theorem e_X8_enter_19 : decode cX8_enter 19 = .ok (.aload_n 0, 1) := D_X8_enter_0.2.2.2.2.2.2.2.2.2.2.1
theorem e_X8_enter_20 : decode cX8_enter 20 = .ok (.iconst 0, 1) := D_X8_enter_0.2.2.2.2.2.2.2.2.2.2.2.1
theorem e_X8_enter_21 : decode cX8_enter 21 = .ok (.putfield 169, 3) := D_X8_enter_0.2.2.2.2.2.2.2.2.2.2.2.2.1
theorem e_X8_enter_24 : decode cX8_enter 24 = .ok (.iconst 0, 1) := D_X8_enter_0.2.2.2.2.2.2.2.2.2.2.2.2.2.1
theorem e_X8_enter_25 : decode cX8_enter 25 = .ok (.istore_n 2, 1) := D_X8_enter_0.2.2.2.2.2.2.2.2.2.2.2.2.2.2.1
theorem e_X8_enter_26 : decode cX8_enter 26 = .ok (.iload_n 2, 1) := D_X8_enter_0.2.2.2.2.2.2.2.2.2.2.2.2.2.2.2.1
theorem e_X8_enter_27 : decode cX8_enter 27 = .ok (.iload_n 1, 1) := D_X8_enter_0.2.2.2.2.2.2.2.2.2.2.2.2.2.2.2.2.1
theorem e_X8_enter_28 : decode cX8_enter 28 = .ok (.if_icmp .ge 50, 3) := D_X8_enter_0.2.2.2.2.2.2.2.2.2.2.2.2.2.2.2.2.2.1
theorem e_X8_enter_31 : decode cX8_enter 31 = .ok (.aload_n 0, 1) := D_X8_enter_0.2.2.2.2.2.2.2.2.2.2.2.2.2.2.2.2.2.2.1
theorem e_X8_enter_32 : decode cX8_enter 32 = .ok (.invokevirtual 220, 3) := D_X8_enter_0.2.2.2.2.2.2.2.2.2.2.2.2.2.2.2.2.2.2.2.1
theorem e_X8_enter_35 : decode cX8_enter 35 = .ok (.istore_n 3, 1) := D_X8_enter_0.2.2.2.2.2.2.2.2.2.2.2.2.2.2.2.2.2.2.2.2.1
theorem e_X8_enter_36 : decode cX8_enter 36 = .ok (.aload_n 0, 1) := D_X8_enter_0.2.2.2.2.2.2.2.2.2.2.2.2.2.2.2.2.2.2.2.2.2.1
theorem e_X8_enter_37 : decode cX8_enter 37 = .ok (.aload_n 0, 1) := D_X8_enter_0.2.2.2.2.2.2.2.2.2.2.2.2.2.2.2.2.2.2.2.2.2.2.1
theorem e_X8_enter_38 : decode cX8_enter 38 = .ok (.getfield 26, 3) := D_X8_enter_0.2.2.2.2.2.2.2.2.2.2.2.2.2.2.2.2.2.2.2.2.2.2.2.1
theorem e_X8_enter_41 : decode cX8_enter 41 = .ok (.iconst 0, 1) := D_X8_enter_0.2.2.2.2.2.2.2.2.2.2.2.2.2.2.2.2.2.2.2.2.2.2.2.2.1
theorem e_X8_enter_42 : decode cX8_enter 42 = .ok (.iaload, 1) := D_X8_enter_0.2.2.2.2.2.2.2.2.2.2.2.2.2.2.2.2.2.2.2.2.2.2.2.2.2.1
theorem e_X8_enter_43 : decode cX8_enter 43 = .ok (.aload_n 0, 1) := D_X8_enter_0.2.2.2.2.2.2.2.2.2.2.2.2.2.2.2.2.2.2.2.2.2.2.2.2.2.2.1
theorem e_X8_enter_44 : decode cX8_enter 44 = .ok (.getfield 26, 3) := D_X8_enter_0.2.2.2.2.2.2.2.2.2.2.2.2.2.2.2.2.2.2.2.2.2.2.2.2.2.2.2.1
theorem e_X8_enter_47 : decode cX8_enter 47 = .ok (.iconst 1, 1) := D_X8_enter_0.2.2.2.2.2.2.2.2.2.2.2.2.2.2.2.2.2.2.2.2.2.2.2.2.2.2.2.2.1
theorem e_X8_enter_48 : decode cX8_enter 48 = .ok (.iaload, 1) := D_X8_enter_0.2.2.2.2.2.2.2.2.2.2.2.2.2.2.2.2.2.2.2.2.2.2.2.2.2.2.2.2.2.1
theorem e_X8_enter_49 : decode cX8_enter 49 = .ok (.aload_n 0, 1) := D_X8_enter_0.2.2.2.2.2.2.2.2.2.2.2.2.2.2.2.2.2.2.2.2.2.2.2.2.2.2.2.2.2.2.1
theorem e_X8_enter_50 : decode cX8_enter 50 = .ok (.getfield 26, 3) := D_X8_enter_0.2.2.2.2.2.2.2.2.2.2.2.2.2.2.2.2.2.2.2.2.2.2.2.2.2.2.2.2.2.2.2.1
theorem e_X8_enter_53 : decode cX8_enter 53 = .ok (.iconst 2, 1) := D_X8_enter_0.2.2.2.2.2.2.2.2.2.2.2.2.2.2.2.2.2.2.2.2.2.2.2.2.2.2.2.2.2.2.2.2.1
theorem e_X8_enter_54 : decode cX8_enter 54 = .ok (.iaload, 1) := D_X8_enter_0.2.2.2.2.2.2.2.2.2.2.2.2.2.2.2.2.2.2.2.2.2.2.2.2.2.2.2.2.2.2.2.2.2.1
theorem e_X8_enter_55 : decode cX8_enter 55 = .ok (.aload_n 0, 1) := D_X8_enter_0.2.2.2.2.2.2.2.2.2.2.2.2.2.2.2.2.2.2.2.2.2.2.2.2.2.2.2.2.2.2.2.2.2.2.1
theorem e_X8_enter_56 : decode cX8_enter 56 = .ok (.getfield 26, 3) := D_X8_enter_0.2.2.2.2.2.2.2.2.2.2.2.2.2.2.2.2.2.2.2.2.2.2.2.2.2.2.2.2.2.2.2.2.2.2.2.1
theorem e_X8_enter_59 : decode cX8_enter 59 = .ok (.iconst 3, 1) := D_X8_enter_0.2.2.2.2.2.2.2.2.2.2.2.2.2.2.2.2.2.2.2.2.2.2.2.2.2.2.2.2.2.2.2.2.2.2.2.2.1
theorem e_X8_enter_60 : decode cX8_enter 60 = .ok (.iaload, 1) := D_X8_enter_0.2.2.2.2.2.2.2.2.2.2.2.2.2.2.2.2.2.2.2.2.2.2.2.2.2.2.2.2.2.2.2.2.2.2.2.2.2.1
theorem e_X8_enter_61 : decode cX8_enter 61 = .ok (.aload_n 0, 1) := D_X8_enter_0.2.2.2.2.2.2.2.2.2.2.2.2.2.2.2.2.2.2.2.2.2.2.2.2.2.2.2.2.2.2.2.2.2.2.2.2.2.2.1
theorem e_X8_enter_62 : decode cX8_enter 62 = .ok (.getfield 26, 3) := D_X8_enter_0.2.2.2.2.2.2.2.2.2.2.2.2.2.2.2.2.2.2.2.2.2.2.2.2.2.2.2.2.2.2.2.2.2.2.2.2.2.2.2.1
set_option maxRecDepth 100000 in
theorem D_X8_enter_1 : decode cX8_enter 65 = .ok (.iconst 4, 1) ∧ decode cX8_enter 66 = .ok (.iaload, 1) ∧ decode cX8_enter 67 = .ok (.invokevirtual 80, 3) ∧ decode cX8_enter 70 = .ok (.istore 4, 2) ∧ decode cX8_enter 72 = .ok (.iinc 2 1, 3) ∧ decode cX8_enter 75 = .ok (.goto (-49), 3) ∧ decode cX8_enter 78 = .ok (.iload_n 1, 1) ∧ decode cX8_enter 79 = .ok (.ireturn, 1) ∧ True := dq_of (l := (65, .iconst 4, 1) :: (66, .iaload, 1) :: (67, .invokevirtual 80, 3) :: (70, .istore 4, 2) :: (72, .iinc 2 1, 3) :: (75, .goto (-49), 3) :: (78, .iload_n 1, 1) :: (79, .ireturn, 1) :: []) (by decide +kernel)
theorem e_X8_enter_65 : decode cX8_enter 65 = .ok (.iconst 4, 1) := D_X8_enter_1.1
theorem e_X8_enter_66 : decode cX8_enter 66 = .ok (.iaload, 1) := D_X8_enter_1.2.1
theorem e_X8_enter_67 : decode cX8_enter 67 = .ok (.invokevirtual 80, 3) := D_X8_enter_1.2.2.1
theorem e_X8_enter_70 : decode cX8_enter 70 = .ok (.istore 4, 2) := D_X8_enter_1.2.2.2.1
theorem e_X8_enter_72 : decode cX8_enter 72 = .ok (.iinc 2 1, 3) := D_X8_enter_1.2.2.2.2.1
theorem e_X8_enter_75 : decode cX8_enter 75 = .ok (.goto (-49), 3) := D_X8_enter_1.2.2.2.2.2.1
theorem e_X8_enter_78 : decode cX8_enter 78 = .ok (.iload_n 1, 1) := D_X8_enter_1.2.2.2.2.2.2.1
theorem e_X8_enter_79 : decode cX8_enter 79 = .ok (.ireturn, 1) := D_X8_enter_1.2.2.2.2.2.2.2.1
