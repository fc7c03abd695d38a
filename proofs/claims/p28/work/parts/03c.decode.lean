set_option maxRecDepth 100000 in
theorem D_X8_init_0 : decode cX8_init 0 = .ok (.aload_n 0, 1) ∧ decode cX8_init 1 = .ok (.invokespecial 1, 3) ∧ decode cX8_init 4 = .ok (.aload_n 0, 1) ∧ decode cX8_init 5 = .ok (.sipush 185, 3) ∧ decode cX8_init 8 = .ok (.newarray .int, 2) ∧ decode cX8_init 10 = .ok (.putfield 7, 3) ∧ decode cX8_init 13 = .ok (.aload_n 0, 1) ∧ decode cX8_init 14 = .ok (.sipush 740, 3) ∧ decode cX8_init 17 = .ok (.newarray .int, 2) ∧ decode cX8_init 19 = .ok (.putfield 13, 3) ∧ decode cX8_init 22 = .ok (.aload_n 0, 1) ∧ decode cX8_init 23 = .ok (.sipush 185, 3) ∧ decode cX8_init 26 = .ok (.newarray .int, 2) ∧ decode cX8_init 28 = .ok (.putfield 16, 3) ∧ decode cX8_init 31 = .ok (.aload_n 0, 1) ∧ decode cX8_init 32 = .ok (.bipush (-4), 2) ∧ decode cX8_init 34 = .ok (.putfield 19, 3) ∧ decode cX8_init 37 = .ok (.aload_n 0, 1) ∧ decode cX8_init 38 = .ok (.bipush 100, 2) ∧ decode cX8_init 40 = .ok (.newarray .int, 2) ∧ decode cX8_init 42 = .ok (.putfield 23, 3) ∧ decode cX8_init 45 = .ok (.aload_n 0, 1) ∧ decode cX8_init 46 = .ok (.iconst 5, 1) ∧ decode cX8_init 47 = .ok (.newarray .int, 2) ∧ decode cX8_init 49 = .ok (.putfield 26, 3) ∧ decode cX8_init 52 = .ok (.aload_n 0, 1) ∧ decode cX8_init 53 = .ok (.getfield 7, 3) ∧ decode cX8_init 56 = .ok (.iconst 3, 1) ∧ decode cX8_init 57 = .ok (.bipush 100, 2) ∧ decode cX8_init 59 = .ok (.iastore, 1) ∧ decode cX8_init 60 = .ok (.aload_n 0, 1) ∧ decode cX8_init 61 = .ok (.getfield 7, 3) ∧ decode cX8_init 64 = .ok (.bipush 6, 2) ∧ decode cX8_init 66 = .ok (.bipush (-4), 2) ∧ decode cX8_init 68 = .ok (.iastore, 1) ∧ decode cX8_init 69 = .ok (.aload_n 0, 1) ∧ decode cX8_init 70 = .ok (.getfield 7, 3) ∧ decode cX8_init 73 = .ok (.bipush 7, 2) ∧ decode cX8_init 75 = .ok (.bipush (-4), 2) ∧ decode cX8_init 77 = .ok (.iastore, 1) ∧ True := dq_of (l := (0, .aload_n 0, 1) :: (1, .invokespecial 1, 3) :: (4, .aload_n 0, 1) :: (5, .sipush 185, 3) :: (8, .newarray .int, 2) :: (10, .putfield 7, 3) :: (13, .aload_n 0, 1) :: (14, .sipush 740, 3) :: (17, .newarray .int, 2) :: (19, .putfield 13, 3) :: (22, .aload_n 0, 1) :: (23, .sipush 185, 3) :: (26, .newarray .int, 2) :: (28, .putfield 16, 3) :: (31, .aload_n 0, 1) :: (32, .bipush (-4), 2) :: (34, .putfield 19, 3) :: (37, .aload_n 0, 1) :: (38, .bipush 100, 2) :: (40, .newarray .int, 2) :: (42, .putfield 23, 3) :: (45, .aload_n 0, 1) :: (46, .iconst 5, 1) :: (47, .newarray .int, 2) :: (49, .putfield 26, 3) :: (52, .aload_n 0, 1) :: (53, .getfield 7, 3) :: (56, .iconst 3, 1) :: (57, .bipush 100, 2) :: (59, .iastore, 1) :: (60, .aload_n 0, 1) :: (61, .getfield 7, 3) :: (64, .bipush 6, 2) :: (66, .bipush (-4), 2) :: (68, .iastore, 1) :: (69, .aload_n 0, 1) :: (70, .getfield 7, 3) :: (73, .bipush 7, 2) :: (75, .bipush (-4), 2) :: (77, .iastore, 1) :: []) (by decide +kernel)
theorem e_X8_init_0 : decode cX8_init 0 = .ok (.aload_n 0, 1) := D_X8_init_0.1
theorem e_X8_init_1 : decode cX8_init 1 = .ok (.invokespecial 1, 3) := D_X8_init_0.2.1
theorem e_X8_init_4 : decode cX8_init 4 = .ok (.aload_n 0, 1) := D_X8_init_0.2.2.1
theorem e_X8_init_5 : decode cX8_init 5 = .ok (.sipush 185, 3) := D_X8_init_0.2.2.2.1
theorem e_X8_init_8 : decode cX8_init 8 = .ok (.newarray .int, 2) := D_X8_init_0.2.2.2.2.1
theorem e_X8_init_10 : decode cX8_init 10 = .ok (.putfield 7, 3) := D_X8_init_0.2.2.2.2.2.1
theorem e_X8_init_13 : decode cX8_init 13 = .ok (.aload_n 0, 1) := D_X8_init_0.2.2.2.2.2.2.1
theorem e_X8_init_14 : decode cX8_init 14 = .ok (.sipush 740, 3) := D_X8_init_0.2.2.2.2.2.2.2.1
theorem e_X8_init_17 : decode cX8_init 17 = .ok (.newarray .int, 2) := D_X8_init_0.2.2.2.2.2.2.2.2.1
theorem e_X8_init_19 : decode cX8_init 19 = .ok (.putfield 13, 3) := D_X8_init_0.2.2.2.2.2.2.2.2.2.1
theorem e_X8_init_22 : decode cX8_init 22 = .ok (.aload_n 0, 1) := D_X8_init_0.2.2.2.2.2.2.2.2.2.2.1
theorem e_X8_init_23 : decode cX8_init 23 = .ok (.sipush 185, 3) := D_X8_init_0.2.2.2.2.2.2.2.2.2.2.2.1
theorem e_X8_init_26 : decode cX8_init 26 = .ok (.newarray .int, 2) := D_X8_init_0.2.2.2.2.2.2.2.2.2.2.2.2.1
theorem e_X8_init_28 : decode cX8_init 28 = .ok (.putfield 16, 3) := D_X8_init_0.2.2.2.2.2.2.2.2.2.2.2.2.2.1
theorem e_X8_init_31 : decode cX8_init 31 = .ok (.aload_n 0, 1) := D_X8_init_0.2.2.2.2.2.2.2.2.2.2.2.2.2.2.1
theorem e_X8_init_32 : decode cX8_init 32 = .ok (.bipush (-4), 2) := D_X8_init_0.2.2.2.2.2.2.2.2.2.2.2.2.2.2.2.1
theorem e_X8_init_34 : decode cX8_init 34 = .ok (.putfield 19, 3) := D_X8_init_0.2.2.2.2.2.2.2.2.2.2.2.2.2.2.2.2.1
theorem e_X8_init_37 : decode cX8_init 37 = .ok (.aload_n 0, 1) := D_X8_init_0.2.2.2.2.2.2.2.2.2.2.2.2.2.2.2.2.2.1
theorem e_X8_init_38 : decode cX8_init 38 = .ok (.bipush 100, 2) := D_X8_init_0.2.2.2.2.2.2.2.2.2.2.2.2.2.2.2.2.2.2.1
theorem e_X8_init_40 : decode cX8_init 40 = .ok (.newarray .int, 2) := D_X8_init_0.2.2.2.2.2.2.2.2.2.2.2.2.2.2.2.2.2.2.2.1
theorem e_X8_init_42 : decode cX8_init 42 = .ok (.putfield 23, 3) := D_X8_init_0.2.2.2.2.2.2.2.2.2.2.2.2.2.2.2.2.2.2.2.2.1
theorem e_X8_init_45 : decode cX8_init 45 = .ok (.aload_n 0, 1) := D_X8_init_0.2.2.2.2.2.2.2.2.2.2.2.2.2.2.2.2.2.2.2.2.2.1
theorem e_X8_init_46 : decode cX8_init 46 = .ok (.iconst 5, 1) := D_X8_init_0.2.2.2.2.2.2.2.2.2.2.2.2.2.2.2.2.2.2.2.2.2.2.1
theorem e_X8_init_47 : decode cX8_init 47 = .ok (.newarray .int, 2) := D_X8_init_0.2.2.2.2.2.2.2.2.2.2.2.2.2.2.2.2.2.2.2.2.2.2.2.1
theorem e_X8_init_49 : decode cX8_init 49 = .ok (.putfield 26, 3) := D_X8_init_0.2.2.2.2.2.2.2.2.2.2.2.2.2.2.2.2.2.2.2.2.2.2.2.2.1
theorem e_X8_init_52 : decode cX8_init 52 = .ok (.aload_n 0, 1) := D_X8_init_0.2.2.2.2.2.2.2.2.2.2.2.2.2.2.2.2.2.2.2.2.2.2.2.2.2.1
theorem e_X8_init_53 : decode cX8_init 53 = .ok (.getfield 7, 3) := D_X8_init_0.2.2.2.2.2.2.2.2.2.2.2.2.2.2.2.2.2.2.2.2.2.2.2.2.2.2.1
theorem e_X8_init_56 : decode cX8_init 56 = .ok (.iconst 3, 1) := D_X8_init_0.2.2.2.2.2.2.2.2.2.2.2.2.2.2.2.2.2.2.2.2.2.2.2.2.2.2.2.1
theorem e_X8_init_57 : decode cX8_init 57 = .ok (.bipush 100, 2) := D_X8_init_0.2.2.2.2.2.2.2.2.2.2.2.2.2.2.2.2.2.2.2.2.2.2.2.2.2.2.2.2.1
theorem e_X8_init_59 : decode cX8_init 59 = .ok (.iastore, 1) := D_X8_init_0.2.2.2.2.2.2.2.2.2.2.2.2.2.2.2.2.2.2.2.2.2.2.2.2.2.2.2.2.2.1
theorem e_X8_init_60 : decode cX8_init 60 = .ok (.aload_n 0, 1) := D_X8_init_0.2.2.2.2.2.2.2.2.2.2.2.2.2.2.2.2.2.2.2.2.2.2.2.2.2.2.2.2.2.2.1
theorem e_X8_init_61 : decode cX8_init 61 = .ok (.getfield 7, 3) := D_X8_init_0.2.2.2.2.2.2.2.2.2.2.2.2.2.2.2.2.2.2.2.2.2.2.2.2.2.2.2.2.2.2.2.1
theorem e_X8_init_64 : decode cX8_init 64 = .ok (.bipush 6, 2) := D_X8_init_0.2.2.2.2.2.2.2.2.2.2.2.2.2.2.2.2.2.2.2.2.2.2.2.2.2.2.2.2.2.2.2.2.1
theorem e_X8_init_66 : decode cX8_init 66 = .ok (.bipush (-4), 2) := D_X8_init_0.2.2.2.2.2.2.2.2.2.2.2.2.2.2.2.2.2.2.2.2.2.2.2.2.2.2.2.2.2.2.2.2.2.1
theorem e_X8_init_68 : decode cX8_init 68 = .ok (.iastore, 1) := D_X8_init_0.2.2.2.2.2.2.2.2.2.2.2.2.2.2.2.2.2.2.2.2.2.2.2.2.2.2.2.2.2.2.2.2.2.2.1
theorem e_X8_init_69 : decode cX8_init 69 = .ok (.aload_n 0, 1) := D_X8_init_0.2.2.2.2.2.2.2.2.2.2.2.2.2.2.2.2.2.2.2.2.2.2.2.2.2.2.2.2.2.2.2.2.2.2.2.1
theorem e_X8_init_70 : decode cX8_init 70 = .ok (.getfield 7, 3) := D_X8_init_0.2.2.2.2.2.2.2.2.2.2.2.2.2.2.2.2.2.2.2.2.2.2.2.2.2.2.2.2.2.2.2.2.2.2.2.2.1
theorem e_X8_init_73 : decode cX8_init 73 = .ok (.bipush 7, 2) := D_X8_init_0.2.2.2.2.2.2.2.2.2.2.2.2.2.2.2.2.2.2.2.2.2.2.2.2.2.2.2.2.2.2.2.2.2.2.2.2.2.1
theorem e_X8_init_75 : decode cX8_init 75 = .ok (.bipush (-4), 2) := D_X8_init_0.2.2.2.2.2.2.2.2.2.2.2.2.2.2.2.2.2.2.2.2.2.2.2.2.2.2.2.2.2.2.2.2.2.2.2.2.2.2.1
theorem e_X8_init_77 : decode cX8_init 77 = .ok (.iastore, 1) := D_X8_init_0.2.2.2.2.2.2.2.2.2.2.2.2.2.2.2.2.2.2.2.2.2.2.2.2.2.2.2.2.2.2.2.2.2.2.2.2.2.2.2.1
set_option maxRecDepth 100000 in
theorem D_X8_init_1 : decode cX8_init 78 = .ok (.aload_n 0, 1) ∧ decode cX8_init 79 = .ok (.getfield 7, 3) ∧ decode cX8_init 82 = .ok (.bipush 10, 2) ∧ decode cX8_init 84 = .ok (.iconst 2, 1) ∧ decode cX8_init 85 = .ok (.iastore, 1) ∧ decode cX8_init 86 = .ok (.aload_n 0, 1) ∧ decode cX8_init 87 = .ok (.getfield 7, 3) ∧ decode cX8_init 90 = .ok (.bipush 11, 2) ∧ decode cX8_init 92 = .ok (.iconst 1, 1) ∧ decode cX8_init 93 = .ok (.iastore, 1) ∧ decode cX8_init 94 = .ok (.aload_n 0, 1) ∧ decode cX8_init 95 = .ok (.getfield 7, 3) ∧ decode cX8_init 98 = .ok (.bipush 12, 2) ∧ decode cX8_init 100 = .ok (.iconst 3, 1) ∧ decode cX8_init 101 = .ok (.iastore, 1) ∧ decode cX8_init 102 = .ok (.aload_n 0, 1) ∧ decode cX8_init 103 = .ok (.getfield 7, 3) ∧ decode cX8_init 106 = .ok (.bipush 13, 2) ∧ decode cX8_init 108 = .ok (.bipush 30, 2) ∧ decode cX8_init 110 = .ok (.iastore, 1) ∧ decode cX8_init 111 = .ok (.aload_n 0, 1) ∧ decode cX8_init 112 = .ok (.getfield 7, 3) ∧ decode cX8_init 115 = .ok (.bipush 15, 2) ∧ decode cX8_init 117 = .ok (.sipush 250, 3) ∧ decode cX8_init 120 = .ok (.iastore, 1) ∧ decode cX8_init 121 = .ok (.iconst 0, 1) ∧ decode cX8_init 122 = .ok (.istore_n 1, 1) ∧ decode cX8_init 123 = .ok (.iload_n 1, 1) ∧ decode cX8_init 124 = .ok (.iconst 4, 1) ∧ decode cX8_init 125 = .ok (.if_icmp .ge 21, 3) ∧ decode cX8_init 128 = .ok (.aload_n 0, 1) ∧ decode cX8_init 129 = .ok (.getfield 7, 3) ∧ decode cX8_init 132 = .ok (.bipush 25, 2) ∧ decode cX8_init 134 = .ok (.iconst 3, 1) ∧ decode cX8_init 135 = .ok (.iload_n 1, 1) ∧ decode cX8_init 136 = .ok (.imul, 1) ∧ decode cX8_init 137 = .ok (.iadd, 1) ∧ decode cX8_init 138 = .ok (.iconst 1, 1) ∧ decode cX8_init 139 = .ok (.iastore, 1) ∧ decode cX8_init 140 = .ok (.iinc 1 1, 3) ∧ True := dq_of (l := (78, .aload_n 0, 1) :: (79, .getfield 7, 3) :: (82, .bipush 10, 2) :: (84, .iconst 2, 1) :: (85, .iastore, 1) :: (86, .aload_n 0, 1) :: (87, .getfield 7, 3) :: (90, .bipush 11, 2) :: (92, .iconst 1, 1) :: (93, .iastore, 1) :: (94, .aload_n 0, 1) :: (95, .getfield 7, 3) :: (98, .bipush 12, 2) :: (100, .iconst 3, 1) :: (101, .iastore, 1) :: (102, .aload_n 0, 1) :: (103, .getfield 7, 3) :: (106, .bipush 13, 2) :: (108, .bipush 30, 2) :: (110, .iastore, 1) :: (111, .aload_n 0, 1) :: (112, .getfield 7, 3) :: (115, .bipush 15, 2) :: (117, .sipush 250, 3) :: (120, .iastore, 1) :: (121, .iconst 0, 1) :: (122, .istore_n 1, 1) :: (123, .iload_n 1, 1) :: (124, .iconst 4, 1) :: (125, .if_icmp .ge 21, 3) :: (128, .aload_n 0, 1) :: (129, .getfield 7, 3) :: (132, .bipush 25, 2) :: (134, .iconst 3, 1) :: (135, .iload_n 1, 1) :: (136, .imul, 1) :: (137, .iadd, 1) :: (138, .iconst 1, 1) :: (139, .iastore, 1) :: (140, .iinc 1 1, 3) :: []) (by decide +kernel)
theorem e_X8_init_78 : decode cX8_init 78 = .ok (.aload_n 0, 1) := D_X8_init_1.1
theorem e_X8_init_79 : decode cX8_init 79 = .ok (.getfield 7, 3) := D_X8_init_1.2.1
theorem e_X8_init_82 : decode cX8_init 82 = .ok (.bipush 10, 2) := D_X8_init_1.2.2.1
theorem e_X8_init_84 : decode cX8_init 84 = .ok (.iconst 2, 1) := D_X8_init_1.2.2.2.1
theorem e_X8_init_85 : decode cX8_init 85 = .ok (.iastore, 1) := D_X8_init_1.2.2.2.2.1
theorem e_X8_init_86 : decode cX8_init 86 = .ok (.aload_n 0, 1) := D_X8_init_1.2.2.2.2.2.1
theorem e_X8_init_87 : decode cX8_init 87 = .ok (.getfield 7, 3) := D_X8_init_1.2.2.2.2.2.2.1
theorem e_X8_init_90 : decode cX8_init 90 = .ok (.bipush 11, 2) := D_X8_init_1.2.2.2.2.2.2.2.1
theorem e_X8_init_92 : decode cX8_init 92 = .ok (.iconst 1, 1) := D_X8_init_1.2.2.2.2.2.2.2.2.1
theorem e_X8_init_93 : decode cX8_init 93 = .ok (.iastore, 1) := D_X8_init_1.2.2.2.2.2.2.2.2.2.1
theorem e_X8_init_94 : decode cX8_init 94 = .ok (.aload_n 0, 1) := D_X8_init_1.2.2.2.2.2.2.2.2.2.2.1
theorem e_X8_init_95 : decode cX8_init 95 = .ok (.getfield 7, 3) := D_X8_init_1.2.2.2.2.2.2.2.2.2.2.2.1
theorem e_X8_init_98 : decode cX8_init 98 = .ok (.bipush 12, 2) := D_X8_init_1.2.2.2.2.2.2.2.2.2.2.2.2.1
theorem e_X8_init_100 : decode cX8_init 100 = .ok (.iconst 3, 1) := D_X8_init_1.2.2.2.2.2.2.2.2.2.2.2.2.2.1
theorem e_X8_init_101 : decode cX8_init 101 = .ok (.iastore, 1) := D_X8_init_1.2.2.2.2.2.2.2.2.2.2.2.2.2.2.1
theorem e_X8_init_102 : decode cX8_init 102 = .ok (.aload_n 0, 1) := D_X8_init_1.2.2.2.2.2.2.2.2.2.2.2.2.2.2.2.1
theorem e_X8_init_103 : decode cX8_init 103 = .ok (.getfield 7, 3) := D_X8_init_1.2.2.2.2.2.2.2.2.2.2.2.2.2.2.2.2.1
theorem e_X8_init_106 : decode cX8_init 106 = .ok (.bipush 13, 2) := D_X8_init_1.2.2.2.2.2.2.2.2.2.2.2.2.2.2.2.2.2.1
theorem e_X8_init_108 : decode cX8_init 108 = .ok (.bipush 30, 2) := D_X8_init_1.2.2.2.2.2.2.2.2.2.2.2.2.2.2.2.2.2.2.1
theorem e_X8_init_110 : decode cX8_init 110 = .ok (.iastore, 1) := D_X8_init_1.2.2.2.2.2.2.2.2.2.2.2.2.2.2.2.2.2.2.2.1
theorem e_X8_init_111 : decode cX8_init 111 = .ok (.aload_n 0, 1) := D_X8_init_1.2.2.2.2.2.2.2.2.2.2.2.2.2.2.2.2.2.2.2.2.1
theorem e_X8_init_112 : decode cX8_init 112 = .ok (.getfield 7, 3) := D_X8_init_1.2.2.2.2.2.2.2.2.2.2.2.2.2.2.2.2.2.2.2.2.2.1
theorem e_X8_init_115 : decode cX8_init 115 = .ok (.bipush 15, 2) := D_X8_init_1.2.2.2.2.2.2.2.2.2.2.2.2.2.2.2.2.2.2.2.2.2.2.1
theorem e_X8_init_117 : decode cX8_init 117 = .ok (.sipush 250, 3) := D_X8_init_1.2.2.2.2.2.2.2.2.2.2.2.2.2.2.2.2.2.2.2.2.2.2.2.1
theorem e_X8_init_120 : decode cX8_init 120 = .ok (.iastore, 1) := D_X8_init_1.2.2.2.2.2.2.2.2.2.2.2.2.2.2.2.2.2.2.2.2.2.2.2.2.1
theorem e_X8_init_121 : decode cX8_init 121 = .ok (.iconst 0, 1) := D_X8_init_1.2.2.2.2.2.2.2.2.2.2.2.2.2.2.2.2.2.2.2.2.2.2.2.2.2.1
theorem e_X8_init_122 : decode cX8_init 122 = .ok (.istore_n 1, 1) := D_X8_init_1.2.2.2.2.2.2.2.2.2.2.2.2.2.2.2.2.2.2.2.2.2.2.2.2.2.2.1
theorem e_X8_init_123 : decode cX8_init 123 = .ok (.iload_n 1, 1) := D_X8_init_1.2.2.2.2.2.2.2.2.2.2.2.2.2.2.2.2.2.2.2.2.2.2.2.2.2.2.2.1
theorem e_X8_init_124 : decode cX8_init 124 = .ok (.iconst 4, 1) := D_X8_init_1.2.2.2.2.2.2.2.2.2.2.2.2.2.2.2.2.2.2.2.2.2.2.2.2.2.2.2.2.1
theorem e_X8_init_125 : decode cX8_init 125 = .ok (.if_icmp .ge 21, 3) := D_X8_init_1.2.2.2.2.2.2.2.2.2.2.2.2.2.2.2.2.2.2.2.2.2.2.2.2.2.2.2.2.2.1
theorem e_X8_init_128 : decode cX8_init 128 = .ok (.aload_n 0, 1) := D_X8_init_1.2.2.2.2.2.2.2.2.2.2.2.2.2.2.2.2.2.2.2.2.2.2.2.2.2.2.2.2.2.2.1
theorem e_X8_init_129 : decode cX8_init 129 = .ok (.getfield 7, 3) := D_X8_init_1.2.2.2.2.2.2.2.2.2.2.2.2.2.2.2.2.2.2.2.2.2.2.2.2.2.2.2.2.2.2.2.1
theorem e_X8_init_132 : decode cX8_init 132 = .ok (.bipush 25, 2) := D_X8_init_1.2.2.2.2.2.2.2.2.2.2.2.2.2.2.2.2.2.2.2.2.2.2.2.2.2.2.2.2.2.2.2.2.1
theorem e_X8_init_134 : decode cX8_init 134 = .ok (.iconst 3, 1) := D_X8_init_1.2.2.2.2.2.2.2.2.2.2.2.2.2.2.2.2.2.2.2.2.2.2.2.2.2.2.2.2.2.2.2.2.2.1
theorem e_X8_init_135 : decode cX8_init 135 = .ok (.iload_n 1, 1) := D_X8_init_1.2.2.2.2.2.2.2.2.2.2.2.2.2.2.2.2.2.2.2.2.2.2.2.2.2.2.2.2.2.2.2.2.2.2.1
theorem e_X8_init_136 : decode cX8_init 136 = .ok (.imul, 1) := D_X8_init_1.2.2.2.2.2.2.2.2.2.2.2.2.2.2.2.2.2.2.2.2.2.2.2.2.2.2.2.2.2.2.2.2.2.2.2.1
theorem e_X8_init_137 : decode cX8_init 137 = .ok (.iadd, 1) := D_X8_init_1.2.2.2.2.2.2.2.2.2.2.2.2.2.2.2.2.2.2.2.2.2.2.2.2.2.2.2.2.2.2.2.2.2.2.2.2.1
theorem e_X8_init_138 : decode cX8_init 138 = .ok (.iconst 1, 1) := D_X8_init_1.2.2.2.2.2.2.2.2.2.2.2.2.2.2.2.2.2.2.2.2.2.2.2.2.2.2.2.2.2.2.2.2.2.2.2.2.2.1
theorem e_X8_init_139 : decode cX8_init 139 = .ok (.iastore, 1) := D_X8_init_1.2.2.2.2.2.2.2.2.2.2.2.2.2.2.2.2.2.2.2.2.2.2.2.2.2.2.2.2.2.2.2.2.2.2.2.2.2.2.1
theorem e_X8_init_140 : decode cX8_init 140 = .ok (.iinc 1 1, 3) := D_X8_init_1.2.2.2.2.2.2.2.2.2.2.2.2.2.2.2.2.2.2.2.2.2.2.2.2.2.2.2.2.2.2.2.2.2.2.2.2.2.2.2.1
set_option maxRecDepth 100000 in
theorem D_X8_init_2 : decode cX8_init 143 = .ok (.goto (-20), 3) ∧ decode cX8_init 146 = .ok (.return_, 1) ∧ True := dq_of (l := (143, .goto (-20), 3) :: (146, .return_, 1) :: []) (by decide +kernel)
theorem e_X8_init_143 : decode cX8_init 143 = .ok (.goto (-20), 3) := D_X8_init_2.1
theorem e_X8_init_146 : decode cX8_init 146 = .ok (.return_, 1) := D_X8_init_2.2.1
set_option maxRecDepth 100000 in
theorem D_X8_in_0 : decode cX8_in 0 = .ok (.iload_n 0, 1) ∧ decode cX8_in 1 = .ok (.iload_n 1, 1) ∧ decode cX8_in 2 = .ok (.if_icmp .lt 12, 3) ∧ decode cX8_in 5 = .ok (.iload_n 0, 1) ∧ decode cX8_in 6 = .ok (.iload_n 2, 1) ∧ decode cX8_in 7 = .ok (.if_icmp .gt 7, 3) ∧ decode cX8_in 10 = .ok (.iconst 1, 1) ∧ decode cX8_in 11 = .ok (.goto 4, 3) ∧ decode cX8_in 14 = .ok (.iconst 0, 1) ∧ decode cX8_in 15 = .ok (.ireturn, 1) ∧ True := dq_of (l := (0, .iload_n 0, 1) :: (1, .iload_n 1, 1) :: (2, .if_icmp .lt 12, 3) :: (5, .iload_n 0, 1) :: (6, .iload_n 2, 1) :: (7, .if_icmp .gt 7, 3) :: (10, .iconst 1, 1) :: (11, .goto 4, 3) :: (14, .iconst 0, 1) :: (15, .ireturn, 1) :: []) (by decide +kernel)
theorem e_X8_in_0 : decode cX8_in 0 = .ok (.iload_n 0, 1) := D_X8_in_0.1
theorem e_X8_in_1 : decode cX8_in 1 = .ok (.iload_n 1, 1) := D_X8_in_0.2.1
theorem e_X8_in_2 : decode cX8_in 2 = .ok (.if_icmp .lt 12, 3) := D_X8_in_0.2.2.1
theorem e_X8_in_5 : decode cX8_in 5 = .ok (.iload_n 0, 1) := D_X8_in_0.2.2.2.1
theorem e_X8_in_6 : decode cX8_in 6 = .ok (.iload_n 2, 1) := D_X8_in_0.2.2.2.2.1
theorem e_X8_in_7 : decode cX8_in 7 = .ok (.if_icmp .gt 7, 3) := D_X8_in_0.2.2.2.2.2.1
theorem e_X8_in_10 : decode cX8_in 10 = .ok (.iconst 1, 1) := D_X8_in_0.2.2.2.2.2.2.1
theorem e_X8_in_11 : decode cX8_in 11 = .ok (.goto 4, 3) := D_X8_in_0.2.2.2.2.2.2.2.1
theorem e_X8_in_14 : decode cX8_in 14 = .ok (.iconst 0, 1) := D_X8_in_0.2.2.2.2.2.2.2.2.1
theorem e_X8_in_15 : decode cX8_in 15 = .ok (.ireturn, 1) := D_X8_in_0.2.2.2.2.2.2.2.2.2.1
set_option maxRecDepth 100000 in
theorem D_X8_records_0 : decode cX8_records 0 = .ok (.aload_n 0, 1) ∧ decode cX8_records 1 = .ok (.getfield 29, 3) ∧ decode cX8_records 4 = .ok (.iconst 4, 1) ∧ decode cX8_records 5 = .ok (.if_icmp .ne 44, 3) ∧ decode cX8_records 8 = .ok (.iconst 0, 1) ∧ decode cX8_records 9 = .ok (.istore_n 1, 1) ∧ decode cX8_records 10 = .ok (.iload_n 1, 1) ∧ decode cX8_records 11 = .ok (.sipush 555, 3) ∧ decode cX8_records 14 = .ok (.if_icmp .ge 25, 3) ∧ decode cX8_records 17 = .ok (.aload_n 0, 1) ∧ decode cX8_records 18 = .ok (.getfield 13, 3) ∧ decode cX8_records 21 = .ok (.iload_n 1, 1) ∧ decode cX8_records 22 = .ok (.aload_n 0, 1) ∧ decode cX8_records 23 = .ok (.getfield 13, 3) ∧ decode cX8_records 26 = .ok (.iload_n 1, 1) ∧ decode cX8_records 27 = .ok (.sipush 185, 3) ∧ decode cX8_records 30 = .ok (.iadd, 1) ∧ decode cX8_records 31 = .ok (.iaload, 1) ∧ decode cX8_records 32 = .ok (.iastore, 1) ∧ decode cX8_records 33 = .ok (.iinc 1 1, 3) ∧ decode cX8_records 36 = .ok (.goto (-26), 3) ∧ decode cX8_records 39 = .ok (.aload_n 0, 1) ∧ decode cX8_records 40 = .ok (.dup, 1) ∧ decode cX8_records 41 = .ok (.getfield 29, 3) ∧ decode cX8_records 44 = .ok (.iconst 1, 1) ∧ decode cX8_records 45 = .ok (.isub, 1) ∧ decode cX8_records 46 = .ok (.putfield 29, 3) ∧ decode cX8_records 49 = .ok (.iconst 0, 1) ∧ decode cX8_records 50 = .ok (.istore_n 1, 1) ∧ decode cX8_records 51 = .ok (.iload_n 1, 1) ∧ decode cX8_records 52 = .ok (.sipush 185, 3) ∧ decode cX8_records 55 = .ok (.if_icmp .ge 30, 3) ∧ decode cX8_records 58 = .ok (.aload_n 0, 1) ∧ decode cX8_records 59 = .ok (.getfield 13, 3) ∧ decode cX8_records 62 = .ok (.sipush 185, 3) ∧ decode cX8_records 65 = .ok (.aload_n 0, 1) ∧ decode cX8_records 66 = .ok (.getfield 29, 3) ∧ decode cX8_records 69 = .ok (.imul, 1) ∧ decode cX8_records 70 = .ok (.iload_n 1, 1) ∧ decode cX8_records 71 = .ok (.iadd, 1) ∧ True := dq_of (l := (0, .aload_n 0, 1) :: (1, .getfield 29, 3) :: (4, .iconst 4, 1) :: (5, .if_icmp .ne 44, 3) :: (8, .iconst 0, 1) :: (9, .istore_n 1, 1) :: (10, .iload_n 1, 1) :: (11, .sipush 555, 3) :: (14, .if_icmp .ge 25, 3) :: (17, .aload_n 0, 1) :: (18, .getfield 13, 3) :: (21, .iload_n 1, 1) :: (22, .aload_n 0, 1) :: (23, .getfield 13, 3) :: (26, .iload_n 1, 1) :: (27, .sipush 185, 3) :: (30, .iadd, 1) :: (31, .iaload, 1) :: (32, .iastore, 1) :: (33, .iinc 1 1, 3) :: (36, .goto (-26), 3) :: (39, .aload_n 0, 1) :: (40, .dup, 1) :: (41, .getfield 29, 3) :: (44, .iconst 1, 1) :: (45, .isub, 1) :: (46, .putfield 29, 3) :: (49, .iconst 0, 1) :: (50, .istore_n 1, 1) :: (51, .iload_n 1, 1) :: (52, .sipush 185, 3) :: (55, .if_icmp .ge 30, 3) :: (58, .aload_n 0, 1) :: (59, .getfield 13, 3) :: (62, .sipush 185, 3) :: (65, .aload_n 0, 1) :: (66, .getfield 29, 3) :: (69, .imul, 1) :: (70, .iload_n 1, 1) :: (71, .iadd, 1) :: []) (by decide +kernel)
theorem e_X8_records_0 : decode cX8_records 0 = .ok (.aload_n 0, 1) := D_X8_records_0.1
theorem e_X8_records_1 : decode cX8_records 1 = .ok (.getfield 29, 3) := D_X8_records_0.2.1
theorem e_X8_records_4 : decode cX8_records 4 = .ok (.iconst 4, 1) := D_X8_records_0.2.2.1
theorem e_X8_records_5 : decode cX8_records 5 = .ok (.if_icmp .ne 44, 3) := D_X8_records_0.2.2.2.1
theorem e_X8_records_8 : decode cX8_records 8 = .ok (.iconst 0, 1) := D_X8_records_0.2.2.2.2.1
theorem e_X8_records_9 : decode cX8_records 9 = .ok (.istore_n 1, 1) := D_X8_records_0.2.2.2.2.2.1
theorem e_X8_records_10 : decode cX8_records 10 = .ok (.iload_n 1, 1) := D_X8_records_0.2.2.2.2.2.2.1
theorem e_X8_records_11 : decode cX8_records 11 = .ok (.sipush 555, 3) := D_X8_records_0.2.2.2.2.2.2.2.1
theorem e_X8_records_14 : decode cX8_records 14 = .ok (.if_icmp .ge 25, 3) := D_X8_records_0.2.2.2.2.2.2.2.2.1
theorem e_X8_records_17 : decode cX8_records 17 = .ok (.aload_n 0, 1) := D_X8_records_0.2.2.2.2.2.2.2.2.2.1
theorem e_X8_records_18 : decode cX8_records 18 = .ok (.getfield 13, 3) := D_X8_records_0.2.2.2.2.2.2.2.2.2.2.1
theorem e_X8_records_21 : decode cX8_records 21 = .ok (.iload_n 1, 1) := D_X8_records_0.2.2.2.2.2.2.2.2.2.2.2.1
theorem e_X8_records_22 : decode cX8_records 22 = .ok (.aload_n 0, 1) := D_X8_records_0.2.2.2.2.2.2.2.2.2.2.2.2.1
theorem e_X8_records_23 : decode cX8_records 23 = .ok (.getfield 13, 3) := D_X8_records_0.2.2.2.2.2.2.2.2.2.2.2.2.2.1
theorem e_X8_records_26 : decode cX8_records 26 = .ok (.iload_n 1, 1) := D_X8_records_0.2.2.2.2.2.2.2.2.2.2.2.2.2.2.1
theorem e_X8_records_27 : decode cX8_records 27 = .ok (.sipush 185, 3) := D_X8_records_0.2.2.2.2.2.2.2.2.2.2.2.2.2.2.2.1
theorem e_X8_records_30 : decode cX8_records 30 = .ok (.iadd, 1) := D_X8_records_0.2.2.2.2.2.2.2.2.2.2.2.2.2.2.2.2.1
theorem e_X8_records_31 : decode cX8_records 31 = .ok (.iaload, 1) := D_X8_records_0.2.2.2.2.2.2.2.2.2.2.2.2.2.2.2.2.2.1
theorem e_X8_records_32 : decode cX8_records 32 = .ok (.iastore, 1) := D_X8_records_0.2.2.2.2.2.2.2.2.2.2.2.2.2.2.2.2.2.2.1
theorem e_X8_records_33 : decode cX8_records 33 = .ok (.iinc 1 1, 3) := D_X8_records_0.2.2.2.2.2.2.2.2.2.2.2.2.2.2.2.2.2.2.2.1
theorem e_X8_records_36 : decode cX8_records 36 = .ok (.goto (-26), 3) := D_X8_records_0.2.2.2.2.2.2.2.2.2.2.2.2.2.2.2.2.2.2.2.2.1
theorem e_X8_records_39 : decode cX8_records 39 = .ok (.aload_n 0, 1) := D_X8_records_0.2.2.2.2.2.2.2.2.2.2.2.2.2.2.2.2.2.2.2.2.2.1
theorem e_X8_records_40 : decode cX8_records 40 = .ok (.dup, 1) := D_X8_records_0.2.2.2.2.2.2.2.2.2.2.2.2.2.2.2.2.2.2.2.2.2.2.1
theorem e_X8_records_41 : decode cX8_records 41 = .ok (.getfield 29, 3) := D_X8_records_0.2.2.2.2.2.2.2.2.2.2.2.2.2.2.2.2.2.2.2.2.2.2.2.1
theorem e_X8_records_44 : decode cX8_records 44 = .ok (.iconst 1, 1) := D_X8_records_0.2.2.2.2.2.2.2.2.2.2.2.2.2.2.2.2.2.2.2.2.2.2.2.2.1
theorem e_X8_records_45 : decode cX8_records 45 = .ok (.isub, 1) := D_X8_records_0.2.2.2.2.2.2.2.2.2.2.2.2.2.2.2.2.2.2.2.2.2.2.2.2.2.1
theorem e_X8_records_46 : decode cX8_records 46 = .ok (.putfield 29, 3) := D_X8_records_0.2.2.2.2.2.2.2.2.2.2.2.2.2.2.2.2.2.2.2.2.2.2.2.2.2.2.1
theorem e_X8_records_49 : decode cX8_records 49 = .ok (.iconst 0, 1) := D_X8_records_0.2.2.2.2.2.2.2.2.2.2.2.2.2.2.2.2.2.2.2.2.2.2.2.2.2.2.2.1
theorem e_X8_records_50 : decode cX8_records 50 = .ok (.istore_n 1, 1) := D_X8_records_0.2.2.2.2.2.2.2.2.2.2.2.2.2.2.2.2.2.2.2.2.2.2.2.2.2.2.2.2.1
theorem e_X8_records_51 : decode cX8_records 51 = .ok (.iload_n 1, 1) := D_X8_records_0.2.2.2.2.2.2.2.2.2.2.2.2.2.2.2.2.2.2.2.2.2.2.2.2.2.2.2.2.2.1
theorem e_X8_records_52 : decode cX8_records 52 = .ok (.sipush 185, 3) := D_X8_records_0.2.2.2.2.2.2.2.2.2.2.2.2.2.2.2.2.2.2.2.2.2.2.2.2.2.2.2.2.2.2.1
theorem e_X8_records_55 : decode cX8_records 55 = .ok (.if_icmp .ge 30, 3) := D_X8_records_0.2.2.2.2.2.2.2.2.2.2.2.2.2.2.2.2.2.2.2.2.2.2.2.2.2.2.2.2.2.2.2.1
theorem e_X8_records_58 : decode cX8_records 58 = .ok (.aload_n 0, 1) := D_X8_records_0.2.2.2.2.2.2.2.2.2.2.2.2.2.2.2.2.2.2.2.2.2.2.2.2.2.2.2.2.2.2.2.2.1
theorem e_X8_records_59 : decode cX8_records 59 = .ok (.getfield 13, 3) := D_X8_records_0.2.2.2.2.2.2.2.2.2.2.2.2.2.2.2.2.2.2.2.2.2.2.2.2.2.2.2.2.2.2.2.2.2.1
theorem e_X8_records_62 : decode cX8_records 62 = .ok (.sipush 185, 3) := D_X8_records_0.2.2.2.2.2.2.2.2.2.2.2.2.2.2.2.2.2.2.2.2.2.2.2.2.2.2.2.2.2.2.2.2.2.2.1
theorem e_X8_records_65 : decode cX8_records 65 = .ok (.aload_n 0, 1) := D_X8_records_0.2.2.2.2.2.2.2.2.2.2.2.2.2.2.2.2.2.2.2.2.2.2.2.2.2.2.2.2.2.2.2.2.2.2.2.1
theorem e_X8_records_66 : decode cX8_records 66 = .ok (.getfield 29, 3) := D_X8_records_0.2.2.2.2.2.2.2.2.2.2.2.2.2.2.2.2.2.2.2.2.2.2.2.2.2.2.2.2.2.2.2.2.2.2.2.2.1
theorem e_X8_records_69 : decode cX8_records 69 = .ok (.imul, 1) := D_X8_records_0.2.2.2.2.2.2.2.2.2.2.2.2.2.2.2.2.2.2.2.2.2.2.2.2.2.2.2.2.2.2.2.2.2.2.2.2.2.1
theorem e_X8_records_70 : decode cX8_records 70 = .ok (.iload_n 1, 1) := D_X8_records_0.2.2.2.2.2.2.2.2.2.2.2.2.2.2.2.2.2.2.2.2.2.2.2.2.2.2.2.2.2.2.2.2.2.2.2.2.2.2.1
theorem e_X8_records_71 : decode cX8_records 71 = .ok (.iadd, 1) := D_X8_records_0.2.2.2.2.2.2.2.2.2.2.2.2.2.2.2.2.2.2.2.2.2.2.2.2.2.2.2.2.2.2.2.2.2.2.2.2.2.2.2.1
set_option maxRecDepth 100000 in
theorem D_X8_records_1 : decode cX8_records 72 = .ok (.aload_n 0, 1) ∧ decode cX8_records 73 = .ok (.getfield 7, 3) ∧ decode cX8_records 76 = .ok (.iload_n 1, 1) ∧ decode cX8_records 77 = .ok (.iaload, 1) ∧ decode cX8_records 78 = .ok (.iastore, 1) ∧ decode cX8_records 79 = .ok (.iinc 1 1, 3) ∧ decode cX8_records 82 = .ok (.goto (-31), 3) ∧ decode cX8_records 85 = .ok (.aload_n 0, 1) ∧ decode cX8_records 86 = .ok (.dup, 1) ∧ decode cX8_records 87 = .ok (.getfield 29, 3) ∧ decode cX8_records 90 = .ok (.iconst 1, 1) ∧ decode cX8_records 91 = .ok (.iadd, 1) ∧ decode cX8_records 92 = .ok (.putfield 29, 3) ∧ decode cX8_records 95 = .ok (.return_, 1) ∧ True := dq_of (l := (72, .aload_n 0, 1) :: (73, .getfield 7, 3) :: (76, .iload_n 1, 1) :: (77, .iaload, 1) :: (78, .iastore, 1) :: (79, .iinc 1 1, 3) :: (82, .goto (-31), 3) :: (85, .aload_n 0, 1) :: (86, .dup, 1) :: (87, .getfield 29, 3) :: (90, .iconst 1, 1) :: (91, .iadd, 1) :: (92, .putfield 29, 3) :: (95, .return_, 1) :: []) (by decide +kernel)
theorem e_X8_records_72 : decode cX8_records 72 = .ok (.aload_n 0, 1) := D_X8_records_1.1
theorem e_X8_records_73 : decode cX8_records 73 = .ok (.getfield 7, 3) := D_X8_records_1.2.1
theorem e_X8_records_76 : decode cX8_records 76 = .ok (.iload_n 1, 1) := D_X8_records_1.2.2.1
theorem e_X8_records_77 : decode cX8_records 77 = .ok (.iaload, 1) := D_X8_records_1.2.2.2.1
theorem e_X8_records_78 : decode cX8_records 78 = .ok (.iastore, 1) := D_X8_records_1.2.2.2.2.1
theorem e_X8_records_79 : decode cX8_records 79 = .ok (.iinc 1 1, 3) := D_X8_records_1.2.2.2.2.2.1
theorem e_X8_records_82 : decode cX8_records 82 = .ok (.goto (-31), 3) := D_X8_records_1.2.2.2.2.2.2.1
theorem e_X8_records_85 : decode cX8_records 85 = .ok (.aload_n 0, 1) := D_X8_records_1.2.2.2.2.2.2.2.1
theorem e_X8_records_86 : decode cX8_records 86 = .ok (.dup, 1) := D_X8_records_1.2.2.2.2.2.2.2.2.1
theorem e_X8_records_87 : decode cX8_records 87 = .ok (.getfield 29, 3) := D_X8_records_1.2.2.2.2.2.2.2.2.2.1
theorem e_X8_records_90 : decode cX8_records 90 = .ok (.iconst 1, 1) := D_X8_records_1.2.2.2.2.2.2.2.2.2.2.1
theorem e_X8_records_91 : decode cX8_records 91 = .ok (.iadd, 1) := D_X8_records_1.2.2.2.2.2.2.2.2.2.2.2.1
theorem e_X8_records_92 : decode cX8_records 92 = .ok (.putfield 29, 3) := D_X8_records_1.2.2.2.2.2.2.2.2.2.2.2.2.1
theorem e_X8_records_95 : decode cX8_records 95 = .ok (.return_, 1) := D_X8_records_1.2.2.2.2.2.2.2.2.2.2.2.2.2.1
set_option maxRecDepth 100000 in
theorem D_X8_undo_0 : decode cX8_undo 0 = .ok (.aload_n 0, 1) ∧ decode cX8_undo 1 = .ok (.getfield 29, 3) ∧ decode cX8_undo 4 = .ok (.ifCond .ne 6, 3) ∧ decode cX8_undo 7 = .ok (.bipush (-2), 2) ∧ decode cX8_undo 9 = .ok (.ireturn, 1) ∧ decode cX8_undo 10 = .ok (.aload_n 0, 1) ∧ decode cX8_undo 11 = .ok (.dup, 1) ∧ decode cX8_undo 12 = .ok (.getfield 29, 3) ∧ decode cX8_undo 15 = .ok (.iconst 1, 1) ∧ decode cX8_undo 16 = .ok (.isub, 1) ∧ decode cX8_undo 17 = .ok (.putfield 29, 3) ∧ decode cX8_undo 20 = .ok (.iconst 0, 1) ∧ decode cX8_undo 21 = .ok (.istore_n 1, 1) ∧ decode cX8_undo 22 = .ok (.iload_n 1, 1) ∧ decode cX8_undo 23 = .ok (.sipush 185, 3) ∧ decode cX8_undo 26 = .ok (.if_icmp .ge 30, 3) ∧ decode cX8_undo 29 = .ok (.aload_n 0, 1) ∧ decode cX8_undo 30 = .ok (.getfield 7, 3) ∧ decode cX8_undo 33 = .ok (.iload_n 1, 1) ∧ decode cX8_undo 34 = .ok (.aload_n 0, 1) ∧ decode cX8_undo 35 = .ok (.getfield 13, 3) ∧ decode cX8_undo 38 = .ok (.sipush 185, 3) ∧ decode cX8_undo 41 = .ok (.aload_n 0, 1) ∧ decode cX8_undo 42 = .ok (.getfield 29, 3) ∧ decode cX8_undo 45 = .ok (.imul, 1) ∧ decode cX8_undo 46 = .ok (.iload_n 1, 1) ∧ decode cX8_undo 47 = .ok (.iadd, 1) ∧ decode cX8_undo 48 = .ok (.iaload, 1) ∧ decode cX8_undo 49 = .ok (.iastore, 1) ∧ decode cX8_undo 50 = .ok (.iinc 1 1, 3) ∧ decode cX8_undo 53 = .ok (.goto (-31), 3) ∧ decode cX8_undo 56 = .ok (.aload_n 0, 1) ∧ decode cX8_undo 57 = .ok (.getfield 29, 3) ∧ decode cX8_undo 60 = .ok (.ireturn, 1) ∧ True := dq_of (l := (0, .aload_n 0, 1) :: (1, .getfield 29, 3) :: (4, .ifCond .ne 6, 3) :: (7, .bipush (-2), 2) :: (9, .ireturn, 1) :: (10, .aload_n 0, 1) :: (11, .dup, 1) :: (12, .getfield 29, 3) :: (15, .iconst 1, 1) :: (16, .isub, 1) :: (17, .putfield 29, 3) :: (20, .iconst 0, 1) :: (21, .istore_n 1, 1) :: (22, .iload_n 1, 1) :: (23, .sipush 185, 3) :: (26, .if_icmp .ge 30, 3) :: (29, .aload_n 0, 1) :: (30, .getfield 7, 3) :: (33, .iload_n 1, 1) :: (34, .aload_n 0, 1) :: (35, .getfield 13, 3) :: (38, .sipush 185, 3) :: (41, .aload_n 0, 1) :: (42, .getfield 29, 3) :: (45, .imul, 1) :: (46, .iload_n 1, 1) :: (47, .iadd, 1) :: (48, .iaload, 1) :: (49, .iastore, 1) :: (50, .iinc 1 1, 3) :: (53, .goto (-31), 3) :: (56, .aload_n 0, 1) :: (57, .getfield 29, 3) :: (60, .ireturn, 1) :: []) (by decide +kernel)
theorem e_X8_undo_0 : decode cX8_undo 0 = .ok (.aload_n 0, 1) := D_X8_undo_0.1
theorem e_X8_undo_1 : decode cX8_undo 1 = .ok (.getfield 29, 3) := D_X8_undo_0.2.1
theorem e_X8_undo_4 : decode cX8_undo 4 = .ok (.ifCond .ne 6, 3) := D_X8_undo_0.2.2.1
theorem e_X8_undo_7 : decode cX8_undo 7 = .ok (.bipush (-2), 2) := D_X8_undo_0.2.2.2.1
theorem e_X8_undo_9 : decode cX8_undo 9 = .ok (.ireturn, 1) := D_X8_undo_0.2.2.2.2.1
theorem e_X8_undo_10 : decode cX8_undo 10 = .ok (.aload_n 0, 1) := D_X8_undo_0.2.2.2.2.2.1
theorem e_X8_undo_11 : decode cX8_undo 11 = .ok (.dup, 1) := D_X8_undo_0.2.2.2.2.2.2.1
theorem e_X8_undo_12 : decode cX8_undo 12 = .ok (.getfield 29, 3) := D_X8_undo_0.2.2.2.2.2.2.2.1
theorem e_X8_undo_15 : decode cX8_undo 15 = .ok (.iconst 1, 1) := D_X8_undo_0.2.2.2.2.2.2.2.2.1
theorem e_X8_undo_16 : decode cX8_undo 16 = .ok (.isub, 1) := D_X8_undo_0.2.2.2.2.2.2.2.2.2.1
theorem e_X8_undo_17 : decode cX8_undo 17 = .ok (.putfield 29, 3) := D_X8_undo_0.2.2.2.2.2.2.2.2.2.2.1
theorem e_X8_undo_20 : decode cX8_undo 20 = .ok (.iconst 0, 1) := D_X8_undo_0.2.2.2.2.2.2.2.2.2.2.2.1
theorem e_X8_undo_21 : decode cX8_undo 21 = .ok (.istore_n 1, 1) := D_X8_undo_0.2.2.2.2.2.2.2.2.2.2.2.2.1
theorem e_X8_undo_22 : decode cX8_undo 22 = .ok (.iload_n 1, 1) := D_X8_undo_0.2.2.2.2.2.2.2.2.2.2.2.2.2.1
theorem e_X8_undo_23 : decode cX8_undo 23 = .ok (.sipush 185, 3) := D_X8_undo_0.2.2.2.2.2.2.2.2.2.2.2.2.2.2.1
theorem e_X8_undo_26 : decode cX8_undo 26 = .ok (.if_icmp .ge 30, 3) := D_X8_undo_0.2.2.2.2.2.2.2.2.2.2.2.2.2.2.2.1
theorem e_X8_undo_29 : decode cX8_undo 29 = .ok (.aload_n 0, 1) := D_X8_undo_0.2.2.2.2.2.2.2.2.2.2.2.2.2.2.2.2.1
theorem e_X8_undo_30 : decode cX8_undo 30 = .ok (.getfield 7, 3) := D_X8_undo_0.2.2.2.2.2.2.2.2.2.2.2.2.2.2.2.2.2.1
theorem e_X8_undo_33 : decode cX8_undo 33 = .ok (.iload_n 1, 1) := D_X8_undo_0.2.2.2.2.2.2.2.2.2.2.2.2.2.2.2.2.2.2.1
theorem e_X8_undo_34 : decode cX8_undo 34 = .ok (.aload_n 0, 1) := D_X8_undo_0.2.2.2.2.2.2.2.2.2.2.2.2.2.2.2.2.2.2.2.1
theorem e_X8_undo_35 : decode cX8_undo 35 = .ok (.getfield 13, 3) := D_X8_undo_0.2.2.2.2.2.2.2.2.2.2.2.2.2.2.2.2.2.2.2.2.1
theorem e_X8_undo_38 : decode cX8_undo 38 = .ok (.sipush 185, 3) := D_X8_undo_0.2.2.2.2.2.2.2.2.2.2.2.2.2.2.2.2.2.2.2.2.2.1
theorem e_X8_undo_41 : decode cX8_undo 41 = .ok (.aload_n 0, 1) := D_X8_undo_0.2.2.2.2.2.2.2.2.2.2.2.2.2.2.2.2.2.2.2.2.2.2.1
theorem e_X8_undo_42 : decode cX8_undo 42 = .ok (.getfield 29, 3) := D_X8_undo_0.2.2.2.2.2.2.2.2.2.2.2.2.2.2.2.2.2.2.2.2.2.2.2.1
theorem e_X8_undo_45 : decode cX8_undo 45 = .ok (.imul, 1) := D_X8_undo_0.2.2.2.2.2.2.2.2.2.2.2.2.2.2.2.2.2.2.2.2.2.2.2.2.1
theorem e_X8_undo_46 : decode cX8_undo 46 = .ok (.iload_n 1, 1) := D_X8_undo_0.2.2.2.2.2.2.2.2.2.2.2.2.2.2.2.2.2.2.2.2.2.2.2.2.2.1
theorem e_X8_undo_47 : decode cX8_undo 47 = .ok (.iadd, 1) := D_X8_undo_0.2.2.2.2.2.2.2.2.2.2.2.2.2.2.2.2.2.2.2.2.2.2.2.2.2.2.1
theorem e_X8_undo_48 : decode cX8_undo 48 = .ok (.iaload, 1) := D_X8_undo_0.2.2.2.2.2.2.2.2.2.2.2.2.2.2.2.2.2.2.2.2.2.2.2.2.2.2.2.1
theorem e_X8_undo_49 : decode cX8_undo 49 = .ok (.iastore, 1) := D_X8_undo_0.2.2.2.2.2.2.2.2.2.2.2.2.2.2.2.2.2.2.2.2.2.2.2.2.2.2.2.2.1
theorem e_X8_undo_50 : decode cX8_undo 50 = .ok (.iinc 1 1, 3) := D_X8_undo_0.2.2.2.2.2.2.2.2.2.2.2.2.2.2.2.2.2.2.2.2.2.2.2.2.2.2.2.2.2.1
theorem e_X8_undo_53 : decode cX8_undo 53 = .ok (.goto (-31), 3) := D_X8_undo_0.2.2.2.2.2.2.2.2.2.2.2.2.2.2.2.2.2.2.2.2.2.2.2.2.2.2.2.2.2.2.1
theorem e_X8_undo_56 : decode cX8_undo 56 = .ok (.aload_n 0, 1) := D_X8_undo_0.2.2.2.2.2.2.2.2.2.2.2.2.2.2.2.2.2.2.2.2.2.2.2.2.2.2.2.2.2.2.2.1
theorem e_X8_undo_57 : decode cX8_undo 57 = .ok (.getfield 29, 3) := D_X8_undo_0.2.2.2.2.2.2.2.2.2.2.2.2.2.2.2.2.2.2.2.2.2.2.2.2.2.2.2.2.2.2.2.2.1
theorem e_X8_undo_60 : decode cX8_undo 60 = .ok (.ireturn, 1) := D_X8_undo_0.2.2.2.2.2.2.2.2.2.2.2.2.2.2.2.2.2.2.2.2.2.2.2.2.2.2.2.2.2.2.2.2.2.1
set_option maxRecDepth 100000 in
theorem D_X8_isPaper_0 : decode cX8_isPaper 0 = .ok (.iload_n 0, 1) ∧ decode cX8_isPaper 1 = .ok (.iconst 0, 1) ∧ decode cX8_isPaper 2 = .ok (.iconst 3, 1) ∧ decode cX8_isPaper 3 = .ok (.invokestatic 32, 3) ∧ decode cX8_isPaper 6 = .ok (.ifCond .eq 16, 3) ∧ decode cX8_isPaper 9 = .ok (.iload_n 1, 1) ∧ decode cX8_isPaper 10 = .ok (.iconst 0, 1) ∧ decode cX8_isPaper 11 = .ok (.iconst 3, 1) ∧ decode cX8_isPaper 12 = .ok (.invokestatic 32, 3) ∧ decode cX8_isPaper 15 = .ok (.ifCond .eq 7, 3) ∧ decode cX8_isPaper 18 = .ok (.iconst 1, 1) ∧ decode cX8_isPaper 19 = .ok (.goto 4, 3) ∧ decode cX8_isPaper 22 = .ok (.iconst 0, 1) ∧ decode cX8_isPaper 23 = .ok (.ireturn, 1) ∧ True := dq_of (l := (0, .iload_n 0, 1) :: (1, .iconst 0, 1) :: (2, .iconst 3, 1) :: (3, .invokestatic 32, 3) :: (6, .ifCond .eq 16, 3) :: (9, .iload_n 1, 1) :: (10, .iconst 0, 1) :: (11, .iconst 3, 1) :: (12, .invokestatic 32, 3) :: (15, .ifCond .eq 7, 3) :: (18, .iconst 1, 1) :: (19, .goto 4, 3) :: (22, .iconst 0, 1) :: (23, .ireturn, 1) :: []) (by decide +kernel)
theorem e_X8_isPaper_0 : decode cX8_isPaper 0 = .ok (.iload_n 0, 1) := D_X8_isPaper_0.1
theorem e_X8_isPaper_1 : decode cX8_isPaper 1 = .ok (.iconst 0, 1) := D_X8_isPaper_0.2.1
theorem e_X8_isPaper_2 : decode cX8_isPaper 2 = .ok (.iconst 3, 1) := D_X8_isPaper_0.2.2.1
theorem e_X8_isPaper_3 : decode cX8_isPaper 3 = .ok (.invokestatic 32, 3) := D_X8_isPaper_0.2.2.2.1
theorem e_X8_isPaper_6 : decode cX8_isPaper 6 = .ok (.ifCond .eq 16, 3) := D_X8_isPaper_0.2.2.2.2.1
theorem e_X8_isPaper_9 : decode cX8_isPaper 9 = .ok (.iload_n 1, 1) := D_X8_isPaper_0.2.2.2.2.2.1
theorem e_X8_isPaper_10 : decode cX8_isPaper 10 = .ok (.iconst 0, 1) := D_X8_isPaper_0.2.2.2.2.2.2.1
theorem e_X8_isPaper_11 : decode cX8_isPaper 11 = .ok (.iconst 3, 1) := D_X8_isPaper_0.2.2.2.2.2.2.2.1
theorem e_X8_isPaper_12 : decode cX8_isPaper 12 = .ok (.invokestatic 32, 3) := D_X8_isPaper_0.2.2.2.2.2.2.2.2.1
theorem e_X8_isPaper_15 : decode cX8_isPaper 15 = .ok (.ifCond .eq 7, 3) := D_X8_isPaper_0.2.2.2.2.2.2.2.2.2.1
theorem e_X8_isPaper_18 : decode cX8_isPaper 18 = .ok (.iconst 1, 1) := D_X8_isPaper_0.2.2.2.2.2.2.2.2.2.2.1
theorem e_X8_isPaper_19 : decode cX8_isPaper 19 = .ok (.goto 4, 3) := D_X8_isPaper_0.2.2.2.2.2.2.2.2.2.2.2.1
theorem e_X8_isPaper_22 : decode cX8_isPaper 22 = .ok (.iconst 0, 1) := D_X8_isPaper_0.2.2.2.2.2.2.2.2.2.2.2.2.1
theorem e_X8_isPaper_23 : decode cX8_isPaper 23 = .ok (.ireturn, 1) := D_X8_isPaper_0.2.2.2.2.2.2.2.2.2.2.2.2.2.1
set_option maxRecDepth 100000 in
theorem D_X8_isTray_0 : decode cX8_isTray 0 = .ok (.iload_n 0, 1) ∧ decode cX8_isTray 1 = .ok (.iconst 0, 1) ∧ decode cX8_isTray 2 = .ok (.iconst 3, 1) ∧ decode cX8_isTray 3 = .ok (.invokestatic 32, 3) ∧ decode cX8_isTray 6 = .ok (.ireturn, 1) ∧ True := dq_of (l := (0, .iload_n 0, 1) :: (1, .iconst 0, 1) :: (2, .iconst 3, 1) :: (3, .invokestatic 32, 3) :: (6, .ireturn, 1) :: []) (by decide +kernel)
theorem e_X8_isTray_0 : decode cX8_isTray 0 = .ok (.iload_n 0, 1) := D_X8_isTray_0.1
theorem e_X8_isTray_1 : decode cX8_isTray 1 = .ok (.iconst 0, 1) := D_X8_isTray_0.2.1
theorem e_X8_isTray_2 : decode cX8_isTray 2 = .ok (.iconst 3, 1) := D_X8_isTray_0.2.2.1
theorem e_X8_isTray_3 : decode cX8_isTray 3 = .ok (.invokestatic 32, 3) := D_X8_isTray_0.2.2.2.1
theorem e_X8_isTray_6 : decode cX8_isTray 6 = .ok (.ireturn, 1) := D_X8_isTray_0.2.2.2.2.1
set_option maxRecDepth 100000 in
theorem D_X8_fill_0 : decode cX8_fill 0 = .ok (.iload_n 1, 1) ∧ decode cX8_fill 1 = .ok (.invokestatic 36, 3) ∧ decode cX8_fill 4 = .ok (.ifCond .eq 14, 3) ∧ decode cX8_fill 7 = .ok (.iload_n 2, 1) ∧ decode cX8_fill 8 = .ok (.iconst 1, 1) ∧ decode cX8_fill 9 = .ok (.sipush 500, 3) ∧ decode cX8_fill 12 = .ok (.invokestatic 32, 3) ∧ decode cX8_fill 15 = .ok (.ifCond .ne 5, 3) ∧ decode cX8_fill 18 = .ok (.iconst (-1), 1) ∧ decode cX8_fill 19 = .ok (.ireturn, 1) ∧ decode cX8_fill 20 = .ok (.bipush 25, 2) ∧ decode cX8_fill 22 = .ok (.iconst 3, 1) ∧ decode cX8_fill 23 = .ok (.iload_n 1, 1) ∧ decode cX8_fill 24 = .ok (.imul, 1) ∧ decode cX8_fill 25 = .ok (.iadd, 1) ∧ decode cX8_fill 26 = .ok (.iconst 2, 1) ∧ decode cX8_fill 27 = .ok (.iadd, 1) ∧ decode cX8_fill 28 = .ok (.istore_n 3, 1) ∧ decode cX8_fill 29 = .ok (.aload_n 0, 1) ∧ decode cX8_fill 30 = .ok (.getfield 7, 3) ∧ decode cX8_fill 33 = .ok (.iload_n 3, 1) ∧ decode cX8_fill 34 = .ok (.iaload, 1) ∧ decode cX8_fill 35 = .ok (.iload_n 2, 1) ∧ decode cX8_fill 36 = .ok (.iadd, 1) ∧ decode cX8_fill 37 = .ok (.sipush 500, 3) ∧ decode cX8_fill 40 = .ok (.if_icmp .le 6, 3) ∧ decode cX8_fill 43 = .ok (.bipush (-3), 2) ∧ decode cX8_fill 45 = .ok (.ireturn, 1) ∧ decode cX8_fill 46 = .ok (.aload_n 0, 1) ∧ decode cX8_fill 47 = .ok (.invokevirtual 40, 3) ∧ decode cX8_fill 50 = .ok (.aload_n 0, 1) ∧ decode cX8_fill 51 = .ok (.getfield 7, 3) ∧ decode cX8_fill 54 = .ok (.iload_n 3, 1) ∧ decode cX8_fill 55 = .ok (.dup2, 1) ∧ decode cX8_fill 56 = .ok (.iaload, 1) ∧ decode cX8_fill 57 = .ok (.iload_n 2, 1) ∧ decode cX8_fill 58 = .ok (.iadd, 1) ∧ decode cX8_fill 59 = .ok (.iastore, 1) ∧ decode cX8_fill 60 = .ok (.aload_n 0, 1) ∧ decode cX8_fill 61 = .ok (.getfield 7, 3) ∧ True := dq_of (l := (0, .iload_n 1, 1) :: (1, .invokestatic 36, 3) :: (4, .ifCond .eq 14, 3) :: (7, .iload_n 2, 1) :: (8, .iconst 1, 1) :: (9, .sipush 500, 3) :: (12, .invokestatic 32, 3) :: (15, .ifCond .ne 5, 3) :: (18, .iconst (-1), 1) :: (19, .ireturn, 1) :: (20, .bipush 25, 2) :: (22, .iconst 3, 1) :: (23, .iload_n 1, 1) :: (24, .imul, 1) :: (25, .iadd, 1) :: (26, .iconst 2, 1) :: (27, .iadd, 1) :: (28, .istore_n 3, 1) :: (29, .aload_n 0, 1) :: (30, .getfield 7, 3) :: (33, .iload_n 3, 1) :: (34, .iaload, 1) :: (35, .iload_n 2, 1) :: (36, .iadd, 1) :: (37, .sipush 500, 3) :: (40, .if_icmp .le 6, 3) :: (43, .bipush (-3), 2) :: (45, .ireturn, 1) :: (46, .aload_n 0, 1) :: (47, .invokevirtual 40, 3) :: (50, .aload_n 0, 1) :: (51, .getfield 7, 3) :: (54, .iload_n 3, 1) :: (55, .dup2, 1) :: (56, .iaload, 1) :: (57, .iload_n 2, 1) :: (58, .iadd, 1) :: (59, .iastore, 1) :: (60, .aload_n 0, 1) :: (61, .getfield 7, 3) :: []) (by decide +kernel)
theorem e_X8_fill_0 : decode cX8_fill 0 = .ok (.iload_n 1, 1) := D_X8_fill_0.1
theorem e_X8_fill_1 : decode cX8_fill 1 = .ok (.invokestatic 36, 3) := D_X8_fill_0.2.1
theorem e_X8_fill_4 : decode cX8_fill 4 = .ok (.ifCond .eq 14, 3) := D_X8_fill_0.2.2.1
theorem e_X8_fill_7 : decode cX8_fill 7 = .ok (.iload_n 2, 1) := D_X8_fill_0.2.2.2.1
theorem e_X8_fill_8 : decode cX8_fill 8 = .ok (.iconst 1, 1) := D_X8_fill_0.2.2.2.2.1
theorem e_X8_fill_9 : decode cX8_fill 9 = .ok (.sipush 500, 3) := D_X8_fill_0.2.2.2.2.2.1
theorem e_X8_fill_12 : decode cX8_fill 12 = .ok (.invokestatic 32, 3) := D_X8_fill_0.2.2.2.2.2.2.1
theorem e_X8_fill_15 : decode cX8_fill 15 = .ok (.ifCond .ne 5, 3) := D_X8_fill_0.2.2.2.2.2.2.2.1
theorem e_X8_fill_18 : decode cX8_fill 18 = .ok (.iconst (-1), 1) := D_X8_fill_0.2.2.2.2.2.2.2.2.1
theorem e_X8_fill_19 : decode cX8_fill 19 = .ok (.ireturn, 1) := D_X8_fill_0.2.2.2.2.2.2.2.2.2.1
theorem e_X8_fill_20 : decode cX8_fill 20 = .ok (.bipush 25, 2) := D_X8_fill_0.2.2.2.2.2.2.2.2.2.2.1
theorem e_X8_fill_22 : decode cX8_fill 22 = .ok (.iconst 3, 1) := D_X8_fill_0.2.2.2.2.2.2.2.2.2.2.2.1
theorem e_X8_fill_23 : decode cX8_fill 23 = .ok (.iload_n 1, 1) := D_X8_fill_0.2.2.2.2.2.2.2.2.2.2.2.2.1
theorem e_X8_fill_24 : decode cX8_fill 24 = .ok (.imul, 1) := D_X8_fill_0.2.2.2.2.2.2.2.2.2.2.2.2.2.1
theorem e_X8_fill_25 : decode cX8_fill 25 = .ok (.iadd, 1) := D_X8_fill_0.2.2.2.2.2.2.2.2.2.2.2.2.2.2.1
theorem e_X8_fill_26 : decode cX8_fill 26 = .ok (.iconst 2, 1) := D_X8_fill_0.2.2.2.2.2.2.2.2.2.2.2.2.2.2.2.1
theorem e_X8_fill_27 : decode cX8_fill 27 = .ok (.iadd, 1) := D_X8_fill_0.2.2.2.2.2.2.2.2.2.2.2.2.2.2.2.2.1
theorem e_X8_fill_28 : decode cX8_fill 28 = .ok (.istore_n 3, 1) := D_X8_fill_0.2.2.2.2.2.2.2.2.2.2.2.2.2.2.2.2.2.1
theorem e_X8_fill_29 : decode cX8_fill 29 = .ok (.aload_n 0, 1) := D_X8_fill_0.2.2.2.2.2.2.2.2.2.2.2.2.2.2.2.2.2.2.1
theorem e_X8_fill_30 : decode cX8_fill 30 = .ok (.getfield 7, 3) := D_X8_fill_0.2.2.2.2.2.2.2.2.2.2.2.2.2.2.2.2.2.2.2.1
theorem e_X8_fill_33 : decode cX8_fill 33 = .ok (.iload_n 3, 1) := D_X8_fill_0.2.2.2.2.2.2.2.2.2.2.2.2.2.2.2.2.2.2.2.2.1
theorem e_X8_fill_34 : decode cX8_fill 34 = .ok (.iaload, 1) := D_X8_fill_0.2.2.2.2.2.2.2.2.2.2.2.2.2.2.2.2.2.2.2.2.2.1
theorem e_X8_fill_35 : decode cX8_fill 35 = .ok (.iload_n 2, 1) := D_X8_fill_0.2.2.2.2.2.2.2.2.2.2.2.2.2.2.2.2.2.2.2.2.2.2.1
theorem e_X8_fill_36 : decode cX8_fill 36 = .ok (.iadd, 1) := D_X8_fill_0.2.2.2.2.2.2.2.2.2.2.2.2.2.2.2.2.2.2.2.2.2.2.2.1
theorem e_X8_fill_37 : decode cX8_fill 37 = .ok (.sipush 500, 3) := D_X8_fill_0.2.2.2.2.2.2.2.2.2.2.2.2.2.2.2.2.2.2.2.2.2.2.2.2.1
theorem e_X8_fill_40 : decode cX8_fill 40 = .ok (.if_icmp .le 6, 3) := D_X8_fill_0.2.2.2.2.2.2.2.2.2.2.2.2.2.2.2.2.2.2.2.2.2.2.2.2.2.1
theorem e_X8_fill_43 : decode cX8_fill 43 = .ok (.bipush (-3), 2) := D_X8_fill_0.2.2.2.2.2.2.2.2.2.2.2.2.2.2.2.2.2.2.2.2.2.2.2.2.2.2.1
theorem e_X8_fill_45 : decode cX8_fill 45 = .ok (.ireturn, 1) := D_X8_fill_0.2.2.2.2.2.2.2.2.2.2.2.2.2.2.2.2.2.2.2.2.2.2.2.2.2.2.2.1
theorem e_X8_fill_46 : decode cX8_fill 46 = .ok (.aload_n 0, 1) := D_X8_fill_0.2.2.2.2.2.2.2.2.2.2.2.2.2.2.2.2.2.2.2.2.2.2.2.2.2.2.2.2.1
theorem e_X8_fill_47 : decode cX8_fill 47 = .ok (.invokevirtual 40, 3) := D_X8_fill_0.2.2.2.2.2.2.2.2.2.2.2.2.2.2.2.2.2.2.2.2.2.2.2.2.2.2.2.2.2.1
theorem e_X8_fill_50 : decode cX8_fill 50 = .ok (.aload_n 0, 1) := D_X8_fill_0.2.2.2.2.2.2.2.2.2.2.2.2.2.2.2.2.2.2.2.2.2.2.2.2.2.2.2.2.2.2.1
theorem e_X8_fill_51 : decode cX8_fill 51 = .ok (.getfield 7, 3) := D_X8_fill_0.2.2.2.2.2.2.2.2.2.2.2.2.2.2.2.2.2.2.2.2.2.2.2.2.2.2.2.2.2.2.2.1
theorem e_X8_fill_54 : decode cX8_fill 54 = .ok (.iload_n 3, 1) := D_X8_fill_0.2.2.2.2.2.2.2.2.2.2.2.2.2.2.2.2.2.2.2.2.2.2.2.2.2.2.2.2.2.2.2.2.1
theorem e_X8_fill_55 : decode cX8_fill 55 = .ok (.dup2, 1) := D_X8_fill_0.2.2.2.2.2.2.2.2.2.2.2.2.2.2.2.2.2.2.2.2.2.2.2.2.2.2.2.2.2.2.2.2.2.1
theorem e_X8_fill_56 : decode cX8_fill 56 = .ok (.iaload, 1) := D_X8_fill_0.2.2.2.2.2.2.2.2.2.2.2.2.2.2.2.2.2.2.2.2.2.2.2.2.2.2.2.2.2.2.2.2.2.2.1
theorem e_X8_fill_57 : decode cX8_fill 57 = .ok (.iload_n 2, 1) := D_X8_fill_0.2.2.2.2.2.2.2.2.2.2.2.2.2.2.2.2.2.2.2.2.2.2.2.2.2.2.2.2.2.2.2.2.2.2.2.1
theorem e_X8_fill_58 : decode cX8_fill 58 = .ok (.iadd, 1) := D_X8_fill_0.2.2.2.2.2.2.2.2.2.2.2.2.2.2.2.2.2.2.2.2.2.2.2.2.2.2.2.2.2.2.2.2.2.2.2.2.1
theorem e_X8_fill_59 : decode cX8_fill 59 = .ok (.iastore, 1) := D_X8_fill_0.2.2.2.2.2.2.2.2.2.2.2.2.2.2.2.2.2.2.2.2.2.2.2.2.2.2.2.2.2.2.2.2.2.2.2.2.2.1
theorem e_X8_fill_60 : decode cX8_fill 60 = .ok (.aload_n 0, 1) := D_X8_fill_0.2.2.2.2.2.2.2.2.2.2.2.2.2.2.2.2.2.2.2.2.2.2.2.2.2.2.2.2.2.2.2.2.2.2.2.2.2.2.1
theorem e_X8_fill_61 : decode cX8_fill 61 = .ok (.getfield 7, 3) := D_X8_fill_0.2.2.2.2.2.2.2.2.2.2.2.2.2.2.2.2.2.2.2.2.2.2.2.2.2.2.2.2.2.2.2.2.2.2.2.2.2.2.2.1
set_option maxRecDepth 100000 in
theorem D_X8_fill_1 : decode cX8_fill 64 = .ok (.iload_n 3, 1) ∧ decode cX8_fill 65 = .ok (.iaload, 1) ∧ decode cX8_fill 66 = .ok (.ireturn, 1) ∧ True := dq_of (l := (64, .iload_n 3, 1) :: (65, .iaload, 1) :: (66, .ireturn, 1) :: []) (by decide +kernel)
theorem e_X8_fill_64 : decode cX8_fill 64 = .ok (.iload_n 3, 1) := D_X8_fill_1.1
theorem e_X8_fill_65 : decode cX8_fill 65 = .ok (.iaload, 1) := D_X8_fill_1.2.1
theorem e_X8_fill_66 : decode cX8_fill 66 = .ok (.ireturn, 1) := D_X8_fill_1.2.2.1
set_option maxRecDepth 100000 in
theorem D_X8_load_0 : decode cX8_load 0 = .ok (.iload_n 1, 1) ∧ decode cX8_load 1 = .ok (.invokestatic 36, 3) ∧ decode cX8_load 4 = .ok (.ifCond .eq 11, 3) ∧ decode cX8_load 7 = .ok (.iload_n 2, 1) ∧ decode cX8_load 8 = .ok (.iload_n 3, 1) ∧ decode cX8_load 9 = .ok (.invokestatic 43, 3) ∧ decode cX8_load 12 = .ok (.ifCond .ne 5, 3) ∧ decode cX8_load 15 = .ok (.iconst (-1), 1) ∧ decode cX8_load 16 = .ok (.ireturn, 1) ∧ decode cX8_load 17 = .ok (.aload_n 0, 1) ∧ decode cX8_load 18 = .ok (.invokevirtual 40, 3) ∧ decode cX8_load 21 = .ok (.bipush 25, 2) ∧ decode cX8_load 23 = .ok (.iconst 3, 1) ∧ decode cX8_load 24 = .ok (.iload_n 1, 1) ∧ decode cX8_load 25 = .ok (.imul, 1) ∧ decode cX8_load 26 = .ok (.iadd, 1) ∧ decode cX8_load 27 = .ok (.istore 4, 2) ∧ decode cX8_load 29 = .ok (.aload_n 0, 1) ∧ decode cX8_load 30 = .ok (.getfield 7, 3) ∧ decode cX8_load 33 = .ok (.iload 4, 2) ∧ decode cX8_load 35 = .ok (.iconst 2, 1) ∧ decode cX8_load 36 = .ok (.iadd, 1) ∧ decode cX8_load 37 = .ok (.iaload, 1) ∧ decode cX8_load 38 = .ok (.istore 5, 2) ∧ decode cX8_load 40 = .ok (.aload_n 0, 1) ∧ decode cX8_load 41 = .ok (.getfield 7, 3) ∧ decode cX8_load 44 = .ok (.iload 4, 2) ∧ decode cX8_load 46 = .ok (.iload_n 2, 1) ∧ decode cX8_load 47 = .ok (.iastore, 1) ∧ decode cX8_load 48 = .ok (.aload_n 0, 1) ∧ decode cX8_load 49 = .ok (.getfield 7, 3) ∧ decode cX8_load 52 = .ok (.iload 4, 2) ∧ decode cX8_load 54 = .ok (.iconst 1, 1) ∧ decode cX8_load 55 = .ok (.iadd, 1) ∧ decode cX8_load 56 = .ok (.iload_n 3, 1) ∧ decode cX8_load 57 = .ok (.iastore, 1) ∧ decode cX8_load 58 = .ok (.aload_n 0, 1) ∧ decode cX8_load 59 = .ok (.getfield 7, 3) ∧ decode cX8_load 62 = .ok (.iload 4, 2) ∧ decode cX8_load 64 = .ok (.iconst 2, 1) ∧ True := dq_of (l := (0, .iload_n 1, 1) :: (1, .invokestatic 36, 3) :: (4, .ifCond .eq 11, 3) :: (7, .iload_n 2, 1) :: (8, .iload_n 3, 1) :: (9, .invokestatic 43, 3) :: (12, .ifCond .ne 5, 3) :: (15, .iconst (-1), 1) :: (16, .ireturn, 1) :: (17, .aload_n 0, 1) :: (18, .invokevirtual 40, 3) :: (21, .bipush 25, 2) :: (23, .iconst 3, 1) :: (24, .iload_n 1, 1) :: (25, .imul, 1) :: (26, .iadd, 1) :: (27, .istore 4, 2) :: (29, .aload_n 0, 1) :: (30, .getfield 7, 3) :: (33, .iload 4, 2) :: (35, .iconst 2, 1) :: (36, .iadd, 1) :: (37, .iaload, 1) :: (38, .istore 5, 2) :: (40, .aload_n 0, 1) :: (41, .getfield 7, 3) :: (44, .iload 4, 2) :: (46, .iload_n 2, 1) :: (47, .iastore, 1) :: (48, .aload_n 0, 1) :: (49, .getfield 7, 3) :: (52, .iload 4, 2) :: (54, .iconst 1, 1) :: (55, .iadd, 1) :: (56, .iload_n 3, 1) :: (57, .iastore, 1) :: (58, .aload_n 0, 1) :: (59, .getfield 7, 3) :: (62, .iload 4, 2) :: (64, .iconst 2, 1) :: []) (by decide +kernel)
theorem e_X8_load_0 : decode cX8_load 0 = .ok (.iload_n 1, 1) := D_X8_load_0.1
theorem e_X8_load_1 : decode cX8_load 1 = .ok (.invokestatic 36, 3) := D_X8_load_0.2.1
theorem e_X8_load_4 : decode cX8_load 4 = .ok (.ifCond .eq 11, 3) := D_X8_load_0.2.2.1
theorem e_X8_load_7 : decode cX8_load 7 = .ok (.iload_n 2, 1) := D_X8_load_0.2.2.2.1
theorem e_X8_load_8 : decode cX8_load 8 = .ok (.iload_n 3, 1) := D_X8_load_0.2.2.2.2.1
theorem e_X8_load_9 : decode cX8_load 9 = .ok (.invokestatic 43, 3) := D_X8_load_0.2.2.2.2.2.1
theorem e_X8_load_12 : decode cX8_load 12 = .ok (.ifCond .ne 5, 3) := D_X8_load_0.2.2.2.2.2.2.1
theorem e_X8_load_15 : decode cX8_load 15 = .ok (.iconst (-1), 1) := D_X8_load_0.2.2.2.2.2.2.2.1
theorem e_X8_load_16 : decode cX8_load 16 = .ok (.ireturn, 1) := D_X8_load_0.2.2.2.2.2.2.2.2.1
theorem e_X8_load_17 : decode cX8_load 17 = .ok (.aload_n 0, 1) := D_X8_load_0.2.2.2.2.2.2.2.2.2.1
theorem e_X8_load_18 : decode cX8_load 18 = .ok (.invokevirtual 40, 3) := D_X8_load_0.2.2.2.2.2.2.2.2.2.2.1
theorem e_X8_load_21 : decode cX8_load 21 = .ok (.bipush 25, 2) := D_X8_load_0.2.2.2.2.2.2.2.2.2.2.2.1
theorem e_X8_load_23 : decode cX8_load 23 = .ok (.iconst 3, 1) := D_X8_load_0.2.2.2.2.2.2.2.2.2.2.2.2.1
theorem e_X8_load_24 : decode cX8_load 24 = .ok (.iload_n 1, 1) := D_X8_load_0.2.2.2.2.2.2.2.2.2.2.2.2.2.1
theorem e_X8_load_25 : decode cX8_load 25 = .ok (.imul, 1) := D_X8_load_0.2.2.2.2.2.2.2.2.2.2.2.2.2.2.1
theorem e_X8_load_26 : decode cX8_load 26 = .ok (.iadd, 1) := D_X8_load_0.2.2.2.2.2.2.2.2.2.2.2.2.2.2.2.1
theorem e_X8_load_27 : decode cX8_load 27 = .ok (.istore 4, 2) := D_X8_load_0.2.2.2.2.2.2.2.2.2.2.2.2.2.2.2.2.1
theorem e_X8_load_29 : decode cX8_load 29 = .ok (.aload_n 0, 1) := D_X8_load_0.2.2.2.2.2.2.2.2.2.2.2.2.2.2.2.2.2.1
theorem e_X8_load_30 : decode cX8_load 30 = .ok (.getfield 7, 3) := D_X8_load_0.2.2.2.2.2.2.2.2.2.2.2.2.2.2.2.2.2.2.1
theorem e_X8_load_33 : decode cX8_load 33 = .ok (.iload 4, 2) := D_X8_load_0.2.2.2.2.2.2.2.2.2.2.2.2.2.2.2.2.2.2.2.1
theorem e_X8_load_35 : decode cX8_load 35 = .ok (.iconst 2, 1) := D_X8_load_0.2.2.2.2.2.2.2.2.2.2.2.2.2.2.2.2.2.2.2.2.1
theorem e_X8_load_36 : decode cX8_load 36 = .ok (.iadd, 1) := D_X8_load_0.2.2.2.2.2.2.2.2.2.2.2.2.2.2.2.2.2.2.2.2.2.1
theorem e_X8_load_37 : decode cX8_load 37 = .ok (.iaload, 1) := D_X8_load_0.2.2.2.2.2.2.2.2.2.2.2.2.2.2.2.2.2.2.2.2.2.2.1
theorem e_X8_load_38 : decode cX8_load 38 = .ok (.istore 5, 2) := D_X8_load_0.2.2.2.2.2.2.2.2.2.2.2.2.2.2.2.2.2.2.2.2.2.2.2.1
theorem e_X8_load_40 : decode cX8_load 40 = .ok (.aload_n 0, 1) := D_X8_load_0.2.2.2.2.2.2.2.2.2.2.2.2.2.2.2.2.2.2.2.2.2.2.2.2.1
theorem e_X8_load_41 : decode cX8_load 41 = .ok (.getfield 7, 3) := D_X8_load_0.2.2.2.2.2.2.2.2.2.2.2.2.2.2.2.2.2.2.2.2.2.2.2.2.2.1
theorem e_X8_load_44 : decode cX8_load 44 = .ok (.iload 4, 2) := D_X8_load_0.2.2.2.2.2.2.2.2.2.2.2.2.2.2.2.2.2.2.2.2.2.2.2.2.2.2.1
theorem e_X8_load_46 : decode cX8_load 46 = .ok (.iload_n 2, 1) := D_X8_load_0.2.2.2.2.2.2.2.2.2.2.2.2.2.2.2.2.2.2.2.2.2.2.2.2.2.2.2.1
theorem e_X8_load_47 : decode cX8_load 47 = .ok (.iastore, 1) := D_X8_load_0.2.2.2.2.2.2.2.2.2.2.2.2.2.2.2.2.2.2.2.2.2.2.2.2.2.2.2.2.1
theorem e_X8_load_48 : decode cX8_load 48 = .ok (.aload_n 0, 1) := D_X8_load_0.2.2.2.2.2.2.2.2.2.2.2.2.2.2.2.2.2.2.2.2.2.2.2.2.2.2.2.2.2.1
theorem e_X8_load_49 : decode cX8_load 49 = .ok (.getfield 7, 3) := D_X8_load_0.2.2.2.2.2.2.2.2.2.2.2.2.2.2.2.2.2.2.2.2.2.2.2.2.2.2.2.2.2.2.1
theorem e_X8_load_52 : decode cX8_load 52 = .ok (.iload 4, 2) := D_X8_load_0.2.2.2.2.2.2.2.2.2.2.2.2.2.2.2.2.2.2.2.2.2.2.2.2.2.2.2.2.2.2.2.1
theorem e_X8_load_54 : decode cX8_load 54 = .ok (.iconst 1, 1) := D_X8_load_0.2.2.2.2.2.2.2.2.2.2.2.2.2.2.2.2.2.2.2.2.2.2.2.2.2.2.2.2.2.2.2.2.1
theorem e_X8_load_55 : decode cX8_load 55 = .ok (.iadd, 1) := D_X8_load_0.2.2.2.2.2.2.2.2.2.2.2.2.2.2.2.2.2.2.2.2.2.2.2.2.2.2.2.2.2.2.2.2.2.1
theorem e_X8_load_56 : decode cX8_load 56 = .ok (.iload_n 3, 1) := D_X8_load_0.2.2.2.2.2.2.2.2.2.2.2.2.2.2.2.2.2.2.2.2.2.2.2.2.2.2.2.2.2.2.2.2.2.2.1
theorem e_X8_load_57 : decode cX8_load 57 = .ok (.iastore, 1) := D_X8_load_0.2.2.2.2.2.2.2.2.2.2.2.2.2.2.2.2.2.2.2.2.2.2.2.2.2.2.2.2.2.2.2.2.2.2.2.1
theorem e_X8_load_58 : decode cX8_load 58 = .ok (.aload_n 0, 1) := D_X8_load_0.2.2.2.2.2.2.2.2.2.2.2.2.2.2.2.2.2.2.2.2.2.2.2.2.2.2.2.2.2.2.2.2.2.2.2.2.1
theorem e_X8_load_59 : decode cX8_load 59 = .ok (.getfield 7, 3) := D_X8_load_0.2.2.2.2.2.2.2.2.2.2.2.2.2.2.2.2.2.2.2.2.2.2.2.2.2.2.2.2.2.2.2.2.2.2.2.2.2.1
theorem e_X8_load_62 : decode cX8_load 62 = .ok (.iload 4, 2) := D_X8_load_0.2.2.2.2.2.2.2.2.2.2.2.2.2.2.2.2.2.2.2.2.2.2.2.2.2.2.2.2.2.2.2.2.2.2.2.2.2.2.1
theorem e_X8_load_64 : decode cX8_load 64 = .ok (.iconst 2, 1) := D_X8_load_0.2.2.2.2.2.2.2.2.2.2.2.2.2.2.2.2.2.2.2.2.2.2.2.2.2.2.2.2.2.2.2.2.2.2.2.2.2.2.2.1
set_option maxRecDepth 100000 in
theorem D_X8_load_1 : decode cX8_load 65 = .ok (.iadd, 1) ∧ decode cX8_load 66 = .ok (.iconst 0, 1) ∧ decode cX8_load 67 = .ok (.iastore, 1) ∧ decode cX8_load 68 = .ok (.iload 5, 2) ∧ decode cX8_load 70 = .ok (.ireturn, 1) ∧ True := dq_of (l := (65, .iadd, 1) :: (66, .iconst 0, 1) :: (67, .iastore, 1) :: (68, .iload 5, 2) :: (70, .ireturn, 1) :: []) (by decide +kernel)
theorem e_X8_load_65 : decode cX8_load 65 = .ok (.iadd, 1) := D_X8_load_1.1
theorem e_X8_load_66 : decode cX8_load 66 = .ok (.iconst 0, 1) := D_X8_load_1.2.1
theorem e_X8_load_67 : decode cX8_load 67 = .ok (.iastore, 1) := D_X8_load_1.2.2.1
theorem e_X8_load_68 : decode cX8_load 68 = .ok (.iload 5, 2) := D_X8_load_1.2.2.2.1
theorem e_X8_load_70 : decode cX8_load 70 = .ok (.ireturn, 1) := D_X8_load_1.2.2.2.2.1
set_option maxRecDepth 100000 in
theorem D_X8_isOf_0 : decode cX8_isOf 0 = .ok (.aload_n 0, 1) ∧ decode cX8_isOf 1 = .ok (.getfield 7, 3) ∧ decode cX8_isOf 4 = .ok (.bipush 25, 2) ∧ decode cX8_isOf 6 = .ok (.iconst 3, 1) ∧ decode cX8_isOf 7 = .ok (.iload_n 1, 1) ∧ decode cX8_isOf 8 = .ok (.imul, 1) ∧ decode cX8_isOf 9 = .ok (.iadd, 1) ∧ decode cX8_isOf 10 = .ok (.iaload, 1) ∧ decode cX8_isOf 11 = .ok (.iload_n 2, 1) ∧ decode cX8_isOf 12 = .ok (.if_icmp .ne 24, 3) ∧ decode cX8_isOf 15 = .ok (.aload_n 0, 1) ∧ decode cX8_isOf 16 = .ok (.getfield 7, 3) ∧ decode cX8_isOf 19 = .ok (.bipush 25, 2) ∧ decode cX8_isOf 21 = .ok (.iconst 3, 1) ∧ decode cX8_isOf 22 = .ok (.iload_n 1, 1) ∧ decode cX8_isOf 23 = .ok (.imul, 1) ∧ decode cX8_isOf 24 = .ok (.iadd, 1) ∧ decode cX8_isOf 25 = .ok (.iconst 1, 1) ∧ decode cX8_isOf 26 = .ok (.iadd, 1) ∧ decode cX8_isOf 27 = .ok (.iaload, 1) ∧ decode cX8_isOf 28 = .ok (.iload_n 3, 1) ∧ decode cX8_isOf 29 = .ok (.if_icmp .ne 7, 3) ∧ decode cX8_isOf 32 = .ok (.iconst 1, 1) ∧ decode cX8_isOf 33 = .ok (.goto 4, 3) ∧ decode cX8_isOf 36 = .ok (.iconst 0, 1) ∧ decode cX8_isOf 37 = .ok (.ireturn, 1) ∧ True := dq_of (l := (0, .aload_n 0, 1) :: (1, .getfield 7, 3) :: (4, .bipush 25, 2) :: (6, .iconst 3, 1) :: (7, .iload_n 1, 1) :: (8, .imul, 1) :: (9, .iadd, 1) :: (10, .iaload, 1) :: (11, .iload_n 2, 1) :: (12, .if_icmp .ne 24, 3) :: (15, .aload_n 0, 1) :: (16, .getfield 7, 3) :: (19, .bipush 25, 2) :: (21, .iconst 3, 1) :: (22, .iload_n 1, 1) :: (23, .imul, 1) :: (24, .iadd, 1) :: (25, .iconst 1, 1) :: (26, .iadd, 1) :: (27, .iaload, 1) :: (28, .iload_n 3, 1) :: (29, .if_icmp .ne 7, 3) :: (32, .iconst 1, 1) :: (33, .goto 4, 3) :: (36, .iconst 0, 1) :: (37, .ireturn, 1) :: []) (by decide +kernel)
theorem e_X8_isOf_0 : decode cX8_isOf 0 = .ok (.aload_n 0, 1) := D_X8_isOf_0.1
theorem e_X8_isOf_1 : decode cX8_isOf 1 = .ok (.getfield 7, 3) := D_X8_isOf_0.2.1
theorem e_X8_isOf_4 : decode cX8_isOf 4 = .ok (.bipush 25, 2) := D_X8_isOf_0.2.2.1
theorem e_X8_isOf_6 : decode cX8_isOf 6 = .ok (.iconst 3, 1) := D_X8_isOf_0.2.2.2.1
theorem e_X8_isOf_7 : decode cX8_isOf 7 = .ok (.iload_n 1, 1) := D_X8_isOf_0.2.2.2.2.1
theorem e_X8_isOf_8 : decode cX8_isOf 8 = .ok (.imul, 1) := D_X8_isOf_0.2.2.2.2.2.1
theorem e_X8_isOf_9 : decode cX8_isOf 9 = .ok (.iadd, 1) := D_X8_isOf_0.2.2.2.2.2.2.1
theorem e_X8_isOf_10 : decode cX8_isOf 10 = .ok (.iaload, 1) := D_X8_isOf_0.2.2.2.2.2.2.2.1
theorem e_X8_isOf_11 : decode cX8_isOf 11 = .ok (.iload_n 2, 1) := D_X8_isOf_0.2.2.2.2.2.2.2.2.1
theorem e_X8_isOf_12 : decode cX8_isOf 12 = .ok (.if_icmp .ne 24, 3) := D_X8_isOf_0.2.2.2.2.2.2.2.2.2.1
theorem e_X8_isOf_15 : decode cX8_isOf 15 = .ok (.aload_n 0, 1) := D_X8_isOf_0.2.2.2.2.2.2.2.2.2.2.1
theorem e_X8_isOf_16 : decode cX8_isOf 16 = .ok (.getfield 7, 3) := D_X8_isOf_0.2.2.2.2.2.2.2.2.2.2.2.1
theorem e_X8_isOf_19 : decode cX8_isOf 19 = .ok (.bipush 25, 2) := D_X8_isOf_0.2.2.2.2.2.2.2.2.2.2.2.2.1
theorem e_X8_isOf_21 : decode cX8_isOf 21 = .ok (.iconst 3, 1) := D_X8_isOf_0.2.2.2.2.2.2.2.2.2.2.2.2.2.1
theorem e_X8_isOf_22 : decode cX8_isOf 22 = .ok (.iload_n 1, 1) := D_X8_isOf_0.2.2.2.2.2.2.2.2.2.2.2.2.2.2.1
theorem e_X8_isOf_23 : decode cX8_isOf 23 = .ok (.imul, 1) := D_X8_isOf_0.2.2.2.2.2.2.2.2.2.2.2.2.2.2.2.1
theorem e_X8_isOf_24 : decode cX8_isOf 24 = .ok (.iadd, 1) := D_X8_isOf_0.2.2.2.2.2.2.2.2.2.2.2.2.2.2.2.2.1
theorem e_X8_isOf_25 : decode cX8_isOf 25 = .ok (.iconst 1, 1) := D_X8_isOf_0.2.2.2.2.2.2.2.2.2.2.2.2.2.2.2.2.2.1
theorem e_X8_isOf_26 : decode cX8_isOf 26 = .ok (.iadd, 1) := D_X8_isOf_0.2.2.2.2.2.2.2.2.2.2.2.2.2.2.2.2.2.2.1
theorem e_X8_isOf_27 : decode cX8_isOf 27 = .ok (.iaload, 1) := D_X8_isOf_0.2.2.2.2.2.2.2.2.2.2.2.2.2.2.2.2.2.2.2.1
theorem e_X8_isOf_28 : decode cX8_isOf 28 = .ok (.iload_n 3, 1) := D_X8_isOf_0.2.2.2.2.2.2.2.2.2.2.2.2.2.2.2.2.2.2.2.2.1
theorem e_X8_isOf_29 : decode cX8_isOf 29 = .ok (.if_icmp .ne 7, 3) := D_X8_isOf_0.2.2.2.2.2.2.2.2.2.2.2.2.2.2.2.2.2.2.2.2.2.1
theorem e_X8_isOf_32 : decode cX8_isOf 32 = .ok (.iconst 1, 1) := D_X8_isOf_0.2.2.2.2.2.2.2.2.2.2.2.2.2.2.2.2.2.2.2.2.2.2.1
theorem e_X8_isOf_33 : decode cX8_isOf 33 = .ok (.goto 4, 3) := D_X8_isOf_0.2.2.2.2.2.2.2.2.2.2.2.2.2.2.2.2.2.2.2.2.2.2.2.1
theorem e_X8_isOf_36 : decode cX8_isOf 36 = .ok (.iconst 0, 1) := D_X8_isOf_0.2.2.2.2.2.2.2.2.2.2.2.2.2.2.2.2.2.2.2.2.2.2.2.2.1
theorem e_X8_isOf_37 : decode cX8_isOf 37 = .ok (.ireturn, 1) := D_X8_isOf_0.2.2.2.2.2.2.2.2.2.2.2.2.2.2.2.2.2.2.2.2.2.2.2.2.2.1
set_option maxRecDepth 100000 in
theorem D_X8_sheetsOf_0 : decode cX8_sheetsOf 0 = .ok (.iconst 0, 1) ∧ decode cX8_sheetsOf 1 = .ok (.istore_n 3, 1) ∧ decode cX8_sheetsOf 2 = .ok (.iconst 0, 1) ∧ decode cX8_sheetsOf 3 = .ok (.istore 4, 2) ∧ decode cX8_sheetsOf 5 = .ok (.iload 4, 2) ∧ decode cX8_sheetsOf 7 = .ok (.iconst 4, 1) ∧ decode cX8_sheetsOf 8 = .ok (.if_icmp .ge 41, 3) ∧ decode cX8_sheetsOf 11 = .ok (.iload_n 3, 1) ∧ decode cX8_sheetsOf 12 = .ok (.aload_n 0, 1) ∧ decode cX8_sheetsOf 13 = .ok (.iload 4, 2) ∧ decode cX8_sheetsOf 15 = .ok (.iload_n 1, 1) ∧ decode cX8_sheetsOf 16 = .ok (.iload_n 2, 1) ∧ decode cX8_sheetsOf 17 = .ok (.invokevirtual 47, 3) ∧ decode cX8_sheetsOf 20 = .ok (.ifCond .eq 20, 3) ∧ decode cX8_sheetsOf 23 = .ok (.aload_n 0, 1) ∧ decode cX8_sheetsOf 24 = .ok (.getfield 7, 3) ∧ decode cX8_sheetsOf 27 = .ok (.bipush 25, 2) ∧ decode cX8_sheetsOf 29 = .ok (.iconst 3, 1) ∧ decode cX8_sheetsOf 30 = .ok (.iload 4, 2) ∧ decode cX8_sheetsOf 32 = .ok (.imul, 1) ∧ decode cX8_sheetsOf 33 = .ok (.iadd, 1) ∧ decode cX8_sheetsOf 34 = .ok (.iconst 2, 1) ∧ decode cX8_sheetsOf 35 = .ok (.iadd, 1) ∧ decode cX8_sheetsOf 36 = .ok (.iaload, 1) ∧ decode cX8_sheetsOf 37 = .ok (.goto 4, 3) ∧ decode cX8_sheetsOf 40 = .ok (.iconst 0, 1) ∧ decode cX8_sheetsOf 41 = .ok (.iadd, 1) ∧ decode cX8_sheetsOf 42 = .ok (.istore_n 3, 1) ∧ decode cX8_sheetsOf 43 = .ok (.iinc 4 1, 3) ∧ decode cX8_sheetsOf 46 = .ok (.goto (-41), 3) ∧ decode cX8_sheetsOf 49 = .ok (.iload_n 3, 1) ∧ decode cX8_sheetsOf 50 = .ok (.ireturn, 1) ∧ True := dq_of (l := (0, .iconst 0, 1) :: (1, .istore_n 3, 1) :: (2, .iconst 0, 1) :: (3, .istore 4, 2) :: (5, .iload 4, 2) :: (7, .iconst 4, 1) :: (8, .if_icmp .ge 41, 3) :: (11, .iload_n 3, 1) :: (12, .aload_n 0, 1) :: (13, .iload 4, 2) :: (15, .iload_n 1, 1) :: (16, .iload_n 2, 1) :: (17, .invokevirtual 47, 3) :: (20, .ifCond .eq 20, 3) :: (23, .aload_n 0, 1) :: (24, .getfield 7, 3) :: (27, .bipush 25, 2) :: (29, .iconst 3, 1) :: (30, .iload 4, 2) :: (32, .imul, 1) :: (33, .iadd, 1) :: (34, .iconst 2, 1) :: (35, .iadd, 1) :: (36, .iaload, 1) :: (37, .goto 4, 3) :: (40, .iconst 0, 1) :: (41, .iadd, 1) :: (42, .istore_n 3, 1) :: (43, .iinc 4 1, 3) :: (46, .goto (-41), 3) :: (49, .iload_n 3, 1) :: (50, .ireturn, 1) :: []) (by decide +kernel)
theorem e_X8_sheetsOf_0 : decode cX8_sheetsOf 0 = .ok (.iconst 0, 1) := D_X8_sheetsOf_0.1
theorem e_X8_sheetsOf_1 : decode cX8_sheetsOf 1 = .ok (.istore_n 3, 1) := D_X8_sheetsOf_0.2.1
theorem e_X8_sheetsOf_2 : decode cX8_sheetsOf 2 = .ok (.iconst 0, 1) := D_X8_sheetsOf_0.2.2.1
theorem e_X8_sheetsOf_3 : decode cX8_sheetsOf 3 = .ok (.istore 4, 2) := D_X8_sheetsOf_0.2.2.2.1
theorem e_X8_sheetsOf_5 : decode cX8_sheetsOf 5 = .ok (.iload 4, 2) := D_X8_sheetsOf_0.2.2.2.2.1
theorem e_X8_sheetsOf_7 : decode cX8_sheetsOf 7 = .ok (.iconst 4, 1) := D_X8_sheetsOf_0.2.2.2.2.2.1
theorem e_X8_sheetsOf_8 : decode cX8_sheetsOf 8 = .ok (.if_icmp .ge 41, 3) := D_X8_sheetsOf_0.2.2.2.2.2.2.1
theorem e_X8_sheetsOf_11 : decode cX8_sheetsOf 11 = .ok (.iload_n 3, 1) := D_X8_sheetsOf_0.2.2.2.2.2.2.2.1
theorem e_X8_sheetsOf_12 : decode cX8_sheetsOf 12 = .ok (.aload_n 0, 1) := D_X8_sheetsOf_0.2.2.2.2.2.2.2.2.1
theorem e_X8_sheetsOf_13 : decode cX8_sheetsOf 13 = .ok (.iload 4, 2) := D_X8_sheetsOf_0.2.2.2.2.2.2.2.2.2.1
theorem e_X8_sheetsOf_15 : decode cX8_sheetsOf 15 = .ok (.iload_n 1, 1) := D_X8_sheetsOf_0.2.2.2.2.2.2.2.2.2.2.1
theorem e_X8_sheetsOf_16 : decode cX8_sheetsOf 16 = .ok (.iload_n 2, 1) := D_X8_sheetsOf_0.2.2.2.2.2.2.2.2.2.2.2.1
theorem e_X8_sheetsOf_17 : decode cX8_sheetsOf 17 = .ok (.invokevirtual 47, 3) := D_X8_sheetsOf_0.2.2.2.2.2.2.2.2.2.2.2.2.1
theorem e_X8_sheetsOf_20 : decode cX8_sheetsOf 20 = .ok (.ifCond .eq 20, 3) := D_X8_sheetsOf_0.2.2.2.2.2.2.2.2.2.2.2.2.2.1
theorem e_X8_sheetsOf_23 : decode cX8_sheetsOf 23 = .ok (.aload_n 0, 1) := D_X8_sheetsOf_0.2.2.2.2.2.2.2.2.2.2.2.2.2.2.1
theorem e_X8_sheetsOf_24 : decode cX8_sheetsOf 24 = .ok (.getfield 7, 3) := D_X8_sheetsOf_0.2.2.2.2.2.2.2.2.2.2.2.2.2.2.2.1
theorem e_X8_sheetsOf_27 : decode cX8_sheetsOf 27 = .ok (.bipush 25, 2) := D_X8_sheetsOf_0.2.2.2.2.2.2.2.2.2.2.2.2.2.2.2.2.1
theorem e_X8_sheetsOf_29 : decode cX8_sheetsOf 29 = .ok (.iconst 3, 1) := D_X8_sheetsOf_0.2.2.2.2.2.2.2.2.2.2.2.2.2.2.2.2.2.1
theorem e_X8_sheetsOf_30 : decode cX8_sheetsOf 30 = .ok (.iload 4, 2) := D_X8_sheetsOf_0.2.2.2.2.2.2.2.2.2.2.2.2.2.2.2.2.2.2.1
theorem e_X8_sheetsOf_32 : decode cX8_sheetsOf 32 = .ok (.imul, 1) := D_X8_sheetsOf_0.2.2.2.2.2.2.2.2.2.2.2.2.2.2.2.2.2.2.2.1
theorem e_X8_sheetsOf_33 : decode cX8_sheetsOf 33 = .ok (.iadd, 1) := D_X8_sheetsOf_0.2.2.2.2.2.2.2.2.2.2.2.2.2.2.2.2.2.2.2.2.1
theorem e_X8_sheetsOf_34 : decode cX8_sheetsOf 34 = .ok (.iconst 2, 1) := D_X8_sheetsOf_0.2.2.2.2.2.2.2.2.2.2.2.2.2.2.2.2.2.2.2.2.2.1
theorem e_X8_sheetsOf_35 : decode cX8_sheetsOf 35 = .ok (.iadd, 1) := D_X8_sheetsOf_0.2.2.2.2.2.2.2.2.2.2.2.2.2.2.2.2.2.2.2.2.2.2.1
theorem e_X8_sheetsOf_36 : decode cX8_sheetsOf 36 = .ok (.iaload, 1) := D_X8_sheetsOf_0.2.2.2.2.2.2.2.2.2.2.2.2.2.2.2.2.2.2.2.2.2.2.2.1
theorem e_X8_sheetsOf_37 : decode cX8_sheetsOf 37 = .ok (.goto 4, 3) := D_X8_sheetsOf_0.2.2.2.2.2.2.2.2.2.2.2.2.2.2.2.2.2.2.2.2.2.2.2.2.1
theorem e_X8_sheetsOf_40 : decode cX8_sheetsOf 40 = .ok (.iconst 0, 1) := D_X8_sheetsOf_0.2.2.2.2.2.2.2.2.2.2.2.2.2.2.2.2.2.2.2.2.2.2.2.2.2.1
theorem e_X8_sheetsOf_41 : decode cX8_sheetsOf 41 = .ok (.iadd, 1) := D_X8_sheetsOf_0.2.2.2.2.2.2.2.2.2.2.2.2.2.2.2.2.2.2.2.2.2.2.2.2.2.2.1
theorem e_X8_sheetsOf_42 : decode cX8_sheetsOf 42 = .ok (.istore_n 3, 1) := D_X8_sheetsOf_0.2.2.2.2.2.2.2.2.2.2.2.2.2.2.2.2.2.2.2.2.2.2.2.2.2.2.2.1
theorem e_X8_sheetsOf_43 : decode cX8_sheetsOf 43 = .ok (.iinc 4 1, 3) := D_X8_sheetsOf_0.2.2.2.2.2.2.2.2.2.2.2.2.2.2.2.2.2.2.2.2.2.2.2.2.2.2.2.2.1
theorem e_X8_sheetsOf_46 : decode cX8_sheetsOf 46 = .ok (.goto (-41), 3) := D_X8_sheetsOf_0.2.2.2.2.2.2.2.2.2.2.2.2.2.2.2.2.2.2.2.2.2.2.2.2.2.2.2.2.2.1
theorem e_X8_sheetsOf_49 : decode cX8_sheetsOf 49 = .ok (.iload_n 3, 1) := D_X8_sheetsOf_0.2.2.2.2.2.2.2.2.2.2.2.2.2.2.2.2.2.2.2.2.2.2.2.2.2.2.2.2.2.2.1
theorem e_X8_sheetsOf_50 : decode cX8_sheetsOf 50 = .ok (.ireturn, 1) := D_X8_sheetsOf_0.2.2.2.2.2.2.2.2.2.2.2.2.2.2.2.2.2.2.2.2.2.2.2.2.2.2.2.2.2.2.2.1
set_option maxRecDepth 100000 in
theorem D_X8_tray_0 : decode cX8_tray 0 = .ok (.iload_n 1, 1) ∧ decode cX8_tray 1 = .ok (.invokestatic 36, 3) ∧ decode cX8_tray 4 = .ok (.ifCond .eq 12, 3) ∧ decode cX8_tray 7 = .ok (.iload_n 2, 1) ∧ decode cX8_tray 8 = .ok (.iconst 0, 1) ∧ decode cX8_tray 9 = .ok (.iconst 3, 1) ∧ decode cX8_tray 10 = .ok (.invokestatic 32, 3) ∧ decode cX8_tray 13 = .ok (.ifCond .ne 5, 3) ∧ decode cX8_tray 16 = .ok (.iconst (-1), 1) ∧ decode cX8_tray 17 = .ok (.ireturn, 1) ∧ decode cX8_tray 18 = .ok (.bipush 25, 2) ∧ decode cX8_tray 20 = .ok (.iconst 3, 1) ∧ decode cX8_tray 21 = .ok (.iload_n 1, 1) ∧ decode cX8_tray 22 = .ok (.imul, 1) ∧ decode cX8_tray 23 = .ok (.iadd, 1) ∧ decode cX8_tray 24 = .ok (.istore_n 3, 1) ∧ decode cX8_tray 25 = .ok (.iload_n 2, 1) ∧ decode cX8_tray 26 = .ok (.iconst 3, 1) ∧ decode cX8_tray 27 = .ok (.if_icmp .ge 14, 3) ∧ decode cX8_tray 30 = .ok (.aload_n 0, 1) ∧ decode cX8_tray 31 = .ok (.getfield 7, 3) ∧ decode cX8_tray 34 = .ok (.iload_n 3, 1) ∧ decode cX8_tray 35 = .ok (.iload_n 2, 1) ∧ decode cX8_tray 36 = .ok (.iadd, 1) ∧ decode cX8_tray 37 = .ok (.iaload, 1) ∧ decode cX8_tray 38 = .ok (.goto 21, 3) ∧ decode cX8_tray 41 = .ok (.aload_n 0, 1) ∧ decode cX8_tray 42 = .ok (.aload_n 0, 1) ∧ decode cX8_tray 43 = .ok (.getfield 7, 3) ∧ decode cX8_tray 46 = .ok (.iload_n 3, 1) ∧ decode cX8_tray 47 = .ok (.iaload, 1) ∧ decode cX8_tray 48 = .ok (.aload_n 0, 1) ∧ decode cX8_tray 49 = .ok (.getfield 7, 3) ∧ decode cX8_tray 52 = .ok (.iload_n 3, 1) ∧ decode cX8_tray 53 = .ok (.iconst 1, 1) ∧ decode cX8_tray 54 = .ok (.iadd, 1) ∧ decode cX8_tray 55 = .ok (.iaload, 1) ∧ decode cX8_tray 56 = .ok (.invokevirtual 50, 3) ∧ decode cX8_tray 59 = .ok (.ireturn, 1) ∧ True := dq_of (l := (0, .iload_n 1, 1) :: (1, .invokestatic 36, 3) :: (4, .ifCond .eq 12, 3) :: (7, .iload_n 2, 1) :: (8, .iconst 0, 1) :: (9, .iconst 3, 1) :: (10, .invokestatic 32, 3) :: (13, .ifCond .ne 5, 3) :: (16, .iconst (-1), 1) :: (17, .ireturn, 1) :: (18, .bipush 25, 2) :: (20, .iconst 3, 1) :: (21, .iload_n 1, 1) :: (22, .imul, 1) :: (23, .iadd, 1) :: (24, .istore_n 3, 1) :: (25, .iload_n 2, 1) :: (26, .iconst 3, 1) :: (27, .if_icmp .ge 14, 3) :: (30, .aload_n 0, 1) :: (31, .getfield 7, 3) :: (34, .iload_n 3, 1) :: (35, .iload_n 2, 1) :: (36, .iadd, 1) :: (37, .iaload, 1) :: (38, .goto 21, 3) :: (41, .aload_n 0, 1) :: (42, .aload_n 0, 1) :: (43, .getfield 7, 3) :: (46, .iload_n 3, 1) :: (47, .iaload, 1) :: (48, .aload_n 0, 1) :: (49, .getfield 7, 3) :: (52, .iload_n 3, 1) :: (53, .iconst 1, 1) :: (54, .iadd, 1) :: (55, .iaload, 1) :: (56, .invokevirtual 50, 3) :: (59, .ireturn, 1) :: []) (by decide +kernel)
theorem e_X8_tray_0 : decode cX8_tray 0 = .ok (.iload_n 1, 1) := D_X8_tray_0.1
theorem e_X8_tray_1 : decode cX8_tray 1 = .ok (.invokestatic 36, 3) := D_X8_tray_0.2.1
theorem e_X8_tray_4 : decode cX8_tray 4 = .ok (.ifCond .eq 12, 3) := D_X8_tray_0.2.2.1
theorem e_X8_tray_7 : decode cX8_tray 7 = .ok (.iload_n 2, 1) := D_X8_tray_0.2.2.2.1
theorem e_X8_tray_8 : decode cX8_tray 8 = .ok (.iconst 0, 1) := D_X8_tray_0.2.2.2.2.1
theorem e_X8_tray_9 : decode cX8_tray 9 = .ok (.iconst 3, 1) := D_X8_tray_0.2.2.2.2.2.1
theorem e_X8_tray_10 : decode cX8_tray 10 = .ok (.invokestatic 32, 3) := D_X8_tray_0.2.2.2.2.2.2.1
theorem e_X8_tray_13 : decode cX8_tray 13 = .ok (.ifCond .ne 5, 3) := D_X8_tray_0.2.2.2.2.2.2.2.1
theorem e_X8_tray_16 : decode cX8_tray 16 = .ok (.iconst (-1), 1) := D_X8_tray_0.2.2.2.2.2.2.2.2.1
theorem e_X8_tray_17 : decode cX8_tray 17 = .ok (.ireturn, 1) := D_X8_tray_0.2.2.2.2.2.2.2.2.2.1
theorem e_X8_tray_18 : decode cX8_tray 18 = .ok (.bipush 25, 2) := D_X8_tray_0.2.2.2.2.2.2.2.2.2.2.1
theorem e_X8_tray_20 : decode cX8_tray 20 = .ok (.iconst 3, 1) := D_X8_tray_0.2.2.2.2.2.2.2.2.2.2.2.1
theorem e_X8_tray_21 : decode cX8_tray 21 = .ok (.iload_n 1, 1) := D_X8_tray_0.2.2.2.2.2.2.2.2.2.2.2.2.1
theorem e_X8_tray_22 : decode cX8_tray 22 = .ok (.imul, 1) := D_X8_tray_0.2.2.2.2.2.2.2.2.2.2.2.2.2.1
theorem e_X8_tray_23 : decode cX8_tray 23 = .ok (.iadd, 1) := D_X8_tray_0.2.2.2.2.2.2.2.2.2.2.2.2.2.2.1
theorem e_X8_tray_24 : decode cX8_tray 24 = .ok (.istore_n 3, 1) := D_X8_tray_0.2.2.2.2.2.2.2.2.2.2.2.2.2.2.2.1
theorem e_X8_tray_25 : decode cX8_tray 25 = .ok (.iload_n 2, 1) := D_X8_tray_0.2.2.2.2.2.2.2.2.2.2.2.2.2.2.2.2.1
theorem e_X8_tray_26 : decode cX8_tray 26 = .ok (.iconst 3, 1) := D_X8_tray_0.2.2.2.2.2.2.2.2.2.2.2.2.2.2.2.2.2.1
theorem e_X8_tray_27 : decode cX8_tray 27 = .ok (.if_icmp .ge 14, 3) := D_X8_tray_0.2.2.2.2.2.2.2.2.2.2.2.2.2.2.2.2.2.2.1
theorem e_X8_tray_30 : decode cX8_tray 30 = .ok (.aload_n 0, 1) := D_X8_tray_0.2.2.2.2.2.2.2.2.2.2.2.2.2.2.2.2.2.2.2.1
theorem e_X8_tray_31 : decode cX8_tray 31 = .ok (.getfield 7, 3) := D_X8_tray_0.2.2.2.2.2.2.2.2.2.2.2.2.2.2.2.2.2.2.2.2.1
theorem e_X8_tray_34 : decode cX8_tray 34 = .ok (.iload_n 3, 1) := D_X8_tray_0.2.2.2.2.2.2.2.2.2.2.2.2.2.2.2.2.2.2.2.2.2.1
theorem e_X8_tray_35 : decode cX8_tray 35 = .ok (.iload_n 2, 1) := D_X8_tray_0.2.2.2.2.2.2.2.2.2.2.2.2.2.2.2.2.2.2.2.2.2.2.1
theorem e_X8_tray_36 : decode cX8_tray 36 = .ok (.iadd, 1) := D_X8_tray_0.2.2.2.2.2.2.2.2.2.2.2.2.2.2.2.2.2.2.2.2.2.2.2.1
theorem e_X8_tray_37 : decode cX8_tray 37 = .ok (.iaload, 1) := D_X8_tray_0.2.2.2.2.2.2.2.2.2.2.2.2.2.2.2.2.2.2.2.2.2.2.2.2.1
theorem e_X8_tray_38 : decode cX8_tray 38 = .ok (.goto 21, 3) := D_X8_tray_0.2.2.2.2.2.2.2.2.2.2.2.2.2.2.2.2.2.2.2.2.2.2.2.2.2.1
theorem e_X8_tray_41 : decode cX8_tray 41 = .ok (.aload_n 0, 1) := D_X8_tray_0.2.2.2.2.2.2.2.2.2.2.2.2.2.2.2.2.2.2.2.2.2.2.2.2.2.2.1
theorem e_X8_tray_42 : decode cX8_tray 42 = .ok (.aload_n 0, 1) := D_X8_tray_0.2.2.2.2.2.2.2.2.2.2.2.2.2.2.2.2.2.2.2.2.2.2.2.2.2.2.2.1
theorem e_X8_tray_43 : decode cX8_tray 43 = .ok (.getfield 7, 3) := D_X8_tray_0.2.2.2.2.2.2.2.2.2.2.2.2.2.2.2.2.2.2.2.2.2.2.2.2.2.2.2.2.1
theorem e_X8_tray_46 : decode cX8_tray 46 = .ok (.iload_n 3, 1) := D_X8_tray_0.2.2.2.2.2.2.2.2.2.2.2.2.2.2.2.2.2.2.2.2.2.2.2.2.2.2.2.2.2.1
theorem e_X8_tray_47 : decode cX8_tray 47 = .ok (.iaload, 1) := D_X8_tray_0.2.2.2.2.2.2.2.2.2.2.2.2.2.2.2.2.2.2.2.2.2.2.2.2.2.2.2.2.2.2.1
theorem e_X8_tray_48 : decode cX8_tray 48 = .ok (.aload_n 0, 1) := D_X8_tray_0.2.2.2.2.2.2.2.2.2.2.2.2.2.2.2.2.2.2.2.2.2.2.2.2.2.2.2.2.2.2.2.1
theorem e_X8_tray_49 : decode cX8_tray 49 = .ok (.getfield 7, 3) := D_X8_tray_0.2.2.2.2.2.2.2.2.2.2.2.2.2.2.2.2.2.2.2.2.2.2.2.2.2.2.2.2.2.2.2.2.1
theorem e_X8_tray_52 : decode cX8_tray 52 = .ok (.iload_n 3, 1) := D_X8_tray_0.2.2.2.2.2.2.2.2.2.2.2.2.2.2.2.2.2.2.2.2.2.2.2.2.2.2.2.2.2.2.2.2.2.1
theorem e_X8_tray_53 : decode cX8_tray 53 = .ok (.iconst 1, 1) := D_X8_tray_0.2.2.2.2.2.2.2.2.2.2.2.2.2.2.2.2.2.2.2.2.2.2.2.2.2.2.2.2.2.2.2.2.2.2.1
theorem e_X8_tray_54 : decode cX8_tray 54 = .ok (.iadd, 1) := D_X8_tray_0.2.2.2.2.2.2.2.2.2.2.2.2.2.2.2.2.2.2.2.2.2.2.2.2.2.2.2.2.2.2.2.2.2.2.2.1
theorem e_X8_tray_55 : decode cX8_tray 55 = .ok (.iaload, 1) := D_X8_tray_0.2.2.2.2.2.2.2.2.2.2.2.2.2.2.2.2.2.2.2.2.2.2.2.2.2.2.2.2.2.2.2.2.2.2.2.2.1
theorem e_X8_tray_56 : decode cX8_tray 56 = .ok (.invokevirtual 50, 3) := D_X8_tray_0.2.2.2.2.2.2.2.2.2.2.2.2.2.2.2.2.2.2.2.2.2.2.2.2.2.2.2.2.2.2.2.2.2.2.2.2.2.1
theorem e_X8_tray_59 : decode cX8_tray 59 = .ok (.ireturn, 1) := D_X8_tray_0.2.2.2.2.2.2.2.2.2.2.2.2.2.2.2.2.2.2.2.2.2.2.2.2.2.2.2.2.2.2.2.2.2.2.2.2.2.2.1
set_option maxRecDepth 100000 in
theorem D_X8_puts_0 : decode cX8_puts 0 = .ok (.aload_n 0, 1) ∧ decode cX8_puts 1 = .ok (.invokevirtual 40, 3) ∧ decode cX8_puts 4 = .ok (.aload_n 0, 1) ∧ decode cX8_puts 5 = .ok (.getfield 7, 3) ∧ decode cX8_puts 8 = .ok (.iload_n 1, 1) ∧ decode cX8_puts 9 = .ok (.iaload, 1) ∧ decode cX8_puts 10 = .ok (.istore_n 3, 1) ∧ decode cX8_puts 11 = .ok (.aload_n 0, 1) ∧ decode cX8_puts 12 = .ok (.getfield 7, 3) ∧ decode cX8_puts 15 = .ok (.iload_n 1, 1) ∧ decode cX8_puts 16 = .ok (.iload_n 2, 1) ∧ decode cX8_puts 17 = .ok (.iastore, 1) ∧ decode cX8_puts 18 = .ok (.iload_n 3, 1) ∧ decode cX8_puts 19 = .ok (.ireturn, 1) ∧ True := dq_of (l := (0, .aload_n 0, 1) :: (1, .invokevirtual 40, 3) :: (4, .aload_n 0, 1) :: (5, .getfield 7, 3) :: (8, .iload_n 1, 1) :: (9, .iaload, 1) :: (10, .istore_n 3, 1) :: (11, .aload_n 0, 1) :: (12, .getfield 7, 3) :: (15, .iload_n 1, 1) :: (16, .iload_n 2, 1) :: (17, .iastore, 1) :: (18, .iload_n 3, 1) :: (19, .ireturn, 1) :: []) (by decide +kernel)
theorem e_X8_puts_0 : decode cX8_puts 0 = .ok (.aload_n 0, 1) := D_X8_puts_0.1
theorem e_X8_puts_1 : decode cX8_puts 1 = .ok (.invokevirtual 40, 3) := D_X8_puts_0.2.1
theorem e_X8_puts_4 : decode cX8_puts 4 = .ok (.aload_n 0, 1) := D_X8_puts_0.2.2.1
theorem e_X8_puts_5 : decode cX8_puts 5 = .ok (.getfield 7, 3) := D_X8_puts_0.2.2.2.1
theorem e_X8_puts_8 : decode cX8_puts 8 = .ok (.iload_n 1, 1) := D_X8_puts_0.2.2.2.2.1
theorem e_X8_puts_9 : decode cX8_puts 9 = .ok (.iaload, 1) := D_X8_puts_0.2.2.2.2.2.1
theorem e_X8_puts_10 : decode cX8_puts 10 = .ok (.istore_n 3, 1) := D_X8_puts_0.2.2.2.2.2.2.1
theorem e_X8_puts_11 : decode cX8_puts 11 = .ok (.aload_n 0, 1) := D_X8_puts_0.2.2.2.2.2.2.2.1
theorem e_X8_puts_12 : decode cX8_puts 12 = .ok (.getfield 7, 3) := D_X8_puts_0.2.2.2.2.2.2.2.2.1
theorem e_X8_puts_15 : decode cX8_puts 15 = .ok (.iload_n 1, 1) := D_X8_puts_0.2.2.2.2.2.2.2.2.2.1
theorem e_X8_puts_16 : decode cX8_puts 16 = .ok (.iload_n 2, 1) := D_X8_puts_0.2.2.2.2.2.2.2.2.2.2.1
theorem e_X8_puts_17 : decode cX8_puts 17 = .ok (.iastore, 1) := D_X8_puts_0.2.2.2.2.2.2.2.2.2.2.2.1
theorem e_X8_puts_18 : decode cX8_puts 18 = .ok (.iload_n 3, 1) := D_X8_puts_0.2.2.2.2.2.2.2.2.2.2.2.2.1
theorem e_X8_puts_19 : decode cX8_puts 19 = .ok (.ireturn, 1) := D_X8_puts_0.2.2.2.2.2.2.2.2.2.2.2.2.2.1
set_option maxRecDepth 100000 in
theorem D_X8_staples_0 : decode cX8_staples 0 = .ok (.iload_n 1, 1) ∧ decode cX8_staples 1 = .ok (.iconst 0, 1) ∧ decode cX8_staples 2 = .ok (.sipush 5000, 3) ∧ decode cX8_staples 5 = .ok (.invokestatic 32, 3) ∧ decode cX8_staples 8 = .ok (.ifCond .eq 12, 3) ∧ decode cX8_staples 11 = .ok (.aload_n 0, 1) ∧ decode cX8_staples 12 = .ok (.iconst 3, 1) ∧ decode cX8_staples 13 = .ok (.iload_n 1, 1) ∧ decode cX8_staples 14 = .ok (.invokevirtual 54, 3) ∧ decode cX8_staples 17 = .ok (.goto 4, 3) ∧ decode cX8_staples 20 = .ok (.iconst (-1), 1) ∧ decode cX8_staples 21 = .ok (.ireturn, 1) ∧ True := dq_of (l := (0, .iload_n 1, 1) :: (1, .iconst 0, 1) :: (2, .sipush 5000, 3) :: (5, .invokestatic 32, 3) :: (8, .ifCond .eq 12, 3) :: (11, .aload_n 0, 1) :: (12, .iconst 3, 1) :: (13, .iload_n 1, 1) :: (14, .invokevirtual 54, 3) :: (17, .goto 4, 3) :: (20, .iconst (-1), 1) :: (21, .ireturn, 1) :: []) (by decide +kernel)
theorem e_X8_staples_0 : decode cX8_staples 0 = .ok (.iload_n 1, 1) := D_X8_staples_0.1
theorem e_X8_staples_1 : decode cX8_staples 1 = .ok (.iconst 0, 1) := D_X8_staples_0.2.1
theorem e_X8_staples_2 : decode cX8_staples 2 = .ok (.sipush 5000, 3) := D_X8_staples_0.2.2.1
theorem e_X8_staples_5 : decode cX8_staples 5 = .ok (.invokestatic 32, 3) := D_X8_staples_0.2.2.2.1
theorem e_X8_staples_8 : decode cX8_staples 8 = .ok (.ifCond .eq 12, 3) := D_X8_staples_0.2.2.2.2.1
theorem e_X8_staples_11 : decode cX8_staples 11 = .ok (.aload_n 0, 1) := D_X8_staples_0.2.2.2.2.2.1
theorem e_X8_staples_12 : decode cX8_staples 12 = .ok (.iconst 3, 1) := D_X8_staples_0.2.2.2.2.2.2.1
theorem e_X8_staples_13 : decode cX8_staples 13 = .ok (.iload_n 1, 1) := D_X8_staples_0.2.2.2.2.2.2.2.1
theorem e_X8_staples_14 : decode cX8_staples 14 = .ok (.invokevirtual 54, 3) := D_X8_staples_0.2.2.2.2.2.2.2.2.1
theorem e_X8_staples_17 : decode cX8_staples 17 = .ok (.goto 4, 3) := D_X8_staples_0.2.2.2.2.2.2.2.2.2.1
theorem e_X8_staples_20 : decode cX8_staples 20 = .ok (.iconst (-1), 1) := D_X8_staples_0.2.2.2.2.2.2.2.2.2.2.1
theorem e_X8_staples_21 : decode cX8_staples 21 = .ok (.ireturn, 1) := D_X8_staples_0.2.2.2.2.2.2.2.2.2.2.2.1
set_option maxRecDepth 100000 in
theorem D_X8_emptyBin_0 : decode cX8_emptyBin 0 = .ok (.aload_n 0, 1) ∧ decode cX8_emptyBin 1 = .ok (.iconst 2, 1) ∧ decode cX8_emptyBin 2 = .ok (.iconst 0, 1) ∧ decode cX8_emptyBin 3 = .ok (.invokevirtual 54, 3) ∧ decode cX8_emptyBin 6 = .ok (.ireturn, 1) ∧ True := dq_of (l := (0, .aload_n 0, 1) :: (1, .iconst 2, 1) :: (2, .iconst 0, 1) :: (3, .invokevirtual 54, 3) :: (6, .ireturn, 1) :: []) (by decide +kernel)
theorem e_X8_emptyBin_0 : decode cX8_emptyBin 0 = .ok (.aload_n 0, 1) := D_X8_emptyBin_0.1
theorem e_X8_emptyBin_1 : decode cX8_emptyBin 1 = .ok (.iconst 2, 1) := D_X8_emptyBin_0.2.1
theorem e_X8_emptyBin_2 : decode cX8_emptyBin 2 = .ok (.iconst 0, 1) := D_X8_emptyBin_0.2.2.1
theorem e_X8_emptyBin_3 : decode cX8_emptyBin 3 = .ok (.invokevirtual 54, 3) := D_X8_emptyBin_0.2.2.2.1
theorem e_X8_emptyBin_6 : decode cX8_emptyBin 6 = .ok (.ireturn, 1) := D_X8_emptyBin_0.2.2.2.2.1
set_option maxRecDepth 100000 in
theorem D_X8_isSetting_0 : decode cX8_isSetting 0 = .ok (.iload_n 0, 1) ∧ decode cX8_isSetting 1 = .ok (.tableswitch 68 0 4 #[35, 43, 43, 51, 59], 35) ∧ decode cX8_isSetting 36 = .ok (.iload_n 1, 1) ∧ decode cX8_isSetting 37 = .ok (.iconst 1, 1) ∧ decode cX8_isSetting 38 = .ok (.bipush 20, 2) ∧ decode cX8_isSetting 40 = .ok (.invokestatic 32, 3) ∧ decode cX8_isSetting 43 = .ok (.ireturn, 1) ∧ decode cX8_isSetting 44 = .ok (.iload_n 1, 1) ∧ decode cX8_isSetting 45 = .ok (.iconst 0, 1) ∧ decode cX8_isSetting 46 = .ok (.bipush 20, 2) ∧ decode cX8_isSetting 48 = .ok (.invokestatic 32, 3) ∧ decode cX8_isSetting 51 = .ok (.ireturn, 1) ∧ decode cX8_isSetting 52 = .ok (.iload_n 1, 1) ∧ decode cX8_isSetting 53 = .ok (.iconst 2, 1) ∧ decode cX8_isSetting 54 = .ok (.bipush 100, 2) ∧ decode cX8_isSetting 56 = .ok (.invokestatic 32, 3) ∧ decode cX8_isSetting 59 = .ok (.ireturn, 1) ∧ decode cX8_isSetting 60 = .ok (.iload_n 1, 1) ∧ decode cX8_isSetting 61 = .ok (.iconst 0, 1) ∧ decode cX8_isSetting 62 = .ok (.sipush 500, 3) ∧ decode cX8_isSetting 65 = .ok (.invokestatic 32, 3) ∧ decode cX8_isSetting 68 = .ok (.ireturn, 1) ∧ decode cX8_isSetting 69 = .ok (.iload_n 0, 1) ∧ decode cX8_isSetting 70 = .ok (.iconst 5, 1) ∧ decode cX8_isSetting 71 = .ok (.if_icmp .ne 18, 3) ∧ decode cX8_isSetting 74 = .ok (.iload_n 1, 1) ∧ decode cX8_isSetting 75 = .ok (.iconst 1, 1) ∧ decode cX8_isSetting 76 = .ok (.sipush 1000, 3) ∧ decode cX8_isSetting 79 = .ok (.invokestatic 32, 3) ∧ decode cX8_isSetting 82 = .ok (.ifCond .eq 7, 3) ∧ decode cX8_isSetting 85 = .ok (.iconst 1, 1) ∧ decode cX8_isSetting 86 = .ok (.goto 4, 3) ∧ decode cX8_isSetting 89 = .ok (.iconst 0, 1) ∧ decode cX8_isSetting 90 = .ok (.ireturn, 1) ∧ True := dq_of (l := (0, .iload_n 0, 1) :: (1, .tableswitch 68 0 4 #[35, 43, 43, 51, 59], 35) :: (36, .iload_n 1, 1) :: (37, .iconst 1, 1) :: (38, .bipush 20, 2) :: (40, .invokestatic 32, 3) :: (43, .ireturn, 1) :: (44, .iload_n 1, 1) :: (45, .iconst 0, 1) :: (46, .bipush 20, 2) :: (48, .invokestatic 32, 3) :: (51, .ireturn, 1) :: (52, .iload_n 1, 1) :: (53, .iconst 2, 1) :: (54, .bipush 100, 2) :: (56, .invokestatic 32, 3) :: (59, .ireturn, 1) :: (60, .iload_n 1, 1) :: (61, .iconst 0, 1) :: (62, .sipush 500, 3) :: (65, .invokestatic 32, 3) :: (68, .ireturn, 1) :: (69, .iload_n 0, 1) :: (70, .iconst 5, 1) :: (71, .if_icmp .ne 18, 3) :: (74, .iload_n 1, 1) :: (75, .iconst 1, 1) :: (76, .sipush 1000, 3) :: (79, .invokestatic 32, 3) :: (82, .ifCond .eq 7, 3) :: (85, .iconst 1, 1) :: (86, .goto 4, 3) :: (89, .iconst 0, 1) :: (90, .ireturn, 1) :: []) (by decide +kernel)
theorem e_X8_isSetting_0 : decode cX8_isSetting 0 = .ok (.iload_n 0, 1) := D_X8_isSetting_0.1
theorem e_X8_isSetting_1 : decode cX8_isSetting 1 = .ok (.tableswitch 68 0 4 #[35, 43, 43, 51, 59], 35) := D_X8_isSetting_0.2.1
theorem e_X8_isSetting_36 : decode cX8_isSetting 36 = .ok (.iload_n 1, 1) := D_X8_isSetting_0.2.2.1
theorem e_X8_isSetting_37 : decode cX8_isSetting 37 = .ok (.iconst 1, 1) := D_X8_isSetting_0.2.2.2.1
theorem e_X8_isSetting_38 : decode cX8_isSetting 38 = .ok (.bipush 20, 2) := D_X8_isSetting_0.2.2.2.2.1
theorem e_X8_isSetting_40 : decode cX8_isSetting 40 = .ok (.invokestatic 32, 3) := D_X8_isSetting_0.2.2.2.2.2.1
theorem e_X8_isSetting_43 : decode cX8_isSetting 43 = .ok (.ireturn, 1) := D_X8_isSetting_0.2.2.2.2.2.2.1
theorem e_X8_isSetting_44 : decode cX8_isSetting 44 = .ok (.iload_n 1, 1) := D_X8_isSetting_0.2.2.2.2.2.2.2.1
theorem e_X8_isSetting_45 : decode cX8_isSetting 45 = .ok (.iconst 0, 1) := D_X8_isSetting_0.2.2.2.2.2.2.2.2.1
theorem e_X8_isSetting_46 : decode cX8_isSetting 46 = .ok (.bipush 20, 2) := D_X8_isSetting_0.2.2.2.2.2.2.2.2.2.1
theorem e_X8_isSetting_48 : decode cX8_isSetting 48 = .ok (.invokestatic 32, 3) := D_X8_isSetting_0.2.2.2.2.2.2.2.2.2.2.1
theorem e_X8_isSetting_51 : decode cX8_isSetting 51 = .ok (.ireturn, 1) := D_X8_isSetting_0.2.2.2.2.2.2.2.2.2.2.2.1
theorem e_X8_isSetting_52 : decode cX8_isSetting 52 = .ok (.iload_n 1, 1) := D_X8_isSetting_0.2.2.2.2.2.2.2.2.2.2.2.2.1
theorem e_X8_isSetting_53 : decode cX8_isSetting 53 = .ok (.iconst 2, 1) := D_X8_isSetting_0.2.2.2.2.2.2.2.2.2.2.2.2.2.1
theorem e_X8_isSetting_54 : decode cX8_isSetting 54 = .ok (.bipush 100, 2) := D_X8_isSetting_0.2.2.2.2.2.2.2.2.2.2.2.2.2.2.1
theorem e_X8_isSetting_56 : decode cX8_isSetting 56 = .ok (.invokestatic 32, 3) := D_X8_isSetting_0.2.2.2.2.2.2.2.2.2.2.2.2.2.2.2.1
theorem e_X8_isSetting_59 : decode cX8_isSetting 59 = .ok (.ireturn, 1) := D_X8_isSetting_0.2.2.2.2.2.2.2.2.2.2.2.2.2.2.2.2.1
theorem e_X8_isSetting_60 : decode cX8_isSetting 60 = .ok (.iload_n 1, 1) := D_X8_isSetting_0.2.2.2.2.2.2.2.2.2.2.2.2.2.2.2.2.2.1
theorem e_X8_isSetting_61 : decode cX8_isSetting 61 = .ok (.iconst 0, 1) := D_X8_isSetting_0.2.2.2.2.2.2.2.2.2.2.2.2.2.2.2.2.2.2.1
theorem e_X8_isSetting_62 : decode cX8_isSetting 62 = .ok (.sipush 500, 3) := D_X8_isSetting_0.2.2.2.2.2.2.2.2.2.2.2.2.2.2.2.2.2.2.2.1
theorem e_X8_isSetting_65 : decode cX8_isSetting 65 = .ok (.invokestatic 32, 3) := D_X8_isSetting_0.2.2.2.2.2.2.2.2.2.2.2.2.2.2.2.2.2.2.2.2.1
theorem e_X8_isSetting_68 : decode cX8_isSetting 68 = .ok (.ireturn, 1) := D_X8_isSetting_0.2.2.2.2.2.2.2.2.2.2.2.2.2.2.2.2.2.2.2.2.2.1
theorem e_X8_isSetting_69 : decode cX8_isSetting 69 = .ok (.iload_n 0, 1) := D_X8_isSetting_0.2.2.2.2.2.2.2.2.2.2.2.2.2.2.2.2.2.2.2.2.2.2.1
theorem e_X8_isSetting_70 : decode cX8_isSetting 70 = .ok (.iconst 5, 1) := D_X8_isSetting_0.2.2.2.2.2.2.2.2.2.2.2.2.2.2.2.2.2.2.2.2.2.2.2.1
theorem e_X8_isSetting_71 : decode cX8_isSetting 71 = .ok (.if_icmp .ne 18, 3) := D_X8_isSetting_0.2.2.2.2.2.2.2.2.2.2.2.2.2.2.2.2.2.2.2.2.2.2.2.2.1
theorem e_X8_isSetting_74 : decode cX8_isSetting 74 = .ok (.iload_n 1, 1) := D_X8_isSetting_0.2.2.2.2.2.2.2.2.2.2.2.2.2.2.2.2.2.2.2.2.2.2.2.2.2.1
theorem e_X8_isSetting_75 : decode cX8_isSetting 75 = .ok (.iconst 1, 1) := D_X8_isSetting_0.2.2.2.2.2.2.2.2.2.2.2.2.2.2.2.2.2.2.2.2.2.2.2.2.2.2.1
theorem e_X8_isSetting_76 : decode cX8_isSetting 76 = .ok (.sipush 1000, 3) := D_X8_isSetting_0.2.2.2.2.2.2.2.2.2.2.2.2.2.2.2.2.2.2.2.2.2.2.2.2.2.2.2.1
theorem e_X8_isSetting_79 : decode cX8_isSetting 79 = .ok (.invokestatic 32, 3) := D_X8_isSetting_0.2.2.2.2.2.2.2.2.2.2.2.2.2.2.2.2.2.2.2.2.2.2.2.2.2.2.2.2.1
theorem e_X8_isSetting_82 : decode cX8_isSetting 82 = .ok (.ifCond .eq 7, 3) := D_X8_isSetting_0.2.2.2.2.2.2.2.2.2.2.2.2.2.2.2.2.2.2.2.2.2.2.2.2.2.2.2.2.2.1
theorem e_X8_isSetting_85 : decode cX8_isSetting 85 = .ok (.iconst 1, 1) := D_X8_isSetting_0.2.2.2.2.2.2.2.2.2.2.2.2.2.2.2.2.2.2.2.2.2.2.2.2.2.2.2.2.2.2.1
theorem e_X8_isSetting_86 : decode cX8_isSetting 86 = .ok (.goto 4, 3) := D_X8_isSetting_0.2.2.2.2.2.2.2.2.2.2.2.2.2.2.2.2.2.2.2.2.2.2.2.2.2.2.2.2.2.2.2.1
theorem e_X8_isSetting_89 : decode cX8_isSetting 89 = .ok (.iconst 0, 1) := D_X8_isSetting_0.2.2.2.2.2.2.2.2.2.2.2.2.2.2.2.2.2.2.2.2.2.2.2.2.2.2.2.2.2.2.2.2.1
theorem e_X8_isSetting_90 : decode cX8_isSetting 90 = .ok (.ireturn, 1) := D_X8_isSetting_0.2.2.2.2.2.2.2.2.2.2.2.2.2.2.2.2.2.2.2.2.2.2.2.2.2.2.2.2.2.2.2.2.2.1
set_option maxRecDepth 100000 in
theorem D_X8_set_0 : decode cX8_set 0 = .ok (.iload_n 1, 1) ∧ decode cX8_set 1 = .ok (.iload_n 2, 1) ∧ decode cX8_set 2 = .ok (.invokestatic 57, 3) ∧ decode cX8_set 5 = .ok (.ifCond .eq 15, 3) ∧ decode cX8_set 8 = .ok (.aload_n 0, 1) ∧ decode cX8_set 9 = .ok (.bipush 10, 2) ∧ decode cX8_set 11 = .ok (.iload_n 1, 1) ∧ decode cX8_set 12 = .ok (.iadd, 1) ∧ decode cX8_set 13 = .ok (.iload_n 2, 1) ∧ decode cX8_set 14 = .ok (.invokevirtual 54, 3) ∧ decode cX8_set 17 = .ok (.goto 4, 3) ∧ decode cX8_set 20 = .ok (.iconst (-1), 1) ∧ decode cX8_set 21 = .ok (.ireturn, 1) ∧ True := dq_of (l := (0, .iload_n 1, 1) :: (1, .iload_n 2, 1) :: (2, .invokestatic 57, 3) :: (5, .ifCond .eq 15, 3) :: (8, .aload_n 0, 1) :: (9, .bipush 10, 2) :: (11, .iload_n 1, 1) :: (12, .iadd, 1) :: (13, .iload_n 2, 1) :: (14, .invokevirtual 54, 3) :: (17, .goto 4, 3) :: (20, .iconst (-1), 1) :: (21, .ireturn, 1) :: []) (by decide +kernel)
theorem e_X8_set_0 : decode cX8_set 0 = .ok (.iload_n 1, 1) := D_X8_set_0.1
theorem e_X8_set_1 : decode cX8_set 1 = .ok (.iload_n 2, 1) := D_X8_set_0.2.1
theorem e_X8_set_2 : decode cX8_set 2 = .ok (.invokestatic 57, 3) := D_X8_set_0.2.2.1
theorem e_X8_set_5 : decode cX8_set 5 = .ok (.ifCond .eq 15, 3) := D_X8_set_0.2.2.2.1
theorem e_X8_set_8 : decode cX8_set 8 = .ok (.aload_n 0, 1) := D_X8_set_0.2.2.2.2.1
theorem e_X8_set_9 : decode cX8_set 9 = .ok (.bipush 10, 2) := D_X8_set_0.2.2.2.2.2.1
theorem e_X8_set_11 : decode cX8_set 11 = .ok (.iload_n 1, 1) := D_X8_set_0.2.2.2.2.2.2.1
theorem e_X8_set_12 : decode cX8_set 12 = .ok (.iadd, 1) := D_X8_set_0.2.2.2.2.2.2.2.1
theorem e_X8_set_13 : decode cX8_set 13 = .ok (.iload_n 2, 1) := D_X8_set_0.2.2.2.2.2.2.2.2.1
theorem e_X8_set_14 : decode cX8_set 14 = .ok (.invokevirtual 54, 3) := D_X8_set_0.2.2.2.2.2.2.2.2.2.1
theorem e_X8_set_17 : decode cX8_set 17 = .ok (.goto 4, 3) := D_X8_set_0.2.2.2.2.2.2.2.2.2.2.1
theorem e_X8_set_20 : decode cX8_set 20 = .ok (.iconst (-1), 1) := D_X8_set_0.2.2.2.2.2.2.2.2.2.2.2.1
theorem e_X8_set_21 : decode cX8_set 21 = .ok (.ireturn, 1) := D_X8_set_0.2.2.2.2.2.2.2.2.2.2.2.2.1
set_option maxRecDepth 100000 in
theorem D_X8_jobAt_0 : decode cX8_jobAt 0 = .ok (.bipush 85, 2) ∧ decode cX8_jobAt 2 = .ok (.bipush 10, 2) ∧ decode cX8_jobAt 4 = .ok (.iload_n 0, 1) ∧ decode cX8_jobAt 5 = .ok (.imul, 1) ∧ decode cX8_jobAt 6 = .ok (.iadd, 1) ∧ decode cX8_jobAt 7 = .ok (.ireturn, 1) ∧ True := dq_of (l := (0, .bipush 85, 2) :: (2, .bipush 10, 2) :: (4, .iload_n 0, 1) :: (5, .imul, 1) :: (6, .iadd, 1) :: (7, .ireturn, 1) :: []) (by decide +kernel)
theorem e_X8_jobAt_0 : decode cX8_jobAt 0 = .ok (.bipush 85, 2) := D_X8_jobAt_0.1
theorem e_X8_jobAt_2 : decode cX8_jobAt 2 = .ok (.bipush 10, 2) := D_X8_jobAt_0.2.1
theorem e_X8_jobAt_4 : decode cX8_jobAt 4 = .ok (.iload_n 0, 1) := D_X8_jobAt_0.2.2.1
theorem e_X8_jobAt_5 : decode cX8_jobAt 5 = .ok (.imul, 1) := D_X8_jobAt_0.2.2.2.1
theorem e_X8_jobAt_6 : decode cX8_jobAt 6 = .ok (.iadd, 1) := D_X8_jobAt_0.2.2.2.2.1
theorem e_X8_jobAt_7 : decode cX8_jobAt 7 = .ok (.ireturn, 1) := D_X8_jobAt_0.2.2.2.2.2.1
set_option maxRecDepth 100000 in
theorem D_X8_of_0 : decode cX8_of 0 = .ok (.aload_n 0, 1) ∧ decode cX8_of 1 = .ok (.getfield 7, 3) ∧ decode cX8_of 4 = .ok (.iload_n 1, 1) ∧ decode cX8_of 5 = .ok (.invokestatic 60, 3) ∧ decode cX8_of 8 = .ok (.iload_n 2, 1) ∧ decode cX8_of 9 = .ok (.iadd, 1) ∧ decode cX8_of 10 = .ok (.iaload, 1) ∧ decode cX8_of 11 = .ok (.ireturn, 1) ∧ True := dq_of (l := (0, .aload_n 0, 1) :: (1, .getfield 7, 3) :: (4, .iload_n 1, 1) :: (5, .invokestatic 60, 3) :: (8, .iload_n 2, 1) :: (9, .iadd, 1) :: (10, .iaload, 1) :: (11, .ireturn, 1) :: []) (by decide +kernel)
theorem e_X8_of_0 : decode cX8_of 0 = .ok (.aload_n 0, 1) := D_X8_of_0.1
theorem e_X8_of_1 : decode cX8_of 1 = .ok (.getfield 7, 3) := D_X8_of_0.2.1
theorem e_X8_of_4 : decode cX8_of 4 = .ok (.iload_n 1, 1) := D_X8_of_0.2.2.1
theorem e_X8_of_5 : decode cX8_of 5 = .ok (.invokestatic 60, 3) := D_X8_of_0.2.2.2.1
theorem e_X8_of_8 : decode cX8_of 8 = .ok (.iload_n 2, 1) := D_X8_of_0.2.2.2.2.1
theorem e_X8_of_9 : decode cX8_of 9 = .ok (.iadd, 1) := D_X8_of_0.2.2.2.2.2.1
theorem e_X8_of_10 : decode cX8_of 10 = .ok (.iaload, 1) := D_X8_of_0.2.2.2.2.2.2.1
theorem e_X8_of_11 : decode cX8_of 11 = .ok (.ireturn, 1) := D_X8_of_0.2.2.2.2.2.2.2.1
set_option maxRecDepth 100000 in
theorem D_X8_placeOf_0 : decode cX8_placeOf 0 = .ok (.iconst 0, 1) ∧ decode cX8_placeOf 1 = .ok (.istore_n 2, 1) ∧ decode cX8_placeOf 2 = .ok (.iload_n 2, 1) ∧ decode cX8_placeOf 3 = .ok (.aload_n 0, 1) ∧ decode cX8_placeOf 4 = .ok (.getfield 7, 3) ∧ decode cX8_placeOf 7 = .ok (.iconst 0, 1) ∧ decode cX8_placeOf 8 = .ok (.iaload, 1) ∧ decode cX8_placeOf 9 = .ok (.if_icmp .ge 21, 3) ∧ decode cX8_placeOf 12 = .ok (.aload_n 0, 1) ∧ decode cX8_placeOf 13 = .ok (.iload_n 2, 1) ∧ decode cX8_placeOf 14 = .ok (.iconst 0, 1) ∧ decode cX8_placeOf 15 = .ok (.invokevirtual 64, 3) ∧ decode cX8_placeOf 18 = .ok (.iload_n 1, 1) ∧ decode cX8_placeOf 19 = .ok (.if_icmp .ne 5, 3) ∧ decode cX8_placeOf 22 = .ok (.iload_n 2, 1) ∧ decode cX8_placeOf 23 = .ok (.ireturn, 1) ∧ decode cX8_placeOf 24 = .ok (.iinc 2 1, 3) ∧ decode cX8_placeOf 27 = .ok (.goto (-25), 3) ∧ decode cX8_placeOf 30 = .ok (.iconst (-1), 1) ∧ decode cX8_placeOf 31 = .ok (.ireturn, 1) ∧ True := dq_of (l := (0, .iconst 0, 1) :: (1, .istore_n 2, 1) :: (2, .iload_n 2, 1) :: (3, .aload_n 0, 1) :: (4, .getfield 7, 3) :: (7, .iconst 0, 1) :: (8, .iaload, 1) :: (9, .if_icmp .ge 21, 3) :: (12, .aload_n 0, 1) :: (13, .iload_n 2, 1) :: (14, .iconst 0, 1) :: (15, .invokevirtual 64, 3) :: (18, .iload_n 1, 1) :: (19, .if_icmp .ne 5, 3) :: (22, .iload_n 2, 1) :: (23, .ireturn, 1) :: (24, .iinc 2 1, 3) :: (27, .goto (-25), 3) :: (30, .iconst (-1), 1) :: (31, .ireturn, 1) :: []) (by decide +kernel)
theorem e_X8_placeOf_0 : decode cX8_placeOf 0 = .ok (.iconst 0, 1) := D_X8_placeOf_0.1
theorem e_X8_placeOf_1 : decode cX8_placeOf 1 = .ok (.istore_n 2, 1) := D_X8_placeOf_0.2.1
theorem e_X8_placeOf_2 : decode cX8_placeOf 2 = .ok (.iload_n 2, 1) := D_X8_placeOf_0.2.2.1
theorem e_X8_placeOf_3 : decode cX8_placeOf 3 = .ok (.aload_n 0, 1) := D_X8_placeOf_0.2.2.2.1
theorem e_X8_placeOf_4 : decode cX8_placeOf 4 = .ok (.getfield 7, 3) := D_X8_placeOf_0.2.2.2.2.1
theorem e_X8_placeOf_7 : decode cX8_placeOf 7 = .ok (.iconst 0, 1) := D_X8_placeOf_0.2.2.2.2.2.1
theorem e_X8_placeOf_8 : decode cX8_placeOf 8 = .ok (.iaload, 1) := D_X8_placeOf_0.2.2.2.2.2.2.1
theorem e_X8_placeOf_9 : decode cX8_placeOf 9 = .ok (.if_icmp .ge 21, 3) := D_X8_placeOf_0.2.2.2.2.2.2.2.1
theorem e_X8_placeOf_12 : decode cX8_placeOf 12 = .ok (.aload_n 0, 1) := D_X8_placeOf_0.2.2.2.2.2.2.2.2.1
theorem e_X8_placeOf_13 : decode cX8_placeOf 13 = .ok (.iload_n 2, 1) := D_X8_placeOf_0.2.2.2.2.2.2.2.2.2.1
theorem e_X8_placeOf_14 : decode cX8_placeOf 14 = .ok (.iconst 0, 1) := D_X8_placeOf_0.2.2.2.2.2.2.2.2.2.2.1
theorem e_X8_placeOf_15 : decode cX8_placeOf 15 = .ok (.invokevirtual 64, 3) := D_X8_placeOf_0.2.2.2.2.2.2.2.2.2.2.2.1
theorem e_X8_placeOf_18 : decode cX8_placeOf 18 = .ok (.iload_n 1, 1) := D_X8_placeOf_0.2.2.2.2.2.2.2.2.2.2.2.2.1
theorem e_X8_placeOf_19 : decode cX8_placeOf 19 = .ok (.if_icmp .ne 5, 3) := D_X8_placeOf_0.2.2.2.2.2.2.2.2.2.2.2.2.2.1
theorem e_X8_placeOf_22 : decode cX8_placeOf 22 = .ok (.iload_n 2, 1) := D_X8_placeOf_0.2.2.2.2.2.2.2.2.2.2.2.2.2.2.1
theorem e_X8_placeOf_23 : decode cX8_placeOf 23 = .ok (.ireturn, 1) := D_X8_placeOf_0.2.2.2.2.2.2.2.2.2.2.2.2.2.2.2.1
theorem e_X8_placeOf_24 : decode cX8_placeOf 24 = .ok (.iinc 2 1, 3) := D_X8_placeOf_0.2.2.2.2.2.2.2.2.2.2.2.2.2.2.2.2.1
theorem e_X8_placeOf_27 : decode cX8_placeOf 27 = .ok (.goto (-25), 3) := D_X8_placeOf_0.2.2.2.2.2.2.2.2.2.2.2.2.2.2.2.2.2.1
theorem e_X8_placeOf_30 : decode cX8_placeOf 30 = .ok (.iconst (-1), 1) := D_X8_placeOf_0.2.2.2.2.2.2.2.2.2.2.2.2.2.2.2.2.2.2.1
theorem e_X8_placeOf_31 : decode cX8_placeOf 31 = .ok (.ireturn, 1) := D_X8_placeOf_0.2.2.2.2.2.2.2.2.2.2.2.2.2.2.2.2.2.2.2.1
set_option maxRecDepth 100000 in
theorem D_X8_setOf_0 : decode cX8_setOf 0 = .ok (.iload_n 1, 1) ∧ decode cX8_setOf 1 = .ok (.iconst 1, 1) ∧ decode cX8_setOf 2 = .ok (.iand, 1) ∧ decode cX8_setOf 3 = .ok (.iconst 1, 1) ∧ decode cX8_setOf 4 = .ok (.if_icmp .ne 11, 3) ∧ decode cX8_setOf 7 = .ok (.iload_n 0, 1) ∧ decode cX8_setOf 8 = .ok (.iconst 1, 1) ∧ decode cX8_setOf 9 = .ok (.iadd, 1) ∧ decode cX8_setOf 10 = .ok (.iconst 2, 1) ∧ decode cX8_setOf 11 = .ok (.idiv, 1) ∧ decode cX8_setOf 12 = .ok (.goto 4, 3) ∧ decode cX8_setOf 15 = .ok (.iload_n 0, 1) ∧ decode cX8_setOf 16 = .ok (.ireturn, 1) ∧ True := dq_of (l := (0, .iload_n 1, 1) :: (1, .iconst 1, 1) :: (2, .iand, 1) :: (3, .iconst 1, 1) :: (4, .if_icmp .ne 11, 3) :: (7, .iload_n 0, 1) :: (8, .iconst 1, 1) :: (9, .iadd, 1) :: (10, .iconst 2, 1) :: (11, .idiv, 1) :: (12, .goto 4, 3) :: (15, .iload_n 0, 1) :: (16, .ireturn, 1) :: []) (by decide +kernel)
theorem e_X8_setOf_0 : decode cX8_setOf 0 = .ok (.iload_n 1, 1) := D_X8_setOf_0.1
theorem e_X8_setOf_1 : decode cX8_setOf 1 = .ok (.iconst 1, 1) := D_X8_setOf_0.2.1
theorem e_X8_setOf_2 : decode cX8_setOf 2 = .ok (.iand, 1) := D_X8_setOf_0.2.2.1
theorem e_X8_setOf_3 : decode cX8_setOf 3 = .ok (.iconst 1, 1) := D_X8_setOf_0.2.2.2.1
theorem e_X8_setOf_4 : decode cX8_setOf 4 = .ok (.if_icmp .ne 11, 3) := D_X8_setOf_0.2.2.2.2.1
theorem e_X8_setOf_7 : decode cX8_setOf 7 = .ok (.iload_n 0, 1) := D_X8_setOf_0.2.2.2.2.2.1
theorem e_X8_setOf_8 : decode cX8_setOf 8 = .ok (.iconst 1, 1) := D_X8_setOf_0.2.2.2.2.2.2.1
theorem e_X8_setOf_9 : decode cX8_setOf 9 = .ok (.iadd, 1) := D_X8_setOf_0.2.2.2.2.2.2.2.1
theorem e_X8_setOf_10 : decode cX8_setOf 10 = .ok (.iconst 2, 1) := D_X8_setOf_0.2.2.2.2.2.2.2.2.1
theorem e_X8_setOf_11 : decode cX8_setOf 11 = .ok (.idiv, 1) := D_X8_setOf_0.2.2.2.2.2.2.2.2.2.1
theorem e_X8_setOf_12 : decode cX8_setOf 12 = .ok (.goto 4, 3) := D_X8_setOf_0.2.2.2.2.2.2.2.2.2.2.1
theorem e_X8_setOf_15 : decode cX8_setOf 15 = .ok (.iload_n 0, 1) := D_X8_setOf_0.2.2.2.2.2.2.2.2.2.2.2.1
theorem e_X8_setOf_16 : decode cX8_setOf 16 = .ok (.ireturn, 1) := D_X8_setOf_0.2.2.2.2.2.2.2.2.2.2.2.2.1
set_option maxRecDepth 100000 in
theorem D_X8_whyNot_0 : decode cX8_whyNot 0 = .ok (.iload_n 3, 1) ∧ decode cX8_whyNot 1 = .ok (.iconst 4, 1) ∧ decode cX8_whyNot 2 = .ok (.if_icmp .ge 5, 3) ∧ decode cX8_whyNot 5 = .ok (.iconst 0, 1) ∧ decode cX8_whyNot 6 = .ok (.ireturn, 1) ∧ decode cX8_whyNot 7 = .ok (.iload_n 1, 1) ∧ decode cX8_whyNot 8 = .ok (.iload_n 3, 1) ∧ decode cX8_whyNot 9 = .ok (.invokestatic 67, 3) ∧ decode cX8_whyNot 12 = .ok (.istore 4, 2) ∧ decode cX8_whyNot 14 = .ok (.iload_n 2, 1) ∧ decode cX8_whyNot 15 = .ok (.iconst 1, 1) ∧ decode cX8_whyNot 16 = .ok (.if_icmp .ne 15, 3) ∧ decode cX8_whyNot 19 = .ok (.aload_n 0, 1) ∧ decode cX8_whyNot 20 = .ok (.getfield 7, 3) ∧ decode cX8_whyNot 23 = .ok (.bipush 13, 2) ∧ decode cX8_whyNot 25 = .ok (.iaload, 1) ∧ decode cX8_whyNot 26 = .ok (.iconst 2, 1) ∧ decode cX8_whyNot 27 = .ok (.idiv, 1) ∧ decode cX8_whyNot 28 = .ok (.goto 10, 3) ∧ decode cX8_whyNot 31 = .ok (.aload_n 0, 1) ∧ decode cX8_whyNot 32 = .ok (.getfield 7, 3) ∧ decode cX8_whyNot 35 = .ok (.bipush 13, 2) ∧ decode cX8_whyNot 37 = .ok (.iaload, 1) ∧ decode cX8_whyNot 38 = .ok (.istore 5, 2) ∧ decode cX8_whyNot 40 = .ok (.iload_n 3, 1) ∧ decode cX8_whyNot 41 = .ok (.iconst 2, 1) ∧ decode cX8_whyNot 42 = .ok (.iand, 1) ∧ decode cX8_whyNot 43 = .ok (.ifCond .ne 7, 3) ∧ decode cX8_whyNot 46 = .ok (.iconst 1, 1) ∧ decode cX8_whyNot 47 = .ok (.goto 34, 3) ∧ decode cX8_whyNot 50 = .ok (.iload_n 2, 1) ∧ decode cX8_whyNot 51 = .ok (.iconst 3, 1) ∧ decode cX8_whyNot 52 = .ok (.if_icmp .ne 7, 3) ∧ decode cX8_whyNot 55 = .ok (.iconst 2, 1) ∧ decode cX8_whyNot 56 = .ok (.goto 25, 3) ∧ decode cX8_whyNot 59 = .ok (.iload 4, 2) ∧ decode cX8_whyNot 61 = .ok (.iconst 1, 1) ∧ decode cX8_whyNot 62 = .ok (.if_icmp .ne 7, 3) ∧ decode cX8_whyNot 65 = .ok (.iconst 3, 1) ∧ decode cX8_whyNot 66 = .ok (.goto 15, 3) ∧ True := dq_of (l := (0, .iload_n 3, 1) :: (1, .iconst 4, 1) :: (2, .if_icmp .ge 5, 3) :: (5, .iconst 0, 1) :: (6, .ireturn, 1) :: (7, .iload_n 1, 1) :: (8, .iload_n 3, 1) :: (9, .invokestatic 67, 3) :: (12, .istore 4, 2) :: (14, .iload_n 2, 1) :: (15, .iconst 1, 1) :: (16, .if_icmp .ne 15, 3) :: (19, .aload_n 0, 1) :: (20, .getfield 7, 3) :: (23, .bipush 13, 2) :: (25, .iaload, 1) :: (26, .iconst 2, 1) :: (27, .idiv, 1) :: (28, .goto 10, 3) :: (31, .aload_n 0, 1) :: (32, .getfield 7, 3) :: (35, .bipush 13, 2) :: (37, .iaload, 1) :: (38, .istore 5, 2) :: (40, .iload_n 3, 1) :: (41, .iconst 2, 1) :: (42, .iand, 1) :: (43, .ifCond .ne 7, 3) :: (46, .iconst 1, 1) :: (47, .goto 34, 3) :: (50, .iload_n 2, 1) :: (51, .iconst 3, 1) :: (52, .if_icmp .ne 7, 3) :: (55, .iconst 2, 1) :: (56, .goto 25, 3) :: (59, .iload 4, 2) :: (61, .iconst 1, 1) :: (62, .if_icmp .ne 7, 3) :: (65, .iconst 3, 1) :: (66, .goto 15, 3) :: []) (by decide +kernel)
theorem e_X8_whyNot_0 : decode cX8_whyNot 0 = .ok (.iload_n 3, 1) := D_X8_whyNot_0.1
theorem e_X8_whyNot_1 : decode cX8_whyNot 1 = .ok (.iconst 4, 1) := D_X8_whyNot_0.2.1
theorem e_X8_whyNot_2 : decode cX8_whyNot 2 = .ok (.if_icmp .ge 5, 3) := D_X8_whyNot_0.2.2.1
theorem e_X8_whyNot_5 : decode cX8_whyNot 5 = .ok (.iconst 0, 1) := D_X8_whyNot_0.2.2.2.1
theorem e_X8_whyNot_6 : decode cX8_whyNot 6 = .ok (.ireturn, 1) := D_X8_whyNot_0.2.2.2.2.1
theorem e_X8_whyNot_7 : decode cX8_whyNot 7 = .ok (.iload_n 1, 1) := D_X8_whyNot_0.2.2.2.2.2.1
theorem e_X8_whyNot_8 : decode cX8_whyNot 8 = .ok (.iload_n 3, 1) := D_X8_whyNot_0.2.2.2.2.2.2.1
theorem e_X8_whyNot_9 : decode cX8_whyNot 9 = .ok (.invokestatic 67, 3) := D_X8_whyNot_0.2.2.2.2.2.2.2.1
theorem e_X8_whyNot_12 : decode cX8_whyNot 12 = .ok (.istore 4, 2) := D_X8_whyNot_0.2.2.2.2.2.2.2.2.1
theorem e_X8_whyNot_14 : decode cX8_whyNot 14 = .ok (.iload_n 2, 1) := D_X8_whyNot_0.2.2.2.2.2.2.2.2.2.1
theorem e_X8_whyNot_15 : decode cX8_whyNot 15 = .ok (.iconst 1, 1) := D_X8_whyNot_0.2.2.2.2.2.2.2.2.2.2.1
theorem e_X8_whyNot_16 : decode cX8_whyNot 16 = .ok (.if_icmp .ne 15, 3) := D_X8_whyNot_0.2.2.2.2.2.2.2.2.2.2.2.1
theorem e_X8_whyNot_19 : decode cX8_whyNot 19 = .ok (.aload_n 0, 1) := D_X8_whyNot_0.2.2.2.2.2.2.2.2.2.2.2.2.1
theorem e_X8_whyNot_20 : decode cX8_whyNot 20 = .ok (.getfield 7, 3) := D_X8_whyNot_0.2.2.2.2.2.2.2.2.2.2.2.2.2.1
theorem e_X8_whyNot_23 : decode cX8_whyNot 23 = .ok (.bipush 13, 2) := D_X8_whyNot_0.2.2.2.2.2.2.2.2.2.2.2.2.2.2.1
theorem e_X8_whyNot_25 : decode cX8_whyNot 25 = .ok (.iaload, 1) := D_X8_whyNot_0.2.2.2.2.2.2.2.2.2.2.2.2.2.2.2.1
theorem e_X8_whyNot_26 : decode cX8_whyNot 26 = .ok (.iconst 2, 1) := D_X8_whyNot_0.2.2.2.2.2.2.2.2.2.2.2.2.2.2.2.2.1
theorem e_X8_whyNot_27 : decode cX8_whyNot 27 = .ok (.idiv, 1) := D_X8_whyNot_0.2.2.2.2.2.2.2.2.2.2.2.2.2.2.2.2.2.1
theorem e_X8_whyNot_28 : decode cX8_whyNot 28 = .ok (.goto 10, 3) := D_X8_whyNot_0.2.2.2.2.2.2.2.2.2.2.2.2.2.2.2.2.2.2.1
theorem e_X8_whyNot_31 : decode cX8_whyNot 31 = .ok (.aload_n 0, 1) := D_X8_whyNot_0.2.2.2.2.2.2.2.2.2.2.2.2.2.2.2.2.2.2.2.1
theorem e_X8_whyNot_32 : decode cX8_whyNot 32 = .ok (.getfield 7, 3) := D_X8_whyNot_0.2.2.2.2.2.2.2.2.2.2.2.2.2.2.2.2.2.2.2.2.1
theorem e_X8_whyNot_35 : decode cX8_whyNot 35 = .ok (.bipush 13, 2) := D_X8_whyNot_0.2.2.2.2.2.2.2.2.2.2.2.2.2.2.2.2.2.2.2.2.2.1
theorem e_X8_whyNot_37 : decode cX8_whyNot 37 = .ok (.iaload, 1) := D_X8_whyNot_0.2.2.2.2.2.2.2.2.2.2.2.2.2.2.2.2.2.2.2.2.2.2.1
theorem e_X8_whyNot_38 : decode cX8_whyNot 38 = .ok (.istore 5, 2) := D_X8_whyNot_0.2.2.2.2.2.2.2.2.2.2.2.2.2.2.2.2.2.2.2.2.2.2.2.1
theorem e_X8_whyNot_40 : decode cX8_whyNot 40 = .ok (.iload_n 3, 1) := D_X8_whyNot_0.2.2.2.2.2.2.2.2.2.2.2.2.2.2.2.2.2.2.2.2.2.2.2.2.1
theorem e_X8_whyNot_41 : decode cX8_whyNot 41 = .ok (.iconst 2, 1) := D_X8_whyNot_0.2.2.2.2.2.2.2.2.2.2.2.2.2.2.2.2.2.2.2.2.2.2.2.2.2.1
theorem e_X8_whyNot_42 : decode cX8_whyNot 42 = .ok (.iand, 1) := D_X8_whyNot_0.2.2.2.2.2.2.2.2.2.2.2.2.2.2.2.2.2.2.2.2.2.2.2.2.2.2.1
theorem e_X8_whyNot_43 : decode cX8_whyNot 43 = .ok (.ifCond .ne 7, 3) := D_X8_whyNot_0.2.2.2.2.2.2.2.2.2.2.2.2.2.2.2.2.2.2.2.2.2.2.2.2.2.2.2.1
theorem e_X8_whyNot_46 : decode cX8_whyNot 46 = .ok (.iconst 1, 1) := D_X8_whyNot_0.2.2.2.2.2.2.2.2.2.2.2.2.2.2.2.2.2.2.2.2.2.2.2.2.2.2.2.2.1
theorem e_X8_whyNot_47 : decode cX8_whyNot 47 = .ok (.goto 34, 3) := D_X8_whyNot_0.2.2.2.2.2.2.2.2.2.2.2.2.2.2.2.2.2.2.2.2.2.2.2.2.2.2.2.2.2.1
theorem e_X8_whyNot_50 : decode cX8_whyNot 50 = .ok (.iload_n 2, 1) := D_X8_whyNot_0.2.2.2.2.2.2.2.2.2.2.2.2.2.2.2.2.2.2.2.2.2.2.2.2.2.2.2.2.2.2.1
theorem e_X8_whyNot_51 : decode cX8_whyNot 51 = .ok (.iconst 3, 1) := D_X8_whyNot_0.2.2.2.2.2.2.2.2.2.2.2.2.2.2.2.2.2.2.2.2.2.2.2.2.2.2.2.2.2.2.2.1
theorem e_X8_whyNot_52 : decode cX8_whyNot 52 = .ok (.if_icmp .ne 7, 3) := D_X8_whyNot_0.2.2.2.2.2.2.2.2.2.2.2.2.2.2.2.2.2.2.2.2.2.2.2.2.2.2.2.2.2.2.2.2.1
theorem e_X8_whyNot_55 : decode cX8_whyNot 55 = .ok (.iconst 2, 1) := D_X8_whyNot_0.2.2.2.2.2.2.2.2.2.2.2.2.2.2.2.2.2.2.2.2.2.2.2.2.2.2.2.2.2.2.2.2.2.1
theorem e_X8_whyNot_56 : decode cX8_whyNot 56 = .ok (.goto 25, 3) := D_X8_whyNot_0.2.2.2.2.2.2.2.2.2.2.2.2.2.2.2.2.2.2.2.2.2.2.2.2.2.2.2.2.2.2.2.2.2.2.1
theorem e_X8_whyNot_59 : decode cX8_whyNot 59 = .ok (.iload 4, 2) := D_X8_whyNot_0.2.2.2.2.2.2.2.2.2.2.2.2.2.2.2.2.2.2.2.2.2.2.2.2.2.2.2.2.2.2.2.2.2.2.2.1
theorem e_X8_whyNot_61 : decode cX8_whyNot 61 = .ok (.iconst 1, 1) := D_X8_whyNot_0.2.2.2.2.2.2.2.2.2.2.2.2.2.2.2.2.2.2.2.2.2.2.2.2.2.2.2.2.2.2.2.2.2.2.2.2.1
theorem e_X8_whyNot_62 : decode cX8_whyNot 62 = .ok (.if_icmp .ne 7, 3) := D_X8_whyNot_0.2.2.2.2.2.2.2.2.2.2.2.2.2.2.2.2.2.2.2.2.2.2.2.2.2.2.2.2.2.2.2.2.2.2.2.2.2.1
theorem e_X8_whyNot_65 : decode cX8_whyNot 65 = .ok (.iconst 3, 1) := D_X8_whyNot_0.2.2.2.2.2.2.2.2.2.2.2.2.2.2.2.2.2.2.2.2.2.2.2.2.2.2.2.2.2.2.2.2.2.2.2.2.2.2.1
theorem e_X8_whyNot_66 : decode cX8_whyNot 66 = .ok (.goto 15, 3) := D_X8_whyNot_0.2.2.2.2.2.2.2.2.2.2.2.2.2.2.2.2.2.2.2.2.2.2.2.2.2.2.2.2.2.2.2.2.2.2.2.2.2.2.2.1
set_option maxRecDepth 100000 in
theorem D_X8_whyNot_1 : decode cX8_whyNot 69 = .ok (.iload 4, 2) ∧ decode cX8_whyNot 71 = .ok (.iload 5, 2) ∧ decode cX8_whyNot 73 = .ok (.if_icmp .le 7, 3) ∧ decode cX8_whyNot 76 = .ok (.iconst 4, 1) ∧ decode cX8_whyNot 77 = .ok (.goto 4, 3) ∧ decode cX8_whyNot 80 = .ok (.iconst 0, 1) ∧ decode cX8_whyNot 81 = .ok (.ireturn, 1) ∧ True := dq_of (l := (69, .iload 4, 2) :: (71, .iload 5, 2) :: (73, .if_icmp .le 7, 3) :: (76, .iconst 4, 1) :: (77, .goto 4, 3) :: (80, .iconst 0, 1) :: (81, .ireturn, 1) :: []) (by decide +kernel)
theorem e_X8_whyNot_69 : decode cX8_whyNot 69 = .ok (.iload 4, 2) := D_X8_whyNot_1.1
theorem e_X8_whyNot_71 : decode cX8_whyNot 71 = .ok (.iload 5, 2) := D_X8_whyNot_1.2.1
theorem e_X8_whyNot_73 : decode cX8_whyNot 73 = .ok (.if_icmp .le 7, 3) := D_X8_whyNot_1.2.2.1
theorem e_X8_whyNot_76 : decode cX8_whyNot 76 = .ok (.iconst 4, 1) := D_X8_whyNot_1.2.2.2.1
theorem e_X8_whyNot_77 : decode cX8_whyNot 77 = .ok (.goto 4, 3) := D_X8_whyNot_1.2.2.2.2.1
theorem e_X8_whyNot_80 : decode cX8_whyNot 80 = .ok (.iconst 0, 1) := D_X8_whyNot_1.2.2.2.2.2.1
theorem e_X8_whyNot_81 : decode cX8_whyNot 81 = .ok (.ireturn, 1) := D_X8_whyNot_1.2.2.2.2.2.2.1
set_option maxRecDepth 100000 in
theorem D_X8_comes_0 : decode cX8_comes 0 = .ok (.aload_n 0, 1) ∧ decode cX8_comes 1 = .ok (.getfield 7, 3) ∧ decode cX8_comes 4 = .ok (.iconst 0, 1) ∧ decode cX8_comes 5 = .ok (.iaload, 1) ∧ decode cX8_comes 6 = .ok (.invokestatic 60, 3) ∧ decode cX8_comes 9 = .ok (.istore 6, 2) ∧ decode cX8_comes 11 = .ok (.aload_n 0, 1) ∧ decode cX8_comes 12 = .ok (.getfield 7, 3) ∧ decode cX8_comes 15 = .ok (.iload 6, 2) ∧ decode cX8_comes 17 = .ok (.iconst 0, 1) ∧ decode cX8_comes 18 = .ok (.iadd, 1) ∧ decode cX8_comes 19 = .ok (.aload_n 0, 1) ∧ decode cX8_comes 20 = .ok (.getfield 7, 3) ∧ decode cX8_comes 23 = .ok (.iconst 1, 1) ∧ decode cX8_comes 24 = .ok (.iaload, 1) ∧ decode cX8_comes 25 = .ok (.iastore, 1) ∧ decode cX8_comes 26 = .ok (.aload_n 0, 1) ∧ decode cX8_comes 27 = .ok (.getfield 7, 3) ∧ decode cX8_comes 30 = .ok (.iload 6, 2) ∧ decode cX8_comes 32 = .ok (.iconst 1, 1) ∧ decode cX8_comes 33 = .ok (.iadd, 1) ∧ decode cX8_comes 34 = .ok (.iload_n 1, 1) ∧ decode cX8_comes 35 = .ok (.iastore, 1) ∧ decode cX8_comes 36 = .ok (.aload_n 0, 1) ∧ decode cX8_comes 37 = .ok (.getfield 7, 3) ∧ decode cX8_comes 40 = .ok (.iload 6, 2) ∧ decode cX8_comes 42 = .ok (.iconst 2, 1) ∧ decode cX8_comes 43 = .ok (.iadd, 1) ∧ decode cX8_comes 44 = .ok (.iload_n 2, 1) ∧ decode cX8_comes 45 = .ok (.iastore, 1) ∧ decode cX8_comes 46 = .ok (.aload_n 0, 1) ∧ decode cX8_comes 47 = .ok (.getfield 7, 3) ∧ decode cX8_comes 50 = .ok (.iload 6, 2) ∧ decode cX8_comes 52 = .ok (.iconst 3, 1) ∧ decode cX8_comes 53 = .ok (.iadd, 1) ∧ decode cX8_comes 54 = .ok (.iload_n 3, 1) ∧ decode cX8_comes 55 = .ok (.iastore, 1) ∧ decode cX8_comes 56 = .ok (.aload_n 0, 1) ∧ decode cX8_comes 57 = .ok (.getfield 7, 3) ∧ decode cX8_comes 60 = .ok (.iload 6, 2) ∧ True := dq_of (l := (0, .aload_n 0, 1) :: (1, .getfield 7, 3) :: (4, .iconst 0, 1) :: (5, .iaload, 1) :: (6, .invokestatic 60, 3) :: (9, .istore 6, 2) :: (11, .aload_n 0, 1) :: (12, .getfield 7, 3) :: (15, .iload 6, 2) :: (17, .iconst 0, 1) :: (18, .iadd, 1) :: (19, .aload_n 0, 1) :: (20, .getfield 7, 3) :: (23, .iconst 1, 1) :: (24, .iaload, 1) :: (25, .iastore, 1) :: (26, .aload_n 0, 1) :: (27, .getfield 7, 3) :: (30, .iload 6, 2) :: (32, .iconst 1, 1) :: (33, .iadd, 1) :: (34, .iload_n 1, 1) :: (35, .iastore, 1) :: (36, .aload_n 0, 1) :: (37, .getfield 7, 3) :: (40, .iload 6, 2) :: (42, .iconst 2, 1) :: (43, .iadd, 1) :: (44, .iload_n 2, 1) :: (45, .iastore, 1) :: (46, .aload_n 0, 1) :: (47, .getfield 7, 3) :: (50, .iload 6, 2) :: (52, .iconst 3, 1) :: (53, .iadd, 1) :: (54, .iload_n 3, 1) :: (55, .iastore, 1) :: (56, .aload_n 0, 1) :: (57, .getfield 7, 3) :: (60, .iload 6, 2) :: []) (by decide +kernel)
theorem e_X8_comes_0 : decode cX8_comes 0 = .ok (.aload_n 0, 1) := D_X8_comes_0.1
theorem e_X8_comes_1 : decode cX8_comes 1 = .ok (.getfield 7, 3) := D_X8_comes_0.2.1
theorem e_X8_comes_4 : decode cX8_comes 4 = .ok (.iconst 0, 1) := D_X8_comes_0.2.2.1
theorem e_X8_comes_5 : decode cX8_comes 5 = .ok (.iaload, 1) := D_X8_comes_0.2.2.2.1
theorem e_X8_comes_6 : decode cX8_comes 6 = .ok (.invokestatic 60, 3) := D_X8_comes_0.2.2.2.2.1
theorem e_X8_comes_9 : decode cX8_comes 9 = .ok (.istore 6, 2) := D_X8_comes_0.2.2.2.2.2.1
theorem e_X8_comes_11 : decode cX8_comes 11 = .ok (.aload_n 0, 1) := D_X8_comes_0.2.2.2.2.2.2.1
theorem e_X8_comes_12 : decode cX8_comes 12 = .ok (.getfield 7, 3) := D_X8_comes_0.2.2.2.2.2.2.2.1
theorem e_X8_comes_15 : decode cX8_comes 15 = .ok (.iload 6, 2) := D_X8_comes_0.2.2.2.2.2.2.2.2.1
theorem e_X8_comes_17 : decode cX8_comes 17 = .ok (.iconst 0, 1) := D_X8_comes_0.2.2.2.2.2.2.2.2.2.1
theorem e_X8_comes_18 : decode cX8_comes 18 = .ok (.iadd, 1) := D_X8_comes_0.2.2.2.2.2.2.2.2.2.2.1
theorem e_X8_comes_19 : decode cX8_comes 19 = .ok (.aload_n 0, 1) := D_X8_comes_0.2.2.2.2.2.2.2.2.2.2.2.1
theorem e_X8_comes_20 : decode cX8_comes 20 = .ok (.getfield 7, 3) := D_X8_comes_0.2.2.2.2.2.2.2.2.2.2.2.2.1
theorem e_X8_comes_23 : decode cX8_comes 23 = .ok (.iconst 1, 1) := D_X8_comes_0.2.2.2.2.2.2.2.2.2.2.2.2.2.1
theorem e_X8_comes_24 : decode cX8_comes 24 = .ok (.iaload, 1) := D_X8_comes_0.2.2.2.2.2.2.2.2.2.2.2.2.2.2.1
theorem e_X8_comes_25 : decode cX8_comes 25 = .ok (.iastore, 1) := D_X8_comes_0.2.2.2.2.2.2.2.2.2.2.2.2.2.2.2.1
theorem e_X8_comes_26 : decode cX8_comes 26 = .ok (.aload_n 0, 1) := D_X8_comes_0.2.2.2.2.2.2.2.2.2.2.2.2.2.2.2.2.1
theorem e_X8_comes_27 : decode cX8_comes 27 = .ok (.getfield 7, 3) := D_X8_comes_0.2.2.2.2.2.2.2.2.2.2.2.2.2.2.2.2.2.1
theorem e_X8_comes_30 : decode cX8_comes 30 = .ok (.iload 6, 2) := D_X8_comes_0.2.2.2.2.2.2.2.2.2.2.2.2.2.2.2.2.2.2.1
theorem e_X8_comes_32 : decode cX8_comes 32 = .ok (.iconst 1, 1) := D_X8_comes_0.2.2.2.2.2.2.2.2.2.2.2.2.2.2.2.2.2.2.2.1
theorem e_X8_comes_33 : decode cX8_comes 33 = .ok (.iadd, 1) := D_X8_comes_0.2.2.2.2.2.2.2.2.2.2.2.2.2.2.2.2.2.2.2.2.1
theorem e_X8_comes_34 : decode cX8_comes 34 = .ok (.iload_n 1, 1) := D_X8_comes_0.2.2.2.2.2.2.2.2.2.2.2.2.2.2.2.2.2.2.2.2.2.1
theorem e_X8_comes_35 : decode cX8_comes 35 = .ok (.iastore, 1) := D_X8_comes_0.2.2.2.2.2.2.2.2.2.2.2.2.2.2.2.2.2.2.2.2.2.2.1
theorem e_X8_comes_36 : decode cX8_comes 36 = .ok (.aload_n 0, 1) := D_X8_comes_0.2.2.2.2.2.2.2.2.2.2.2.2.2.2.2.2.2.2.2.2.2.2.2.1
theorem e_X8_comes_37 : decode cX8_comes 37 = .ok (.getfield 7, 3) := D_X8_comes_0.2.2.2.2.2.2.2.2.2.2.2.2.2.2.2.2.2.2.2.2.2.2.2.2.1
theorem e_X8_comes_40 : decode cX8_comes 40 = .ok (.iload 6, 2) := D_X8_comes_0.2.2.2.2.2.2.2.2.2.2.2.2.2.2.2.2.2.2.2.2.2.2.2.2.2.1
theorem e_X8_comes_42 : decode cX8_comes 42 = .ok (.iconst 2, 1) := D_X8_comes_0.2.2.2.2.2.2.2.2.2.2.2.2.2.2.2.2.2.2.2.2.2.2.2.2.2.2.1
theorem e_X8_comes_43 : decode cX8_comes 43 = .ok (.iadd, 1) := D_X8_comes_0.2.2.2.2.2.2.2.2.2.2.2.2.2.2.2.2.2.2.2.2.2.2.2.2.2.2.2.1
theorem e_X8_comes_44 : decode cX8_comes 44 = .ok (.iload_n 2, 1) := D_X8_comes_0.2.2.2.2.2.2.2.2.2.2.2.2.2.2.2.2.2.2.2.2.2.2.2.2.2.2.2.2.1
theorem e_X8_comes_45 : decode cX8_comes 45 = .ok (.iastore, 1) := D_X8_comes_0.2.2.2.2.2.2.2.2.2.2.2.2.2.2.2.2.2.2.2.2.2.2.2.2.2.2.2.2.2.1
theorem e_X8_comes_46 : decode cX8_comes 46 = .ok (.aload_n 0, 1) := D_X8_comes_0.2.2.2.2.2.2.2.2.2.2.2.2.2.2.2.2.2.2.2.2.2.2.2.2.2.2.2.2.2.2.1
theorem e_X8_comes_47 : decode cX8_comes 47 = .ok (.getfield 7, 3) := D_X8_comes_0.2.2.2.2.2.2.2.2.2.2.2.2.2.2.2.2.2.2.2.2.2.2.2.2.2.2.2.2.2.2.2.1
theorem e_X8_comes_50 : decode cX8_comes 50 = .ok (.iload 6, 2) := D_X8_comes_0.2.2.2.2.2.2.2.2.2.2.2.2.2.2.2.2.2.2.2.2.2.2.2.2.2.2.2.2.2.2.2.2.1
theorem e_X8_comes_52 : decode cX8_comes 52 = .ok (.iconst 3, 1) := D_X8_comes_0.2.2.2.2.2.2.2.2.2.2.2.2.2.2.2.2.2.2.2.2.2.2.2.2.2.2.2.2.2.2.2.2.2.1
theorem e_X8_comes_53 : decode cX8_comes 53 = .ok (.iadd, 1) := D_X8_comes_0.2.2.2.2.2.2.2.2.2.2.2.2.2.2.2.2.2.2.2.2.2.2.2.2.2.2.2.2.2.2.2.2.2.2.1
theorem e_X8_comes_54 : decode cX8_comes 54 = .ok (.iload_n 3, 1) := D_X8_comes_0.2.2.2.2.2.2.2.2.2.2.2.2.2.2.2.2.2.2.2.2.2.2.2.2.2.2.2.2.2.2.2.2.2.2.2.1
theorem e_X8_comes_55 : decode cX8_comes 55 = .ok (.iastore, 1) := D_X8_comes_0.2.2.2.2.2.2.2.2.2.2.2.2.2.2.2.2.2.2.2.2.2.2.2.2.2.2.2.2.2.2.2.2.2.2.2.2.1
theorem e_X8_comes_56 : decode cX8_comes 56 = .ok (.aload_n 0, 1) := D_X8_comes_0.2.2.2.2.2.2.2.2.2.2.2.2.2.2.2.2.2.2.2.2.2.2.2.2.2.2.2.2.2.2.2.2.2.2.2.2.2.1
theorem e_X8_comes_57 : decode cX8_comes 57 = .ok (.getfield 7, 3) := D_X8_comes_0.2.2.2.2.2.2.2.2.2.2.2.2.2.2.2.2.2.2.2.2.2.2.2.2.2.2.2.2.2.2.2.2.2.2.2.2.2.2.1
theorem e_X8_comes_60 : decode cX8_comes 60 = .ok (.iload 6, 2) := D_X8_comes_0.2.2.2.2.2.2.2.2.2.2.2.2.2.2.2.2.2.2.2.2.2.2.2.2.2.2.2.2.2.2.2.2.2.2.2.2.2.2.2.1
set_option maxRecDepth 100000 in
theorem D_X8_comes_1 : decode cX8_comes 62 = .ok (.iconst 4, 1) ∧ decode cX8_comes 63 = .ok (.iadd, 1) ∧ decode cX8_comes 64 = .ok (.iload 4, 2) ∧ decode cX8_comes 66 = .ok (.iastore, 1) ∧ decode cX8_comes 67 = .ok (.aload_n 0, 1) ∧ decode cX8_comes 68 = .ok (.getfield 7, 3) ∧ decode cX8_comes 71 = .ok (.iload 6, 2) ∧ decode cX8_comes 73 = .ok (.iconst 5, 1) ∧ decode cX8_comes 74 = .ok (.iadd, 1) ∧ decode cX8_comes 75 = .ok (.iload 5, 2) ∧ decode cX8_comes 77 = .ok (.iastore, 1) ∧ decode cX8_comes 78 = .ok (.bipush 6, 2) ∧ decode cX8_comes 80 = .ok (.istore 7, 2) ∧ decode cX8_comes 82 = .ok (.iload 7, 2) ∧ decode cX8_comes 84 = .ok (.bipush 9, 2) ∧ decode cX8_comes 86 = .ok (.if_icmp .gt 20, 3) ∧ decode cX8_comes 89 = .ok (.aload_n 0, 1) ∧ decode cX8_comes 90 = .ok (.getfield 7, 3) ∧ decode cX8_comes 93 = .ok (.iload 6, 2) ∧ decode cX8_comes 95 = .ok (.iload 7, 2) ∧ decode cX8_comes 97 = .ok (.iadd, 1) ∧ decode cX8_comes 98 = .ok (.iconst 0, 1) ∧ decode cX8_comes 99 = .ok (.iastore, 1) ∧ decode cX8_comes 100 = .ok (.iinc 7 1, 3) ∧ decode cX8_comes 103 = .ok (.goto (-21), 3) ∧ decode cX8_comes 106 = .ok (.aload_n 0, 1) ∧ decode cX8_comes 107 = .ok (.getfield 7, 3) ∧ decode cX8_comes 110 = .ok (.iconst 0, 1) ∧ decode cX8_comes 111 = .ok (.dup2, 1) ∧ decode cX8_comes 112 = .ok (.iaload, 1) ∧ decode cX8_comes 113 = .ok (.iconst 1, 1) ∧ decode cX8_comes 114 = .ok (.iadd, 1) ∧ decode cX8_comes 115 = .ok (.iastore, 1) ∧ decode cX8_comes 116 = .ok (.aload_n 0, 1) ∧ decode cX8_comes 117 = .ok (.getfield 7, 3) ∧ decode cX8_comes 120 = .ok (.iconst 1, 1) ∧ decode cX8_comes 121 = .ok (.dup2, 1) ∧ decode cX8_comes 122 = .ok (.iaload, 1) ∧ decode cX8_comes 123 = .ok (.iconst 1, 1) ∧ decode cX8_comes 124 = .ok (.iadd, 1) ∧ True := dq_of (l := (62, .iconst 4, 1) :: (63, .iadd, 1) :: (64, .iload 4, 2) :: (66, .iastore, 1) :: (67, .aload_n 0, 1) :: (68, .getfield 7, 3) :: (71, .iload 6, 2) :: (73, .iconst 5, 1) :: (74, .iadd, 1) :: (75, .iload 5, 2) :: (77, .iastore, 1) :: (78, .bipush 6, 2) :: (80, .istore 7, 2) :: (82, .iload 7, 2) :: (84, .bipush 9, 2) :: (86, .if_icmp .gt 20, 3) :: (89, .aload_n 0, 1) :: (90, .getfield 7, 3) :: (93, .iload 6, 2) :: (95, .iload 7, 2) :: (97, .iadd, 1) :: (98, .iconst 0, 1) :: (99, .iastore, 1) :: (100, .iinc 7 1, 3) :: (103, .goto (-21), 3) :: (106, .aload_n 0, 1) :: (107, .getfield 7, 3) :: (110, .iconst 0, 1) :: (111, .dup2, 1) :: (112, .iaload, 1) :: (113, .iconst 1, 1) :: (114, .iadd, 1) :: (115, .iastore, 1) :: (116, .aload_n 0, 1) :: (117, .getfield 7, 3) :: (120, .iconst 1, 1) :: (121, .dup2, 1) :: (122, .iaload, 1) :: (123, .iconst 1, 1) :: (124, .iadd, 1) :: []) (by decide +kernel)
theorem e_X8_comes_62 : decode cX8_comes 62 = .ok (.iconst 4, 1) := D_X8_comes_1.1
theorem e_X8_comes_63 : decode cX8_comes 63 = .ok (.iadd, 1) := D_X8_comes_1.2.1
theorem e_X8_comes_64 : decode cX8_comes 64 = .ok (.iload 4, 2) := D_X8_comes_1.2.2.1
theorem e_X8_comes_66 : decode cX8_comes 66 = .ok (.iastore, 1) := D_X8_comes_1.2.2.2.1
theorem e_X8_comes_67 : decode cX8_comes 67 = .ok (.aload_n 0, 1) := D_X8_comes_1.2.2.2.2.1
theorem e_X8_comes_68 : decode cX8_comes 68 = .ok (.getfield 7, 3) := D_X8_comes_1.2.2.2.2.2.1
theorem e_X8_comes_71 : decode cX8_comes 71 = .ok (.iload 6, 2) := D_X8_comes_1.2.2.2.2.2.2.1
theorem e_X8_comes_73 : decode cX8_comes 73 = .ok (.iconst 5, 1) := D_X8_comes_1.2.2.2.2.2.2.2.1
theorem e_X8_comes_74 : decode cX8_comes 74 = .ok (.iadd, 1) := D_X8_comes_1.2.2.2.2.2.2.2.2.1
theorem e_X8_comes_75 : decode cX8_comes 75 = .ok (.iload 5, 2) := D_X8_comes_1.2.2.2.2.2.2.2.2.2.1
theorem e_X8_comes_77 : decode cX8_comes 77 = .ok (.iastore, 1) := D_X8_comes_1.2.2.2.2.2.2.2.2.2.2.1
theorem e_X8_comes_78 : decode cX8_comes 78 = .ok (.bipush 6, 2) := D_X8_comes_1.2.2.2.2.2.2.2.2.2.2.2.1
theorem e_X8_comes_80 : decode cX8_comes 80 = .ok (.istore 7, 2) := D_X8_comes_1.2.2.2.2.2.2.2.2.2.2.2.2.1
theorem e_X8_comes_82 : decode cX8_comes 82 = .ok (.iload 7, 2) := D_X8_comes_1.2.2.2.2.2.2.2.2.2.2.2.2.2.1
theorem e_X8_comes_84 : decode cX8_comes 84 = .ok (.bipush 9, 2) := D_X8_comes_1.2.2.2.2.2.2.2.2.2.2.2.2.2.2.1
theorem e_X8_comes_86 : decode cX8_comes 86 = .ok (.if_icmp .gt 20, 3) := D_X8_comes_1.2.2.2.2.2.2.2.2.2.2.2.2.2.2.2.1
theorem e_X8_comes_89 : decode cX8_comes 89 = .ok (.aload_n 0, 1) := D_X8_comes_1.2.2.2.2.2.2.2.2.2.2.2.2.2.2.2.2.1
theorem e_X8_comes_90 : decode cX8_comes 90 = .ok (.getfield 7, 3) := D_X8_comes_1.2.2.2.2.2.2.2.2.2.2.2.2.2.2.2.2.2.1
theorem e_X8_comes_93 : decode cX8_comes 93 = .ok (.iload 6, 2) := D_X8_comes_1.2.2.2.2.2.2.2.2.2.2.2.2.2.2.2.2.2.2.1
theorem e_X8_comes_95 : decode cX8_comes 95 = .ok (.iload 7, 2) := D_X8_comes_1.2.2.2.2.2.2.2.2.2.2.2.2.2.2.2.2.2.2.2.1
theorem e_X8_comes_97 : decode cX8_comes 97 = .ok (.iadd, 1) := D_X8_comes_1.2.2.2.2.2.2.2.2.2.2.2.2.2.2.2.2.2.2.2.2.1
theorem e_X8_comes_98 : decode cX8_comes 98 = .ok (.iconst 0, 1) := D_X8_comes_1.2.2.2.2.2.2.2.2.2.2.2.2.2.2.2.2.2.2.2.2.2.1
theorem e_X8_comes_99 : decode cX8_comes 99 = .ok (.iastore, 1) := D_X8_comes_1.2.2.2.2.2.2.2.2.2.2.2.2.2.2.2.2.2.2.2.2.2.2.1
theorem e_X8_comes_100 : decode cX8_comes 100 = .ok (.iinc 7 1, 3) := D_X8_comes_1.2.2.2.2.2.2.2.2.2.2.2.2.2.2.2.2.2.2.2.2.2.2.2.1
theorem e_X8_comes_103 : decode cX8_comes 103 = .ok (.goto (-21), 3) := D_X8_comes_1.2.2.2.2.2.2.2.2.2.2.2.2.2.2.2.2.2.2.2.2.2.2.2.2.1
theorem e_X8_comes_106 : decode cX8_comes 106 = .ok (.aload_n 0, 1) := D_X8_comes_1.2.2.2.2.2.2.2.2.2.2.2.2.2.2.2.2.2.2.2.2.2.2.2.2.2.1
theorem e_X8_comes_107 : decode cX8_comes 107 = .ok (.getfield 7, 3) := D_X8_comes_1.2.2.2.2.2.2.2.2.2.2.2.2.2.2.2.2.2.2.2.2.2.2.2.2.2.2.1
theorem e_X8_comes_110 : decode cX8_comes 110 = .ok (.iconst 0, 1) := D_X8_comes_1.2.2.2.2.2.2.2.2.2.2.2.2.2.2.2.2.2.2.2.2.2.2.2.2.2.2.2.1
theorem e_X8_comes_111 : decode cX8_comes 111 = .ok (.dup2, 1) := D_X8_comes_1.2.2.2.2.2.2.2.2.2.2.2.2.2.2.2.2.2.2.2.2.2.2.2.2.2.2.2.2.1
theorem e_X8_comes_112 : decode cX8_comes 112 = .ok (.iaload, 1) := D_X8_comes_1.2.2.2.2.2.2.2.2.2.2.2.2.2.2.2.2.2.2.2.2.2.2.2.2.2.2.2.2.2.1
theorem e_X8_comes_113 : decode cX8_comes 113 = .ok (.iconst 1, 1) := D_X8_comes_1.2.2.2.2.2.2.2.2.2.2.2.2.2.2.2.2.2.2.2.2.2.2.2.2.2.2.2.2.2.2.1
theorem e_X8_comes_114 : decode cX8_comes 114 = .ok (.iadd, 1) := D_X8_comes_1.2.2.2.2.2.2.2.2.2.2.2.2.2.2.2.2.2.2.2.2.2.2.2.2.2.2.2.2.2.2.2.1
theorem e_X8_comes_115 : decode cX8_comes 115 = .ok (.iastore, 1) := D_X8_comes_1.2.2.2.2.2.2.2.2.2.2.2.2.2.2.2.2.2.2.2.2.2.2.2.2.2.2.2.2.2.2.2.2.1
theorem e_X8_comes_116 : decode cX8_comes 116 = .ok (.aload_n 0, 1) := D_X8_comes_1.2.2.2.2.2.2.2.2.2.2.2.2.2.2.2.2.2.2.2.2.2.2.2.2.2.2.2.2.2.2.2.2.2.1
theorem e_X8_comes_117 : decode cX8_comes 117 = .ok (.getfield 7, 3) := D_X8_comes_1.2.2.2.2.2.2.2.2.2.2.2.2.2.2.2.2.2.2.2.2.2.2.2.2.2.2.2.2.2.2.2.2.2.2.1
theorem e_X8_comes_120 : decode cX8_comes 120 = .ok (.iconst 1, 1) := D_X8_comes_1.2.2.2.2.2.2.2.2.2.2.2.2.2.2.2.2.2.2.2.2.2.2.2.2.2.2.2.2.2.2.2.2.2.2.2.1
theorem e_X8_comes_121 : decode cX8_comes 121 = .ok (.dup2, 1) := D_X8_comes_1.2.2.2.2.2.2.2.2.2.2.2.2.2.2.2.2.2.2.2.2.2.2.2.2.2.2.2.2.2.2.2.2.2.2.2.2.1
theorem e_X8_comes_122 : decode cX8_comes 122 = .ok (.iaload, 1) := D_X8_comes_1.2.2.2.2.2.2.2.2.2.2.2.2.2.2.2.2.2.2.2.2.2.2.2.2.2.2.2.2.2.2.2.2.2.2.2.2.2.1
theorem e_X8_comes_123 : decode cX8_comes 123 = .ok (.iconst 1, 1) := D_X8_comes_1.2.2.2.2.2.2.2.2.2.2.2.2.2.2.2.2.2.2.2.2.2.2.2.2.2.2.2.2.2.2.2.2.2.2.2.2.2.2.1
theorem e_X8_comes_124 : decode cX8_comes 124 = .ok (.iadd, 1) := D_X8_comes_1.2.2.2.2.2.2.2.2.2.2.2.2.2.2.2.2.2.2.2.2.2.2.2.2.2.2.2.2.2.2.2.2.2.2.2.2.2.2.2.1
set_option maxRecDepth 100000 in
theorem D_X8_comes_2 : decode cX8_comes 125 = .ok (.iastore, 1) ∧ decode cX8_comes 126 = .ok (.aload_n 0, 1) ∧ decode cX8_comes 127 = .ok (.getfield 7, 3) ∧ decode cX8_comes 130 = .ok (.iconst 1, 1) ∧ decode cX8_comes 131 = .ok (.iaload, 1) ∧ decode cX8_comes 132 = .ok (.iconst 1, 1) ∧ decode cX8_comes 133 = .ok (.isub, 1) ∧ decode cX8_comes 134 = .ok (.ireturn, 1) ∧ True := dq_of (l := (125, .iastore, 1) :: (126, .aload_n 0, 1) :: (127, .getfield 7, 3) :: (130, .iconst 1, 1) :: (131, .iaload, 1) :: (132, .iconst 1, 1) :: (133, .isub, 1) :: (134, .ireturn, 1) :: []) (by decide +kernel)
theorem e_X8_comes_125 : decode cX8_comes 125 = .ok (.iastore, 1) := D_X8_comes_2.1
theorem e_X8_comes_126 : decode cX8_comes 126 = .ok (.aload_n 0, 1) := D_X8_comes_2.2.1
theorem e_X8_comes_127 : decode cX8_comes 127 = .ok (.getfield 7, 3) := D_X8_comes_2.2.2.1
theorem e_X8_comes_130 : decode cX8_comes 130 = .ok (.iconst 1, 1) := D_X8_comes_2.2.2.2.1
theorem e_X8_comes_131 : decode cX8_comes 131 = .ok (.iaload, 1) := D_X8_comes_2.2.2.2.2.1
theorem e_X8_comes_132 : decode cX8_comes 132 = .ok (.iconst 1, 1) := D_X8_comes_2.2.2.2.2.2.1
theorem e_X8_comes_133 : decode cX8_comes 133 = .ok (.isub, 1) := D_X8_comes_2.2.2.2.2.2.2.1
theorem e_X8_comes_134 : decode cX8_comes 134 = .ok (.ireturn, 1) := D_X8_comes_2.2.2.2.2.2.2.2.1
set_option maxRecDepth 100000 in
theorem D_X8_isPages_0 : decode cX8_isPages 0 = .ok (.iload_n 0, 1) ∧ decode cX8_isPages 1 = .ok (.iconst 1, 1) ∧ decode cX8_isPages 2 = .ok (.sipush 200, 3) ∧ decode cX8_isPages 5 = .ok (.invokestatic 32, 3) ∧ decode cX8_isPages 8 = .ok (.ireturn, 1) ∧ True := dq_of (l := (0, .iload_n 0, 1) :: (1, .iconst 1, 1) :: (2, .sipush 200, 3) :: (5, .invokestatic 32, 3) :: (8, .ireturn, 1) :: []) (by decide +kernel)
theorem e_X8_isPages_0 : decode cX8_isPages 0 = .ok (.iload_n 0, 1) := D_X8_isPages_0.1
theorem e_X8_isPages_1 : decode cX8_isPages 1 = .ok (.iconst 1, 1) := D_X8_isPages_0.2.1
theorem e_X8_isPages_2 : decode cX8_isPages 2 = .ok (.sipush 200, 3) := D_X8_isPages_0.2.2.1
theorem e_X8_isPages_5 : decode cX8_isPages 5 = .ok (.invokestatic 32, 3) := D_X8_isPages_0.2.2.2.1
theorem e_X8_isPages_8 : decode cX8_isPages 8 = .ok (.ireturn, 1) := D_X8_isPages_0.2.2.2.2.1
set_option maxRecDepth 100000 in
theorem D_X8_isCopies_0 : decode cX8_isCopies 0 = .ok (.iload_n 0, 1) ∧ decode cX8_isCopies 1 = .ok (.iconst 1, 1) ∧ decode cX8_isCopies 2 = .ok (.bipush 50, 2) ∧ decode cX8_isCopies 4 = .ok (.invokestatic 32, 3) ∧ decode cX8_isCopies 7 = .ok (.ireturn, 1) ∧ True := dq_of (l := (0, .iload_n 0, 1) :: (1, .iconst 1, 1) :: (2, .bipush 50, 2) :: (4, .invokestatic 32, 3) :: (7, .ireturn, 1) :: []) (by decide +kernel)
theorem e_X8_isCopies_0 : decode cX8_isCopies 0 = .ok (.iload_n 0, 1) := D_X8_isCopies_0.1
theorem e_X8_isCopies_1 : decode cX8_isCopies 1 = .ok (.iconst 1, 1) := D_X8_isCopies_0.2.1
theorem e_X8_isCopies_2 : decode cX8_isCopies 2 = .ok (.bipush 50, 2) := D_X8_isCopies_0.2.2.1
theorem e_X8_isCopies_4 : decode cX8_isCopies 4 = .ok (.invokestatic 32, 3) := D_X8_isCopies_0.2.2.2.1
theorem e_X8_isCopies_7 : decode cX8_isCopies 7 = .ok (.ireturn, 1) := D_X8_isCopies_0.2.2.2.2.1
set_option maxRecDepth 100000 in
theorem D_X8_job_0 : decode cX8_job 0 = .ok (.iload_n 1, 1) ∧ decode cX8_job 1 = .ok (.invokestatic 70, 3) ∧ decode cX8_job 4 = .ok (.ifCond .eq 30, 3) ∧ decode cX8_job 7 = .ok (.iload_n 2, 1) ∧ decode cX8_job 8 = .ok (.invokestatic 73, 3) ∧ decode cX8_job 11 = .ok (.ifCond .eq 23, 3) ∧ decode cX8_job 14 = .ok (.iload_n 3, 1) ∧ decode cX8_job 15 = .ok (.iload 4, 2) ∧ decode cX8_job 17 = .ok (.invokestatic 43, 3) ∧ decode cX8_job 20 = .ok (.ifCond .eq 14, 3) ∧ decode cX8_job 23 = .ok (.iload 5, 2) ∧ decode cX8_job 25 = .ok (.iconst 0, 1) ∧ decode cX8_job 26 = .ok (.bipush 11, 2) ∧ decode cX8_job 28 = .ok (.invokestatic 32, 3) ∧ decode cX8_job 31 = .ok (.ifCond .ne 5, 3) ∧ decode cX8_job 34 = .ok (.iconst (-1), 1) ∧ decode cX8_job 35 = .ok (.ireturn, 1) ∧ decode cX8_job 36 = .ok (.aload_n 0, 1) ∧ decode cX8_job 37 = .ok (.iload_n 1, 1) ∧ decode cX8_job 38 = .ok (.iload 4, 2) ∧ decode cX8_job 40 = .ok (.iload 5, 2) ∧ decode cX8_job 42 = .ok (.invokevirtual 76, 3) ∧ decode cX8_job 45 = .ok (.istore 6, 2) ∧ decode cX8_job 47 = .ok (.iload 6, 2) ∧ decode cX8_job 49 = .ok (.ifCond .le 12, 3) ∧ decode cX8_job 52 = .ok (.aload_n 0, 1) ∧ decode cX8_job 53 = .ok (.iload 6, 2) ∧ decode cX8_job 55 = .ok (.putfield 19, 3) ∧ decode cX8_job 58 = .ok (.bipush (-2), 2) ∧ decode cX8_job 60 = .ok (.ireturn, 1) ∧ decode cX8_job 61 = .ok (.aload_n 0, 1) ∧ decode cX8_job 62 = .ok (.getfield 7, 3) ∧ decode cX8_job 65 = .ok (.iconst 0, 1) ∧ decode cX8_job 66 = .ok (.iaload, 1) ∧ decode cX8_job 67 = .ok (.bipush 10, 2) ∧ decode cX8_job 69 = .ok (.if_icmp .ne 6, 3) ∧ decode cX8_job 72 = .ok (.bipush (-3), 2) ∧ decode cX8_job 74 = .ok (.ireturn, 1) ∧ decode cX8_job 75 = .ok (.aload_n 0, 1) ∧ decode cX8_job 76 = .ok (.invokevirtual 40, 3) ∧ True := dq_of (l := (0, .iload_n 1, 1) :: (1, .invokestatic 70, 3) :: (4, .ifCond .eq 30, 3) :: (7, .iload_n 2, 1) :: (8, .invokestatic 73, 3) :: (11, .ifCond .eq 23, 3) :: (14, .iload_n 3, 1) :: (15, .iload 4, 2) :: (17, .invokestatic 43, 3) :: (20, .ifCond .eq 14, 3) :: (23, .iload 5, 2) :: (25, .iconst 0, 1) :: (26, .bipush 11, 2) :: (28, .invokestatic 32, 3) :: (31, .ifCond .ne 5, 3) :: (34, .iconst (-1), 1) :: (35, .ireturn, 1) :: (36, .aload_n 0, 1) :: (37, .iload_n 1, 1) :: (38, .iload 4, 2) :: (40, .iload 5, 2) :: (42, .invokevirtual 76, 3) :: (45, .istore 6, 2) :: (47, .iload 6, 2) :: (49, .ifCond .le 12, 3) :: (52, .aload_n 0, 1) :: (53, .iload 6, 2) :: (55, .putfield 19, 3) :: (58, .bipush (-2), 2) :: (60, .ireturn, 1) :: (61, .aload_n 0, 1) :: (62, .getfield 7, 3) :: (65, .iconst 0, 1) :: (66, .iaload, 1) :: (67, .bipush 10, 2) :: (69, .if_icmp .ne 6, 3) :: (72, .bipush (-3), 2) :: (74, .ireturn, 1) :: (75, .aload_n 0, 1) :: (76, .invokevirtual 40, 3) :: []) (by decide +kernel)
theorem e_X8_job_0 : decode cX8_job 0 = .ok (.iload_n 1, 1) := D_X8_job_0.1
theorem e_X8_job_1 : decode cX8_job 1 = .ok (.invokestatic 70, 3) := D_X8_job_0.2.1
theorem e_X8_job_4 : decode cX8_job 4 = .ok (.ifCond .eq 30, 3) := D_X8_job_0.2.2.1
theorem e_X8_job_7 : decode cX8_job 7 = .ok (.iload_n 2, 1) := D_X8_job_0.2.2.2.1
theorem e_X8_job_8 : decode cX8_job 8 = .ok (.invokestatic 73, 3) := D_X8_job_0.2.2.2.2.1
theorem e_X8_job_11 : decode cX8_job 11 = .ok (.ifCond .eq 23, 3) := D_X8_job_0.2.2.2.2.2.1
theorem e_X8_job_14 : decode cX8_job 14 = .ok (.iload_n 3, 1) := D_X8_job_0.2.2.2.2.2.2.1
theorem e_X8_job_15 : decode cX8_job 15 = .ok (.iload 4, 2) := D_X8_job_0.2.2.2.2.2.2.2.1
theorem e_X8_job_17 : decode cX8_job 17 = .ok (.invokestatic 43, 3) := D_X8_job_0.2.2.2.2.2.2.2.2.1
theorem e_X8_job_20 : decode cX8_job 20 = .ok (.ifCond .eq 14, 3) := D_X8_job_0.2.2.2.2.2.2.2.2.2.1
theorem e_X8_job_23 : decode cX8_job 23 = .ok (.iload 5, 2) := D_X8_job_0.2.2.2.2.2.2.2.2.2.2.1
theorem e_X8_job_25 : decode cX8_job 25 = .ok (.iconst 0, 1) := D_X8_job_0.2.2.2.2.2.2.2.2.2.2.2.1
theorem e_X8_job_26 : decode cX8_job 26 = .ok (.bipush 11, 2) := D_X8_job_0.2.2.2.2.2.2.2.2.2.2.2.2.1
theorem e_X8_job_28 : decode cX8_job 28 = .ok (.invokestatic 32, 3) := D_X8_job_0.2.2.2.2.2.2.2.2.2.2.2.2.2.1
theorem e_X8_job_31 : decode cX8_job 31 = .ok (.ifCond .ne 5, 3) := D_X8_job_0.2.2.2.2.2.2.2.2.2.2.2.2.2.2.1
theorem e_X8_job_34 : decode cX8_job 34 = .ok (.iconst (-1), 1) := D_X8_job_0.2.2.2.2.2.2.2.2.2.2.2.2.2.2.2.1
theorem e_X8_job_35 : decode cX8_job 35 = .ok (.ireturn, 1) := D_X8_job_0.2.2.2.2.2.2.2.2.2.2.2.2.2.2.2.2.1
theorem e_X8_job_36 : decode cX8_job 36 = .ok (.aload_n 0, 1) := D_X8_job_0.2.2.2.2.2.2.2.2.2.2.2.2.2.2.2.2.2.1
theorem e_X8_job_37 : decode cX8_job 37 = .ok (.iload_n 1, 1) := D_X8_job_0.2.2.2.2.2.2.2.2.2.2.2.2.2.2.2.2.2.2.1
theorem e_X8_job_38 : decode cX8_job 38 = .ok (.iload 4, 2) := D_X8_job_0.2.2.2.2.2.2.2.2.2.2.2.2.2.2.2.2.2.2.2.1
theorem e_X8_job_40 : decode cX8_job 40 = .ok (.iload 5, 2) := D_X8_job_0.2.2.2.2.2.2.2.2.2.2.2.2.2.2.2.2.2.2.2.2.1
theorem e_X8_job_42 : decode cX8_job 42 = .ok (.invokevirtual 76, 3) := D_X8_job_0.2.2.2.2.2.2.2.2.2.2.2.2.2.2.2.2.2.2.2.2.2.1
theorem e_X8_job_45 : decode cX8_job 45 = .ok (.istore 6, 2) := D_X8_job_0.2.2.2.2.2.2.2.2.2.2.2.2.2.2.2.2.2.2.2.2.2.2.1
theorem e_X8_job_47 : decode cX8_job 47 = .ok (.iload 6, 2) := D_X8_job_0.2.2.2.2.2.2.2.2.2.2.2.2.2.2.2.2.2.2.2.2.2.2.2.1
theorem e_X8_job_49 : decode cX8_job 49 = .ok (.ifCond .le 12, 3) := D_X8_job_0.2.2.2.2.2.2.2.2.2.2.2.2.2.2.2.2.2.2.2.2.2.2.2.2.1
theorem e_X8_job_52 : decode cX8_job 52 = .ok (.aload_n 0, 1) := D_X8_job_0.2.2.2.2.2.2.2.2.2.2.2.2.2.2.2.2.2.2.2.2.2.2.2.2.2.1
theorem e_X8_job_53 : decode cX8_job 53 = .ok (.iload 6, 2) := D_X8_job_0.2.2.2.2.2.2.2.2.2.2.2.2.2.2.2.2.2.2.2.2.2.2.2.2.2.2.1
theorem e_X8_job_55 : decode cX8_job 55 = .ok (.putfield 19, 3) := D_X8_job_0.2.2.2.2.2.2.2.2.2.2.2.2.2.2.2.2.2.2.2.2.2.2.2.2.2.2.2.1
theorem e_X8_job_58 : decode cX8_job 58 = .ok (.bipush (-2), 2) := D_X8_job_0.2.2.2.2.2.2.2.2.2.2.2.2.2.2.2.2.2.2.2.2.2.2.2.2.2.2.2.2.1
theorem e_X8_job_60 : decode cX8_job 60 = .ok (.ireturn, 1) := D_X8_job_0.2.2.2.2.2.2.2.2.2.2.2.2.2.2.2.2.2.2.2.2.2.2.2.2.2.2.2.2.2.1
theorem e_X8_job_61 : decode cX8_job 61 = .ok (.aload_n 0, 1) := D_X8_job_0.2.2.2.2.2.2.2.2.2.2.2.2.2.2.2.2.2.2.2.2.2.2.2.2.2.2.2.2.2.2.1
theorem e_X8_job_62 : decode cX8_job 62 = .ok (.getfield 7, 3) := D_X8_job_0.2.2.2.2.2.2.2.2.2.2.2.2.2.2.2.2.2.2.2.2.2.2.2.2.2.2.2.2.2.2.2.1
theorem e_X8_job_65 : decode cX8_job 65 = .ok (.iconst 0, 1) := D_X8_job_0.2.2.2.2.2.2.2.2.2.2.2.2.2.2.2.2.2.2.2.2.2.2.2.2.2.2.2.2.2.2.2.2.1
theorem e_X8_job_66 : decode cX8_job 66 = .ok (.iaload, 1) := D_X8_job_0.2.2.2.2.2.2.2.2.2.2.2.2.2.2.2.2.2.2.2.2.2.2.2.2.2.2.2.2.2.2.2.2.2.1
theorem e_X8_job_67 : decode cX8_job 67 = .ok (.bipush 10, 2) := D_X8_job_0.2.2.2.2.2.2.2.2.2.2.2.2.2.2.2.2.2.2.2.2.2.2.2.2.2.2.2.2.2.2.2.2.2.2.1
theorem e_X8_job_69 : decode cX8_job 69 = .ok (.if_icmp .ne 6, 3) := D_X8_job_0.2.2.2.2.2.2.2.2.2.2.2.2.2.2.2.2.2.2.2.2.2.2.2.2.2.2.2.2.2.2.2.2.2.2.2.1
theorem e_X8_job_72 : decode cX8_job 72 = .ok (.bipush (-3), 2) := D_X8_job_0.2.2.2.2.2.2.2.2.2.2.2.2.2.2.2.2.2.2.2.2.2.2.2.2.2.2.2.2.2.2.2.2.2.2.2.2.1
theorem e_X8_job_74 : decode cX8_job 74 = .ok (.ireturn, 1) := D_X8_job_0.2.2.2.2.2.2.2.2.2.2.2.2.2.2.2.2.2.2.2.2.2.2.2.2.2.2.2.2.2.2.2.2.2.2.2.2.2.1
theorem e_X8_job_75 : decode cX8_job 75 = .ok (.aload_n 0, 1) := D_X8_job_0.2.2.2.2.2.2.2.2.2.2.2.2.2.2.2.2.2.2.2.2.2.2.2.2.2.2.2.2.2.2.2.2.2.2.2.2.2.2.1
theorem e_X8_job_76 : decode cX8_job 76 = .ok (.invokevirtual 40, 3) := D_X8_job_0.2.2.2.2.2.2.2.2.2.2.2.2.2.2.2.2.2.2.2.2.2.2.2.2.2.2.2.2.2.2.2.2.2.2.2.2.2.2.2.1
set_option maxRecDepth 100000 in
theorem D_X8_job_1 : decode cX8_job 79 = .ok (.aload_n 0, 1) ∧ decode cX8_job 80 = .ok (.iload_n 1, 1) ∧ decode cX8_job 81 = .ok (.iload_n 2, 1) ∧ decode cX8_job 82 = .ok (.iload_n 3, 1) ∧ decode cX8_job 83 = .ok (.iload 4, 2) ∧ decode cX8_job 85 = .ok (.iload 5, 2) ∧ decode cX8_job 87 = .ok (.invokevirtual 80, 3) ∧ decode cX8_job 90 = .ok (.ireturn, 1) ∧ True := dq_of (l := (79, .aload_n 0, 1) :: (80, .iload_n 1, 1) :: (81, .iload_n 2, 1) :: (82, .iload_n 3, 1) :: (83, .iload 4, 2) :: (85, .iload 5, 2) :: (87, .invokevirtual 80, 3) :: (90, .ireturn, 1) :: []) (by decide +kernel)
theorem e_X8_job_79 : decode cX8_job 79 = .ok (.aload_n 0, 1) := D_X8_job_1.1
theorem e_X8_job_80 : decode cX8_job 80 = .ok (.iload_n 1, 1) := D_X8_job_1.2.1
theorem e_X8_job_81 : decode cX8_job 81 = .ok (.iload_n 2, 1) := D_X8_job_1.2.2.1
theorem e_X8_job_82 : decode cX8_job 82 = .ok (.iload_n 3, 1) := D_X8_job_1.2.2.2.1
theorem e_X8_job_83 : decode cX8_job 83 = .ok (.iload 4, 2) := D_X8_job_1.2.2.2.2.1
theorem e_X8_job_85 : decode cX8_job 85 = .ok (.iload 5, 2) := D_X8_job_1.2.2.2.2.2.1
theorem e_X8_job_87 : decode cX8_job 87 = .ok (.invokevirtual 80, 3) := D_X8_job_1.2.2.2.2.2.2.1
theorem e_X8_job_90 : decode cX8_job 90 = .ok (.ireturn, 1) := D_X8_job_1.2.2.2.2.2.2.2.1
set_option maxRecDepth 100000 in
theorem D_X8_refusal_0 : decode cX8_refusal 0 = .ok (.aload_n 0, 1) ∧ decode cX8_refusal 1 = .ok (.getfield 19, 3) ∧ decode cX8_refusal 4 = .ok (.ireturn, 1) ∧ True := dq_of (l := (0, .aload_n 0, 1) :: (1, .getfield 19, 3) :: (4, .ireturn, 1) :: []) (by decide +kernel)
theorem e_X8_refusal_0 : decode cX8_refusal 0 = .ok (.aload_n 0, 1) := D_X8_refusal_0.1
theorem e_X8_refusal_1 : decode cX8_refusal 1 = .ok (.getfield 19, 3) := D_X8_refusal_0.2.1
theorem e_X8_refusal_4 : decode cX8_refusal 4 = .ok (.ireturn, 1) := D_X8_refusal_0.2.2.1
set_option maxRecDepth 100000 in
theorem D_X8_goesJob_0 : decode cX8_goesJob 0 = .ok (.aload_n 0, 1) ∧ decode cX8_goesJob 1 = .ok (.getfield 7, 3) ∧ decode cX8_goesJob 4 = .ok (.iconst 0, 1) ∧ decode cX8_goesJob 5 = .ok (.dup2, 1) ∧ decode cX8_goesJob 6 = .ok (.iaload, 1) ∧ decode cX8_goesJob 7 = .ok (.iconst 1, 1) ∧ decode cX8_goesJob 8 = .ok (.isub, 1) ∧ decode cX8_goesJob 9 = .ok (.iastore, 1) ∧ decode cX8_goesJob 10 = .ok (.iload_n 1, 1) ∧ decode cX8_goesJob 11 = .ok (.invokestatic 60, 3) ∧ decode cX8_goesJob 14 = .ok (.istore_n 2, 1) ∧ decode cX8_goesJob 15 = .ok (.iload_n 2, 1) ∧ decode cX8_goesJob 16 = .ok (.aload_n 0, 1) ∧ decode cX8_goesJob 17 = .ok (.getfield 7, 3) ∧ decode cX8_goesJob 20 = .ok (.iconst 0, 1) ∧ decode cX8_goesJob 21 = .ok (.iaload, 1) ∧ decode cX8_goesJob 22 = .ok (.invokestatic 60, 3) ∧ decode cX8_goesJob 25 = .ok (.if_icmp .ge 24, 3) ∧ decode cX8_goesJob 28 = .ok (.aload_n 0, 1) ∧ decode cX8_goesJob 29 = .ok (.getfield 7, 3) ∧ decode cX8_goesJob 32 = .ok (.iload_n 2, 1) ∧ decode cX8_goesJob 33 = .ok (.aload_n 0, 1) ∧ decode cX8_goesJob 34 = .ok (.getfield 7, 3) ∧ decode cX8_goesJob 37 = .ok (.iload_n 2, 1) ∧ decode cX8_goesJob 38 = .ok (.bipush 10, 2) ∧ decode cX8_goesJob 40 = .ok (.iadd, 1) ∧ decode cX8_goesJob 41 = .ok (.iaload, 1) ∧ decode cX8_goesJob 42 = .ok (.iastore, 1) ∧ decode cX8_goesJob 43 = .ok (.iinc 2 1, 3) ∧ decode cX8_goesJob 46 = .ok (.goto (-31), 3) ∧ decode cX8_goesJob 49 = .ok (.return_, 1) ∧ True := dq_of (l := (0, .aload_n 0, 1) :: (1, .getfield 7, 3) :: (4, .iconst 0, 1) :: (5, .dup2, 1) :: (6, .iaload, 1) :: (7, .iconst 1, 1) :: (8, .isub, 1) :: (9, .iastore, 1) :: (10, .iload_n 1, 1) :: (11, .invokestatic 60, 3) :: (14, .istore_n 2, 1) :: (15, .iload_n 2, 1) :: (16, .aload_n 0, 1) :: (17, .getfield 7, 3) :: (20, .iconst 0, 1) :: (21, .iaload, 1) :: (22, .invokestatic 60, 3) :: (25, .if_icmp .ge 24, 3) :: (28, .aload_n 0, 1) :: (29, .getfield 7, 3) :: (32, .iload_n 2, 1) :: (33, .aload_n 0, 1) :: (34, .getfield 7, 3) :: (37, .iload_n 2, 1) :: (38, .bipush 10, 2) :: (40, .iadd, 1) :: (41, .iaload, 1) :: (42, .iastore, 1) :: (43, .iinc 2 1, 3) :: (46, .goto (-31), 3) :: (49, .return_, 1) :: []) (by decide +kernel)
theorem e_X8_goesJob_0 : decode cX8_goesJob 0 = .ok (.aload_n 0, 1) := D_X8_goesJob_0.1
theorem e_X8_goesJob_1 : decode cX8_goesJob 1 = .ok (.getfield 7, 3) := D_X8_goesJob_0.2.1
theorem e_X8_goesJob_4 : decode cX8_goesJob 4 = .ok (.iconst 0, 1) := D_X8_goesJob_0.2.2.1
theorem e_X8_goesJob_5 : decode cX8_goesJob 5 = .ok (.dup2, 1) := D_X8_goesJob_0.2.2.2.1
theorem e_X8_goesJob_6 : decode cX8_goesJob 6 = .ok (.iaload, 1) := D_X8_goesJob_0.2.2.2.2.1
theorem e_X8_goesJob_7 : decode cX8_goesJob 7 = .ok (.iconst 1, 1) := D_X8_goesJob_0.2.2.2.2.2.1
theorem e_X8_goesJob_8 : decode cX8_goesJob 8 = .ok (.isub, 1) := D_X8_goesJob_0.2.2.2.2.2.2.1
theorem e_X8_goesJob_9 : decode cX8_goesJob 9 = .ok (.iastore, 1) := D_X8_goesJob_0.2.2.2.2.2.2.2.1
theorem e_X8_goesJob_10 : decode cX8_goesJob 10 = .ok (.iload_n 1, 1) := D_X8_goesJob_0.2.2.2.2.2.2.2.2.1
theorem e_X8_goesJob_11 : decode cX8_goesJob 11 = .ok (.invokestatic 60, 3) := D_X8_goesJob_0.2.2.2.2.2.2.2.2.2.1
theorem e_X8_goesJob_14 : decode cX8_goesJob 14 = .ok (.istore_n 2, 1) := D_X8_goesJob_0.2.2.2.2.2.2.2.2.2.2.1
theorem e_X8_goesJob_15 : decode cX8_goesJob 15 = .ok (.iload_n 2, 1) := D_X8_goesJob_0.2.2.2.2.2.2.2.2.2.2.2.1
theorem e_X8_goesJob_16 : decode cX8_goesJob 16 = .ok (.aload_n 0, 1) := D_X8_goesJob_0.2.2.2.2.2.2.2.2.2.2.2.2.1
theorem e_X8_goesJob_17 : decode cX8_goesJob 17 = .ok (.getfield 7, 3) := D_X8_goesJob_0.2.2.2.2.2.2.2.2.2.2.2.2.2.1
theorem e_X8_goesJob_20 : decode cX8_goesJob 20 = .ok (.iconst 0, 1) := D_X8_goesJob_0.2.2.2.2.2.2.2.2.2.2.2.2.2.2.1
theorem e_X8_goesJob_21 : decode cX8_goesJob 21 = .ok (.iaload, 1) := D_X8_goesJob_0.2.2.2.2.2.2.2.2.2.2.2.2.2.2.2.1
theorem e_X8_goesJob_22 : decode cX8_goesJob 22 = .ok (.invokestatic 60, 3) := D_X8_goesJob_0.2.2.2.2.2.2.2.2.2.2.2.2.2.2.2.2.1
theorem e_X8_goesJob_25 : decode cX8_goesJob 25 = .ok (.if_icmp .ge 24, 3) := D_X8_goesJob_0.2.2.2.2.2.2.2.2.2.2.2.2.2.2.2.2.2.1
theorem e_X8_goesJob_28 : decode cX8_goesJob 28 = .ok (.aload_n 0, 1) := D_X8_goesJob_0.2.2.2.2.2.2.2.2.2.2.2.2.2.2.2.2.2.2.1
theorem e_X8_goesJob_29 : decode cX8_goesJob 29 = .ok (.getfield 7, 3) := D_X8_goesJob_0.2.2.2.2.2.2.2.2.2.2.2.2.2.2.2.2.2.2.2.1
theorem e_X8_goesJob_32 : decode cX8_goesJob 32 = .ok (.iload_n 2, 1) := D_X8_goesJob_0.2.2.2.2.2.2.2.2.2.2.2.2.2.2.2.2.2.2.2.2.1
theorem e_X8_goesJob_33 : decode cX8_goesJob 33 = .ok (.aload_n 0, 1) := D_X8_goesJob_0.2.2.2.2.2.2.2.2.2.2.2.2.2.2.2.2.2.2.2.2.2.1
theorem e_X8_goesJob_34 : decode cX8_goesJob 34 = .ok (.getfield 7, 3) := D_X8_goesJob_0.2.2.2.2.2.2.2.2.2.2.2.2.2.2.2.2.2.2.2.2.2.2.1
theorem e_X8_goesJob_37 : decode cX8_goesJob 37 = .ok (.iload_n 2, 1) := D_X8_goesJob_0.2.2.2.2.2.2.2.2.2.2.2.2.2.2.2.2.2.2.2.2.2.2.2.1
theorem e_X8_goesJob_38 : decode cX8_goesJob 38 = .ok (.bipush 10, 2) := D_X8_goesJob_0.2.2.2.2.2.2.2.2.2.2.2.2.2.2.2.2.2.2.2.2.2.2.2.2.1
theorem e_X8_goesJob_40 : decode cX8_goesJob 40 = .ok (.iadd, 1) := D_X8_goesJob_0.2.2.2.2.2.2.2.2.2.2.2.2.2.2.2.2.2.2.2.2.2.2.2.2.2.1
theorem e_X8_goesJob_41 : decode cX8_goesJob 41 = .ok (.iaload, 1) := D_X8_goesJob_0.2.2.2.2.2.2.2.2.2.2.2.2.2.2.2.2.2.2.2.2.2.2.2.2.2.2.1
theorem e_X8_goesJob_42 : decode cX8_goesJob 42 = .ok (.iastore, 1) := D_X8_goesJob_0.2.2.2.2.2.2.2.2.2.2.2.2.2.2.2.2.2.2.2.2.2.2.2.2.2.2.2.1
theorem e_X8_goesJob_43 : decode cX8_goesJob 43 = .ok (.iinc 2 1, 3) := D_X8_goesJob_0.2.2.2.2.2.2.2.2.2.2.2.2.2.2.2.2.2.2.2.2.2.2.2.2.2.2.2.2.1
theorem e_X8_goesJob_46 : decode cX8_goesJob 46 = .ok (.goto (-31), 3) := D_X8_goesJob_0.2.2.2.2.2.2.2.2.2.2.2.2.2.2.2.2.2.2.2.2.2.2.2.2.2.2.2.2.2.1
theorem e_X8_goesJob_49 : decode cX8_goesJob 49 = .ok (.return_, 1) := D_X8_goesJob_0.2.2.2.2.2.2.2.2.2.2.2.2.2.2.2.2.2.2.2.2.2.2.2.2.2.2.2.2.2.2.1
set_option maxRecDepth 100000 in
theorem D_X8_givesUp_0 : decode cX8_givesUp 0 = .ok (.aload_n 0, 1) ∧ decode cX8_givesUp 1 = .ok (.getfield 7, 3) ∧ decode cX8_givesUp 4 = .ok (.bipush 6, 2) ∧ decode cX8_givesUp 6 = .ok (.iaload, 1) ∧ decode cX8_givesUp 7 = .ok (.iload_n 1, 1) ∧ decode cX8_givesUp 8 = .ok (.if_icmp .ne 32, 3) ∧ decode cX8_givesUp 11 = .ok (.aload_n 0, 1) ∧ decode cX8_givesUp 12 = .ok (.getfield 7, 3) ∧ decode cX8_givesUp 15 = .ok (.bipush 18, 2) ∧ decode cX8_givesUp 17 = .ok (.dup2, 1) ∧ decode cX8_givesUp 18 = .ok (.iaload, 1) ∧ decode cX8_givesUp 19 = .ok (.aload_n 0, 1) ∧ decode cX8_givesUp 20 = .ok (.getfield 7, 3) ∧ decode cX8_givesUp 23 = .ok (.iconst 5, 1) ∧ decode cX8_givesUp 24 = .ok (.iaload, 1) ∧ decode cX8_givesUp 25 = .ok (.iconst 1, 1) ∧ decode cX8_givesUp 26 = .ok (.if_icmp .ne 7, 3) ∧ decode cX8_givesUp 29 = .ok (.iconst 1, 1) ∧ decode cX8_givesUp 30 = .ok (.goto 4, 3) ∧ decode cX8_givesUp 33 = .ok (.iconst 0, 1) ∧ decode cX8_givesUp 34 = .ok (.iadd, 1) ∧ decode cX8_givesUp 35 = .ok (.iastore, 1) ∧ decode cX8_givesUp 36 = .ok (.aload_n 0, 1) ∧ decode cX8_givesUp 37 = .ok (.invokevirtual 84, 3) ∧ decode cX8_givesUp 40 = .ok (.aload_n 0, 1) ∧ decode cX8_givesUp 41 = .ok (.getfield 7, 3) ∧ decode cX8_givesUp 44 = .ok (.bipush 7, 2) ∧ decode cX8_givesUp 46 = .ok (.aload_n 0, 1) ∧ decode cX8_givesUp 47 = .ok (.getfield 7, 3) ∧ decode cX8_givesUp 50 = .ok (.bipush 7, 2) ∧ decode cX8_givesUp 52 = .ok (.iaload, 1) ∧ decode cX8_givesUp 53 = .ok (.iload_n 1, 1) ∧ decode cX8_givesUp 54 = .ok (.if_icmp .ne 8, 3) ∧ decode cX8_givesUp 57 = .ok (.bipush (-4), 2) ∧ decode cX8_givesUp 59 = .ok (.goto 10, 3) ∧ decode cX8_givesUp 62 = .ok (.aload_n 0, 1) ∧ decode cX8_givesUp 63 = .ok (.getfield 7, 3) ∧ decode cX8_givesUp 66 = .ok (.bipush 7, 2) ∧ decode cX8_givesUp 68 = .ok (.iaload, 1) ∧ decode cX8_givesUp 69 = .ok (.iastore, 1) ∧ True := dq_of (l := (0, .aload_n 0, 1) :: (1, .getfield 7, 3) :: (4, .bipush 6, 2) :: (6, .iaload, 1) :: (7, .iload_n 1, 1) :: (8, .if_icmp .ne 32, 3) :: (11, .aload_n 0, 1) :: (12, .getfield 7, 3) :: (15, .bipush 18, 2) :: (17, .dup2, 1) :: (18, .iaload, 1) :: (19, .aload_n 0, 1) :: (20, .getfield 7, 3) :: (23, .iconst 5, 1) :: (24, .iaload, 1) :: (25, .iconst 1, 1) :: (26, .if_icmp .ne 7, 3) :: (29, .iconst 1, 1) :: (30, .goto 4, 3) :: (33, .iconst 0, 1) :: (34, .iadd, 1) :: (35, .iastore, 1) :: (36, .aload_n 0, 1) :: (37, .invokevirtual 84, 3) :: (40, .aload_n 0, 1) :: (41, .getfield 7, 3) :: (44, .bipush 7, 2) :: (46, .aload_n 0, 1) :: (47, .getfield 7, 3) :: (50, .bipush 7, 2) :: (52, .iaload, 1) :: (53, .iload_n 1, 1) :: (54, .if_icmp .ne 8, 3) :: (57, .bipush (-4), 2) :: (59, .goto 10, 3) :: (62, .aload_n 0, 1) :: (63, .getfield 7, 3) :: (66, .bipush 7, 2) :: (68, .iaload, 1) :: (69, .iastore, 1) :: []) (by decide +kernel)
theorem e_X8_givesUp_0 : decode cX8_givesUp 0 = .ok (.aload_n 0, 1) := D_X8_givesUp_0.1
theorem e_X8_givesUp_1 : decode cX8_givesUp 1 = .ok (.getfield 7, 3) := D_X8_givesUp_0.2.1
theorem e_X8_givesUp_4 : decode cX8_givesUp 4 = .ok (.bipush 6, 2) := D_X8_givesUp_0.2.2.1
theorem e_X8_givesUp_6 : decode cX8_givesUp 6 = .ok (.iaload, 1) := D_X8_givesUp_0.2.2.2.1
theorem e_X8_givesUp_7 : decode cX8_givesUp 7 = .ok (.iload_n 1, 1) := D_X8_givesUp_0.2.2.2.2.1
theorem e_X8_givesUp_8 : decode cX8_givesUp 8 = .ok (.if_icmp .ne 32, 3) := D_X8_givesUp_0.2.2.2.2.2.1
theorem e_X8_givesUp_11 : decode cX8_givesUp 11 = .ok (.aload_n 0, 1) := D_X8_givesUp_0.2.2.2.2.2.2.1
theorem e_X8_givesUp_12 : decode cX8_givesUp 12 = .ok (.getfield 7, 3) := D_X8_givesUp_0.2.2.2.2.2.2.2.1
theorem e_X8_givesUp_15 : decode cX8_givesUp 15 = .ok (.bipush 18, 2) := D_X8_givesUp_0.2.2.2.2.2.2.2.2.1
theorem e_X8_givesUp_17 : decode cX8_givesUp 17 = .ok (.dup2, 1) := D_X8_givesUp_0.2.2.2.2.2.2.2.2.2.1
theorem e_X8_givesUp_18 : decode cX8_givesUp 18 = .ok (.iaload, 1) := D_X8_givesUp_0.2.2.2.2.2.2.2.2.2.2.1
theorem e_X8_givesUp_19 : decode cX8_givesUp 19 = .ok (.aload_n 0, 1) := D_X8_givesUp_0.2.2.2.2.2.2.2.2.2.2.2.1
theorem e_X8_givesUp_20 : decode cX8_givesUp 20 = .ok (.getfield 7, 3) := D_X8_givesUp_0.2.2.2.2.2.2.2.2.2.2.2.2.1
theorem e_X8_givesUp_23 : decode cX8_givesUp 23 = .ok (.iconst 5, 1) := D_X8_givesUp_0.2.2.2.2.2.2.2.2.2.2.2.2.2.1
theorem e_X8_givesUp_24 : decode cX8_givesUp 24 = .ok (.iaload, 1) := D_X8_givesUp_0.2.2.2.2.2.2.2.2.2.2.2.2.2.2.1
theorem e_X8_givesUp_25 : decode cX8_givesUp 25 = .ok (.iconst 1, 1) := D_X8_givesUp_0.2.2.2.2.2.2.2.2.2.2.2.2.2.2.2.1
theorem e_X8_givesUp_26 : decode cX8_givesUp 26 = .ok (.if_icmp .ne 7, 3) := D_X8_givesUp_0.2.2.2.2.2.2.2.2.2.2.2.2.2.2.2.2.1
theorem e_X8_givesUp_29 : decode cX8_givesUp 29 = .ok (.iconst 1, 1) := D_X8_givesUp_0.2.2.2.2.2.2.2.2.2.2.2.2.2.2.2.2.2.1
theorem e_X8_givesUp_30 : decode cX8_givesUp 30 = .ok (.goto 4, 3) := D_X8_givesUp_0.2.2.2.2.2.2.2.2.2.2.2.2.2.2.2.2.2.2.1
theorem e_X8_givesUp_33 : decode cX8_givesUp 33 = .ok (.iconst 0, 1) := D_X8_givesUp_0.2.2.2.2.2.2.2.2.2.2.2.2.2.2.2.2.2.2.2.1
theorem e_X8_givesUp_34 : decode cX8_givesUp 34 = .ok (.iadd, 1) := D_X8_givesUp_0.2.2.2.2.2.2.2.2.2.2.2.2.2.2.2.2.2.2.2.2.1
theorem e_X8_givesUp_35 : decode cX8_givesUp 35 = .ok (.iastore, 1) := D_X8_givesUp_0.2.2.2.2.2.2.2.2.2.2.2.2.2.2.2.2.2.2.2.2.2.1
theorem e_X8_givesUp_36 : decode cX8_givesUp 36 = .ok (.aload_n 0, 1) := D_X8_givesUp_0.2.2.2.2.2.2.2.2.2.2.2.2.2.2.2.2.2.2.2.2.2.2.1
theorem e_X8_givesUp_37 : decode cX8_givesUp 37 = .ok (.invokevirtual 84, 3) := D_X8_givesUp_0.2.2.2.2.2.2.2.2.2.2.2.2.2.2.2.2.2.2.2.2.2.2.2.1
theorem e_X8_givesUp_40 : decode cX8_givesUp 40 = .ok (.aload_n 0, 1) := D_X8_givesUp_0.2.2.2.2.2.2.2.2.2.2.2.2.2.2.2.2.2.2.2.2.2.2.2.2.1
theorem e_X8_givesUp_41 : decode cX8_givesUp 41 = .ok (.getfield 7, 3) := D_X8_givesUp_0.2.2.2.2.2.2.2.2.2.2.2.2.2.2.2.2.2.2.2.2.2.2.2.2.2.1
theorem e_X8_givesUp_44 : decode cX8_givesUp 44 = .ok (.bipush 7, 2) := D_X8_givesUp_0.2.2.2.2.2.2.2.2.2.2.2.2.2.2.2.2.2.2.2.2.2.2.2.2.2.2.1
theorem e_X8_givesUp_46 : decode cX8_givesUp 46 = .ok (.aload_n 0, 1) := D_X8_givesUp_0.2.2.2.2.2.2.2.2.2.2.2.2.2.2.2.2.2.2.2.2.2.2.2.2.2.2.2.1
theorem e_X8_givesUp_47 : decode cX8_givesUp 47 = .ok (.getfield 7, 3) := D_X8_givesUp_0.2.2.2.2.2.2.2.2.2.2.2.2.2.2.2.2.2.2.2.2.2.2.2.2.2.2.2.2.1
theorem e_X8_givesUp_50 : decode cX8_givesUp 50 = .ok (.bipush 7, 2) := D_X8_givesUp_0.2.2.2.2.2.2.2.2.2.2.2.2.2.2.2.2.2.2.2.2.2.2.2.2.2.2.2.2.2.1
theorem e_X8_givesUp_52 : decode cX8_givesUp 52 = .ok (.iaload, 1) := D_X8_givesUp_0.2.2.2.2.2.2.2.2.2.2.2.2.2.2.2.2.2.2.2.2.2.2.2.2.2.2.2.2.2.2.1
theorem e_X8_givesUp_53 : decode cX8_givesUp 53 = .ok (.iload_n 1, 1) := D_X8_givesUp_0.2.2.2.2.2.2.2.2.2.2.2.2.2.2.2.2.2.2.2.2.2.2.2.2.2.2.2.2.2.2.2.1
theorem e_X8_givesUp_54 : decode cX8_givesUp 54 = .ok (.if_icmp .ne 8, 3) := D_X8_givesUp_0.2.2.2.2.2.2.2.2.2.2.2.2.2.2.2.2.2.2.2.2.2.2.2.2.2.2.2.2.2.2.2.2.1
theorem e_X8_givesUp_57 : decode cX8_givesUp 57 = .ok (.bipush (-4), 2) := D_X8_givesUp_0.2.2.2.2.2.2.2.2.2.2.2.2.2.2.2.2.2.2.2.2.2.2.2.2.2.2.2.2.2.2.2.2.2.1
theorem e_X8_givesUp_59 : decode cX8_givesUp 59 = .ok (.goto 10, 3) := D_X8_givesUp_0.2.2.2.2.2.2.2.2.2.2.2.2.2.2.2.2.2.2.2.2.2.2.2.2.2.2.2.2.2.2.2.2.2.2.1
theorem e_X8_givesUp_62 : decode cX8_givesUp 62 = .ok (.aload_n 0, 1) := D_X8_givesUp_0.2.2.2.2.2.2.2.2.2.2.2.2.2.2.2.2.2.2.2.2.2.2.2.2.2.2.2.2.2.2.2.2.2.2.2.1
theorem e_X8_givesUp_63 : decode cX8_givesUp 63 = .ok (.getfield 7, 3) := D_X8_givesUp_0.2.2.2.2.2.2.2.2.2.2.2.2.2.2.2.2.2.2.2.2.2.2.2.2.2.2.2.2.2.2.2.2.2.2.2.2.1
theorem e_X8_givesUp_66 : decode cX8_givesUp 66 = .ok (.bipush 7, 2) := D_X8_givesUp_0.2.2.2.2.2.2.2.2.2.2.2.2.2.2.2.2.2.2.2.2.2.2.2.2.2.2.2.2.2.2.2.2.2.2.2.2.2.1
theorem e_X8_givesUp_68 : decode cX8_givesUp 68 = .ok (.iaload, 1) := D_X8_givesUp_0.2.2.2.2.2.2.2.2.2.2.2.2.2.2.2.2.2.2.2.2.2.2.2.2.2.2.2.2.2.2.2.2.2.2.2.2.2.2.1
theorem e_X8_givesUp_69 : decode cX8_givesUp 69 = .ok (.iastore, 1) := D_X8_givesUp_0.2.2.2.2.2.2.2.2.2.2.2.2.2.2.2.2.2.2.2.2.2.2.2.2.2.2.2.2.2.2.2.2.2.2.2.2.2.2.2.1
set_option maxRecDepth 100000 in
theorem D_X8_givesUp_1 : decode cX8_givesUp 70 = .ok (.return_, 1) ∧ True := dq_of (l := (70, .return_, 1) :: []) (by decide +kernel)
theorem e_X8_givesUp_70 : decode cX8_givesUp 70 = .ok (.return_, 1) := D_X8_givesUp_1.1
set_option maxRecDepth 100000 in
theorem D_X8_endsWork_0 : decode cX8_endsWork 0 = .ok (.aload_n 0, 1) ∧ decode cX8_endsWork 1 = .ok (.getfield 7, 3) ∧ decode cX8_endsWork 4 = .ok (.iconst 4, 1) ∧ decode cX8_endsWork 5 = .ok (.iconst 0, 1) ∧ decode cX8_endsWork 6 = .ok (.iastore, 1) ∧ decode cX8_endsWork 7 = .ok (.aload_n 0, 1) ∧ decode cX8_endsWork 8 = .ok (.getfield 7, 3) ∧ decode cX8_endsWork 11 = .ok (.iconst 5, 1) ∧ decode cX8_endsWork 12 = .ok (.iconst 0, 1) ∧ decode cX8_endsWork 13 = .ok (.iastore, 1) ∧ decode cX8_endsWork 14 = .ok (.aload_n 0, 1) ∧ decode cX8_endsWork 15 = .ok (.getfield 7, 3) ∧ decode cX8_endsWork 18 = .ok (.bipush 6, 2) ∧ decode cX8_endsWork 20 = .ok (.bipush (-4), 2) ∧ decode cX8_endsWork 22 = .ok (.iastore, 1) ∧ decode cX8_endsWork 23 = .ok (.return_, 1) ∧ True := dq_of (l := (0, .aload_n 0, 1) :: (1, .getfield 7, 3) :: (4, .iconst 4, 1) :: (5, .iconst 0, 1) :: (6, .iastore, 1) :: (7, .aload_n 0, 1) :: (8, .getfield 7, 3) :: (11, .iconst 5, 1) :: (12, .iconst 0, 1) :: (13, .iastore, 1) :: (14, .aload_n 0, 1) :: (15, .getfield 7, 3) :: (18, .bipush 6, 2) :: (20, .bipush (-4), 2) :: (22, .iastore, 1) :: (23, .return_, 1) :: []) (by decide +kernel)
theorem e_X8_endsWork_0 : decode cX8_endsWork 0 = .ok (.aload_n 0, 1) := D_X8_endsWork_0.1
theorem e_X8_endsWork_1 : decode cX8_endsWork 1 = .ok (.getfield 7, 3) := D_X8_endsWork_0.2.1
theorem e_X8_endsWork_4 : decode cX8_endsWork 4 = .ok (.iconst 4, 1) := D_X8_endsWork_0.2.2.1
theorem e_X8_endsWork_5 : decode cX8_endsWork 5 = .ok (.iconst 0, 1) := D_X8_endsWork_0.2.2.2.1
theorem e_X8_endsWork_6 : decode cX8_endsWork 6 = .ok (.iastore, 1) := D_X8_endsWork_0.2.2.2.2.1
theorem e_X8_endsWork_7 : decode cX8_endsWork 7 = .ok (.aload_n 0, 1) := D_X8_endsWork_0.2.2.2.2.2.1
theorem e_X8_endsWork_8 : decode cX8_endsWork 8 = .ok (.getfield 7, 3) := D_X8_endsWork_0.2.2.2.2.2.2.1
theorem e_X8_endsWork_11 : decode cX8_endsWork 11 = .ok (.iconst 5, 1) := D_X8_endsWork_0.2.2.2.2.2.2.2.1
theorem e_X8_endsWork_12 : decode cX8_endsWork 12 = .ok (.iconst 0, 1) := D_X8_endsWork_0.2.2.2.2.2.2.2.2.1
theorem e_X8_endsWork_13 : decode cX8_endsWork 13 = .ok (.iastore, 1) := D_X8_endsWork_0.2.2.2.2.2.2.2.2.2.1
theorem e_X8_endsWork_14 : decode cX8_endsWork 14 = .ok (.aload_n 0, 1) := D_X8_endsWork_0.2.2.2.2.2.2.2.2.2.2.1
theorem e_X8_endsWork_15 : decode cX8_endsWork 15 = .ok (.getfield 7, 3) := D_X8_endsWork_0.2.2.2.2.2.2.2.2.2.2.2.1
theorem e_X8_endsWork_18 : decode cX8_endsWork 18 = .ok (.bipush 6, 2) := D_X8_endsWork_0.2.2.2.2.2.2.2.2.2.2.2.2.1
theorem e_X8_endsWork_20 : decode cX8_endsWork 20 = .ok (.bipush (-4), 2) := D_X8_endsWork_0.2.2.2.2.2.2.2.2.2.2.2.2.2.1
theorem e_X8_endsWork_22 : decode cX8_endsWork 22 = .ok (.iastore, 1) := D_X8_endsWork_0.2.2.2.2.2.2.2.2.2.2.2.2.2.2.1
theorem e_X8_endsWork_23 : decode cX8_endsWork 23 = .ok (.return_, 1) := D_X8_endsWork_0.2.2.2.2.2.2.2.2.2.2.2.2.2.2.2.1
set_option maxRecDepth 100000 in
theorem D_X8_hold_0 : decode cX8_hold 0 = .ok (.iload_n 1, 1) ∧ decode cX8_hold 1 = .ok (.ifCond .lt 12, 3) ∧ decode cX8_hold 4 = .ok (.iload_n 2, 1) ∧ decode cX8_hold 5 = .ok (.iconst 0, 1) ∧ decode cX8_hold 6 = .ok (.iconst 1, 1) ∧ decode cX8_hold 7 = .ok (.invokestatic 32, 3) ∧ decode cX8_hold 10 = .ok (.ifCond .ne 5, 3) ∧ decode cX8_hold 13 = .ok (.iconst (-1), 1) ∧ decode cX8_hold 14 = .ok (.ireturn, 1) ∧ decode cX8_hold 15 = .ok (.aload_n 0, 1) ∧ decode cX8_hold 16 = .ok (.iload_n 1, 1) ∧ decode cX8_hold 17 = .ok (.invokevirtual 87, 3) ∧ decode cX8_hold 20 = .ok (.istore_n 3, 1) ∧ decode cX8_hold 21 = .ok (.iload_n 3, 1) ∧ decode cX8_hold 22 = .ok (.ifCond .ge 6, 3) ∧ decode cX8_hold 25 = .ok (.bipush (-4), 2) ∧ decode cX8_hold 27 = .ok (.ireturn, 1) ∧ decode cX8_hold 28 = .ok (.aload_n 0, 1) ∧ decode cX8_hold 29 = .ok (.iload_n 3, 1) ∧ decode cX8_hold 30 = .ok (.invokestatic 60, 3) ∧ decode cX8_hold 33 = .ok (.bipush 7, 2) ∧ decode cX8_hold 35 = .ok (.iadd, 1) ∧ decode cX8_hold 36 = .ok (.iload_n 2, 1) ∧ decode cX8_hold 37 = .ok (.invokevirtual 54, 3) ∧ decode cX8_hold 40 = .ok (.istore 4, 2) ∧ decode cX8_hold 42 = .ok (.iload_n 2, 1) ∧ decode cX8_hold 43 = .ok (.iconst 1, 1) ∧ decode cX8_hold 44 = .ok (.if_icmp .ne 8, 3) ∧ decode cX8_hold 47 = .ok (.aload_n 0, 1) ∧ decode cX8_hold 48 = .ok (.iload_n 1, 1) ∧ decode cX8_hold 49 = .ok (.invokevirtual 90, 3) ∧ decode cX8_hold 52 = .ok (.iload 4, 2) ∧ decode cX8_hold 54 = .ok (.ireturn, 1) ∧ True := dq_of (l := (0, .iload_n 1, 1) :: (1, .ifCond .lt 12, 3) :: (4, .iload_n 2, 1) :: (5, .iconst 0, 1) :: (6, .iconst 1, 1) :: (7, .invokestatic 32, 3) :: (10, .ifCond .ne 5, 3) :: (13, .iconst (-1), 1) :: (14, .ireturn, 1) :: (15, .aload_n 0, 1) :: (16, .iload_n 1, 1) :: (17, .invokevirtual 87, 3) :: (20, .istore_n 3, 1) :: (21, .iload_n 3, 1) :: (22, .ifCond .ge 6, 3) :: (25, .bipush (-4), 2) :: (27, .ireturn, 1) :: (28, .aload_n 0, 1) :: (29, .iload_n 3, 1) :: (30, .invokestatic 60, 3) :: (33, .bipush 7, 2) :: (35, .iadd, 1) :: (36, .iload_n 2, 1) :: (37, .invokevirtual 54, 3) :: (40, .istore 4, 2) :: (42, .iload_n 2, 1) :: (43, .iconst 1, 1) :: (44, .if_icmp .ne 8, 3) :: (47, .aload_n 0, 1) :: (48, .iload_n 1, 1) :: (49, .invokevirtual 90, 3) :: (52, .iload 4, 2) :: (54, .ireturn, 1) :: []) (by decide +kernel)
theorem e_X8_hold_0 : decode cX8_hold 0 = .ok (.iload_n 1, 1) := D_X8_hold_0.1
theorem e_X8_hold_1 : decode cX8_hold 1 = .ok (.ifCond .lt 12, 3) := D_X8_hold_0.2.1
theorem e_X8_hold_4 : decode cX8_hold 4 = .ok (.iload_n 2, 1) := D_X8_hold_0.2.2.1
theorem e_X8_hold_5 : decode cX8_hold 5 = .ok (.iconst 0, 1) := D_X8_hold_0.2.2.2.1
theorem e_X8_hold_6 : decode cX8_hold 6 = .ok (.iconst 1, 1) := D_X8_hold_0.2.2.2.2.1
theorem e_X8_hold_7 : decode cX8_hold 7 = .ok (.invokestatic 32, 3) := D_X8_hold_0.2.2.2.2.2.1
theorem e_X8_hold_10 : decode cX8_hold 10 = .ok (.ifCond .ne 5, 3) := D_X8_hold_0.2.2.2.2.2.2.1
theorem e_X8_hold_13 : decode cX8_hold 13 = .ok (.iconst (-1), 1) := D_X8_hold_0.2.2.2.2.2.2.2.1
theorem e_X8_hold_14 : decode cX8_hold 14 = .ok (.ireturn, 1) := D_X8_hold_0.2.2.2.2.2.2.2.2.1
theorem e_X8_hold_15 : decode cX8_hold 15 = .ok (.aload_n 0, 1) := D_X8_hold_0.2.2.2.2.2.2.2.2.2.1
theorem e_X8_hold_16 : decode cX8_hold 16 = .ok (.iload_n 1, 1) := D_X8_hold_0.2.2.2.2.2.2.2.2.2.2.1
theorem e_X8_hold_17 : decode cX8_hold 17 = .ok (.invokevirtual 87, 3) := D_X8_hold_0.2.2.2.2.2.2.2.2.2.2.2.1
theorem e_X8_hold_20 : decode cX8_hold 20 = .ok (.istore_n 3, 1) := D_X8_hold_0.2.2.2.2.2.2.2.2.2.2.2.2.1
theorem e_X8_hold_21 : decode cX8_hold 21 = .ok (.iload_n 3, 1) := D_X8_hold_0.2.2.2.2.2.2.2.2.2.2.2.2.2.1
theorem e_X8_hold_22 : decode cX8_hold 22 = .ok (.ifCond .ge 6, 3) := D_X8_hold_0.2.2.2.2.2.2.2.2.2.2.2.2.2.2.1
theorem e_X8_hold_25 : decode cX8_hold 25 = .ok (.bipush (-4), 2) := D_X8_hold_0.2.2.2.2.2.2.2.2.2.2.2.2.2.2.2.1
theorem e_X8_hold_27 : decode cX8_hold 27 = .ok (.ireturn, 1) := D_X8_hold_0.2.2.2.2.2.2.2.2.2.2.2.2.2.2.2.2.1
theorem e_X8_hold_28 : decode cX8_hold 28 = .ok (.aload_n 0, 1) := D_X8_hold_0.2.2.2.2.2.2.2.2.2.2.2.2.2.2.2.2.2.1
theorem e_X8_hold_29 : decode cX8_hold 29 = .ok (.iload_n 3, 1) := D_X8_hold_0.2.2.2.2.2.2.2.2.2.2.2.2.2.2.2.2.2.2.1
theorem e_X8_hold_30 : decode cX8_hold 30 = .ok (.invokestatic 60, 3) := D_X8_hold_0.2.2.2.2.2.2.2.2.2.2.2.2.2.2.2.2.2.2.2.1
theorem e_X8_hold_33 : decode cX8_hold 33 = .ok (.bipush 7, 2) := D_X8_hold_0.2.2.2.2.2.2.2.2.2.2.2.2.2.2.2.2.2.2.2.2.1
theorem e_X8_hold_35 : decode cX8_hold 35 = .ok (.iadd, 1) := D_X8_hold_0.2.2.2.2.2.2.2.2.2.2.2.2.2.2.2.2.2.2.2.2.2.1
theorem e_X8_hold_36 : decode cX8_hold 36 = .ok (.iload_n 2, 1) := D_X8_hold_0.2.2.2.2.2.2.2.2.2.2.2.2.2.2.2.2.2.2.2.2.2.2.1
theorem e_X8_hold_37 : decode cX8_hold 37 = .ok (.invokevirtual 54, 3) := D_X8_hold_0.2.2.2.2.2.2.2.2.2.2.2.2.2.2.2.2.2.2.2.2.2.2.2.1
theorem e_X8_hold_40 : decode cX8_hold 40 = .ok (.istore 4, 2) := D_X8_hold_0.2.2.2.2.2.2.2.2.2.2.2.2.2.2.2.2.2.2.2.2.2.2.2.2.1
theorem e_X8_hold_42 : decode cX8_hold 42 = .ok (.iload_n 2, 1) := D_X8_hold_0.2.2.2.2.2.2.2.2.2.2.2.2.2.2.2.2.2.2.2.2.2.2.2.2.2.1
theorem e_X8_hold_43 : decode cX8_hold 43 = .ok (.iconst 1, 1) := D_X8_hold_0.2.2.2.2.2.2.2.2.2.2.2.2.2.2.2.2.2.2.2.2.2.2.2.2.2.2.1
theorem e_X8_hold_44 : decode cX8_hold 44 = .ok (.if_icmp .ne 8, 3) := D_X8_hold_0.2.2.2.2.2.2.2.2.2.2.2.2.2.2.2.2.2.2.2.2.2.2.2.2.2.2.2.1
theorem e_X8_hold_47 : decode cX8_hold 47 = .ok (.aload_n 0, 1) := D_X8_hold_0.2.2.2.2.2.2.2.2.2.2.2.2.2.2.2.2.2.2.2.2.2.2.2.2.2.2.2.2.1
theorem e_X8_hold_48 : decode cX8_hold 48 = .ok (.iload_n 1, 1) := D_X8_hold_0.2.2.2.2.2.2.2.2.2.2.2.2.2.2.2.2.2.2.2.2.2.2.2.2.2.2.2.2.2.1
theorem e_X8_hold_49 : decode cX8_hold 49 = .ok (.invokevirtual 90, 3) := D_X8_hold_0.2.2.2.2.2.2.2.2.2.2.2.2.2.2.2.2.2.2.2.2.2.2.2.2.2.2.2.2.2.2.1
theorem e_X8_hold_52 : decode cX8_hold 52 = .ok (.iload 4, 2) := D_X8_hold_0.2.2.2.2.2.2.2.2.2.2.2.2.2.2.2.2.2.2.2.2.2.2.2.2.2.2.2.2.2.2.2.1
theorem e_X8_hold_54 : decode cX8_hold 54 = .ok (.ireturn, 1) := D_X8_hold_0.2.2.2.2.2.2.2.2.2.2.2.2.2.2.2.2.2.2.2.2.2.2.2.2.2.2.2.2.2.2.2.2.1
set_option maxRecDepth 100000 in
theorem D_X8_cancel_0 : decode cX8_cancel 0 = .ok (.iload_n 1, 1) ∧ decode cX8_cancel 1 = .ok (.ifCond .ge 5, 3) ∧ decode cX8_cancel 4 = .ok (.iconst (-1), 1) ∧ decode cX8_cancel 5 = .ok (.ireturn, 1) ∧ decode cX8_cancel 6 = .ok (.aload_n 0, 1) ∧ decode cX8_cancel 7 = .ok (.iload_n 1, 1) ∧ decode cX8_cancel 8 = .ok (.invokevirtual 87, 3) ∧ decode cX8_cancel 11 = .ok (.istore_n 2, 1) ∧ decode cX8_cancel 12 = .ok (.iload_n 2, 1) ∧ decode cX8_cancel 13 = .ok (.ifCond .ge 6, 3) ∧ decode cX8_cancel 16 = .ok (.bipush (-4), 2) ∧ decode cX8_cancel 18 = .ok (.ireturn, 1) ∧ decode cX8_cancel 19 = .ok (.aload_n 0, 1) ∧ decode cX8_cancel 20 = .ok (.invokevirtual 40, 3) ∧ decode cX8_cancel 23 = .ok (.aload_n 0, 1) ∧ decode cX8_cancel 24 = .ok (.iload_n 2, 1) ∧ decode cX8_cancel 25 = .ok (.bipush 8, 2) ∧ decode cX8_cancel 27 = .ok (.invokevirtual 64, 3) ∧ decode cX8_cancel 30 = .ok (.istore_n 3, 1) ∧ decode cX8_cancel 31 = .ok (.aload_n 0, 1) ∧ decode cX8_cancel 32 = .ok (.iload_n 1, 1) ∧ decode cX8_cancel 33 = .ok (.invokevirtual 90, 3) ∧ decode cX8_cancel 36 = .ok (.aload_n 0, 1) ∧ decode cX8_cancel 37 = .ok (.iload_n 2, 1) ∧ decode cX8_cancel 38 = .ok (.invokevirtual 94, 3) ∧ decode cX8_cancel 41 = .ok (.aload_n 0, 1) ∧ decode cX8_cancel 42 = .ok (.getfield 7, 3) ∧ decode cX8_cancel 45 = .ok (.bipush 22, 2) ∧ decode cX8_cancel 47 = .ok (.dup2, 1) ∧ decode cX8_cancel 48 = .ok (.iaload, 1) ∧ decode cX8_cancel 49 = .ok (.iconst 1, 1) ∧ decode cX8_cancel 50 = .ok (.iadd, 1) ∧ decode cX8_cancel 51 = .ok (.iastore, 1) ∧ decode cX8_cancel 52 = .ok (.iload_n 3, 1) ∧ decode cX8_cancel 53 = .ok (.ireturn, 1) ∧ True := dq_of (l := (0, .iload_n 1, 1) :: (1, .ifCond .ge 5, 3) :: (4, .iconst (-1), 1) :: (5, .ireturn, 1) :: (6, .aload_n 0, 1) :: (7, .iload_n 1, 1) :: (8, .invokevirtual 87, 3) :: (11, .istore_n 2, 1) :: (12, .iload_n 2, 1) :: (13, .ifCond .ge 6, 3) :: (16, .bipush (-4), 2) :: (18, .ireturn, 1) :: (19, .aload_n 0, 1) :: (20, .invokevirtual 40, 3) :: (23, .aload_n 0, 1) :: (24, .iload_n 2, 1) :: (25, .bipush 8, 2) :: (27, .invokevirtual 64, 3) :: (30, .istore_n 3, 1) :: (31, .aload_n 0, 1) :: (32, .iload_n 1, 1) :: (33, .invokevirtual 90, 3) :: (36, .aload_n 0, 1) :: (37, .iload_n 2, 1) :: (38, .invokevirtual 94, 3) :: (41, .aload_n 0, 1) :: (42, .getfield 7, 3) :: (45, .bipush 22, 2) :: (47, .dup2, 1) :: (48, .iaload, 1) :: (49, .iconst 1, 1) :: (50, .iadd, 1) :: (51, .iastore, 1) :: (52, .iload_n 3, 1) :: (53, .ireturn, 1) :: []) (by decide +kernel)
theorem e_X8_cancel_0 : decode cX8_cancel 0 = .ok (.iload_n 1, 1) := D_X8_cancel_0.1
theorem e_X8_cancel_1 : decode cX8_cancel 1 = .ok (.ifCond .ge 5, 3) := D_X8_cancel_0.2.1
theorem e_X8_cancel_4 : decode cX8_cancel 4 = .ok (.iconst (-1), 1) := D_X8_cancel_0.2.2.1
theorem e_X8_cancel_5 : decode cX8_cancel 5 = .ok (.ireturn, 1) := D_X8_cancel_0.2.2.2.1
theorem e_X8_cancel_6 : decode cX8_cancel 6 = .ok (.aload_n 0, 1) := D_X8_cancel_0.2.2.2.2.1
theorem e_X8_cancel_7 : decode cX8_cancel 7 = .ok (.iload_n 1, 1) := D_X8_cancel_0.2.2.2.2.2.1
theorem e_X8_cancel_8 : decode cX8_cancel 8 = .ok (.invokevirtual 87, 3) := D_X8_cancel_0.2.2.2.2.2.2.1
theorem e_X8_cancel_11 : decode cX8_cancel 11 = .ok (.istore_n 2, 1) := D_X8_cancel_0.2.2.2.2.2.2.2.1
theorem e_X8_cancel_12 : decode cX8_cancel 12 = .ok (.iload_n 2, 1) := D_X8_cancel_0.2.2.2.2.2.2.2.2.1
theorem e_X8_cancel_13 : decode cX8_cancel 13 = .ok (.ifCond .ge 6, 3) := D_X8_cancel_0.2.2.2.2.2.2.2.2.2.1
theorem e_X8_cancel_16 : decode cX8_cancel 16 = .ok (.bipush (-4), 2) := D_X8_cancel_0.2.2.2.2.2.2.2.2.2.2.1
theorem e_X8_cancel_18 : decode cX8_cancel 18 = .ok (.ireturn, 1) := D_X8_cancel_0.2.2.2.2.2.2.2.2.2.2.2.1
theorem e_X8_cancel_19 : decode cX8_cancel 19 = .ok (.aload_n 0, 1) := D_X8_cancel_0.2.2.2.2.2.2.2.2.2.2.2.2.1
theorem e_X8_cancel_20 : decode cX8_cancel 20 = .ok (.invokevirtual 40, 3) := D_X8_cancel_0.2.2.2.2.2.2.2.2.2.2.2.2.2.1
theorem e_X8_cancel_23 : decode cX8_cancel 23 = .ok (.aload_n 0, 1) := D_X8_cancel_0.2.2.2.2.2.2.2.2.2.2.2.2.2.2.1
theorem e_X8_cancel_24 : decode cX8_cancel 24 = .ok (.iload_n 2, 1) := D_X8_cancel_0.2.2.2.2.2.2.2.2.2.2.2.2.2.2.2.1
theorem e_X8_cancel_25 : decode cX8_cancel 25 = .ok (.bipush 8, 2) := D_X8_cancel_0.2.2.2.2.2.2.2.2.2.2.2.2.2.2.2.2.1
theorem e_X8_cancel_27 : decode cX8_cancel 27 = .ok (.invokevirtual 64, 3) := D_X8_cancel_0.2.2.2.2.2.2.2.2.2.2.2.2.2.2.2.2.2.1
theorem e_X8_cancel_30 : decode cX8_cancel 30 = .ok (.istore_n 3, 1) := D_X8_cancel_0.2.2.2.2.2.2.2.2.2.2.2.2.2.2.2.2.2.2.1
theorem e_X8_cancel_31 : decode cX8_cancel 31 = .ok (.aload_n 0, 1) := D_X8_cancel_0.2.2.2.2.2.2.2.2.2.2.2.2.2.2.2.2.2.2.2.1
theorem e_X8_cancel_32 : decode cX8_cancel 32 = .ok (.iload_n 1, 1) := D_X8_cancel_0.2.2.2.2.2.2.2.2.2.2.2.2.2.2.2.2.2.2.2.2.1
theorem e_X8_cancel_33 : decode cX8_cancel 33 = .ok (.invokevirtual 90, 3) := D_X8_cancel_0.2.2.2.2.2.2.2.2.2.2.2.2.2.2.2.2.2.2.2.2.2.1
theorem e_X8_cancel_36 : decode cX8_cancel 36 = .ok (.aload_n 0, 1) := D_X8_cancel_0.2.2.2.2.2.2.2.2.2.2.2.2.2.2.2.2.2.2.2.2.2.2.1
theorem e_X8_cancel_37 : decode cX8_cancel 37 = .ok (.iload_n 2, 1) := D_X8_cancel_0.2.2.2.2.2.2.2.2.2.2.2.2.2.2.2.2.2.2.2.2.2.2.2.1
theorem e_X8_cancel_38 : decode cX8_cancel 38 = .ok (.invokevirtual 94, 3) := D_X8_cancel_0.2.2.2.2.2.2.2.2.2.2.2.2.2.2.2.2.2.2.2.2.2.2.2.2.1
theorem e_X8_cancel_41 : decode cX8_cancel 41 = .ok (.aload_n 0, 1) := D_X8_cancel_0.2.2.2.2.2.2.2.2.2.2.2.2.2.2.2.2.2.2.2.2.2.2.2.2.2.1
theorem e_X8_cancel_42 : decode cX8_cancel 42 = .ok (.getfield 7, 3) := D_X8_cancel_0.2.2.2.2.2.2.2.2.2.2.2.2.2.2.2.2.2.2.2.2.2.2.2.2.2.2.1
theorem e_X8_cancel_45 : decode cX8_cancel 45 = .ok (.bipush 22, 2) := D_X8_cancel_0.2.2.2.2.2.2.2.2.2.2.2.2.2.2.2.2.2.2.2.2.2.2.2.2.2.2.2.1
theorem e_X8_cancel_47 : decode cX8_cancel 47 = .ok (.dup2, 1) := D_X8_cancel_0.2.2.2.2.2.2.2.2.2.2.2.2.2.2.2.2.2.2.2.2.2.2.2.2.2.2.2.2.1
theorem e_X8_cancel_48 : decode cX8_cancel 48 = .ok (.iaload, 1) := D_X8_cancel_0.2.2.2.2.2.2.2.2.2.2.2.2.2.2.2.2.2.2.2.2.2.2.2.2.2.2.2.2.2.1
theorem e_X8_cancel_49 : decode cX8_cancel 49 = .ok (.iconst 1, 1) := D_X8_cancel_0.2.2.2.2.2.2.2.2.2.2.2.2.2.2.2.2.2.2.2.2.2.2.2.2.2.2.2.2.2.2.1
theorem e_X8_cancel_50 : decode cX8_cancel 50 = .ok (.iadd, 1) := D_X8_cancel_0.2.2.2.2.2.2.2.2.2.2.2.2.2.2.2.2.2.2.2.2.2.2.2.2.2.2.2.2.2.2.2.1
theorem e_X8_cancel_51 : decode cX8_cancel 51 = .ok (.iastore, 1) := D_X8_cancel_0.2.2.2.2.2.2.2.2.2.2.2.2.2.2.2.2.2.2.2.2.2.2.2.2.2.2.2.2.2.2.2.2.1
theorem e_X8_cancel_52 : decode cX8_cancel 52 = .ok (.iload_n 3, 1) := D_X8_cancel_0.2.2.2.2.2.2.2.2.2.2.2.2.2.2.2.2.2.2.2.2.2.2.2.2.2.2.2.2.2.2.2.2.2.1
theorem e_X8_cancel_53 : decode cX8_cancel 53 = .ok (.ireturn, 1) := D_X8_cancel_0.2.2.2.2.2.2.2.2.2.2.2.2.2.2.2.2.2.2.2.2.2.2.2.2.2.2.2.2.2.2.2.2.2.2.1
set_option maxRecDepth 100000 in
theorem D_X8_priority_0 : decode cX8_priority 0 = .ok (.iload_n 1, 1) ∧ decode cX8_priority 1 = .ok (.ifCond .lt 13, 3) ∧ decode cX8_priority 4 = .ok (.iload_n 2, 1) ∧ decode cX8_priority 5 = .ok (.iconst 0, 1) ∧ decode cX8_priority 6 = .ok (.bipush 9, 2) ∧ decode cX8_priority 8 = .ok (.invokestatic 32, 3) ∧ decode cX8_priority 11 = .ok (.ifCond .ne 5, 3) ∧ decode cX8_priority 14 = .ok (.iconst (-1), 1) ∧ decode cX8_priority 15 = .ok (.ireturn, 1) ∧ decode cX8_priority 16 = .ok (.aload_n 0, 1) ∧ decode cX8_priority 17 = .ok (.iload_n 1, 1) ∧ decode cX8_priority 18 = .ok (.invokevirtual 87, 3) ∧ decode cX8_priority 21 = .ok (.istore_n 3, 1) ∧ decode cX8_priority 22 = .ok (.iload_n 3, 1) ∧ decode cX8_priority 23 = .ok (.ifCond .ge 8, 3) ∧ decode cX8_priority 26 = .ok (.bipush (-4), 2) ∧ decode cX8_priority 28 = .ok (.goto 15, 3) ∧ decode cX8_priority 31 = .ok (.aload_n 0, 1) ∧ decode cX8_priority 32 = .ok (.iload_n 3, 1) ∧ decode cX8_priority 33 = .ok (.invokestatic 60, 3) ∧ decode cX8_priority 36 = .ok (.bipush 6, 2) ∧ decode cX8_priority 38 = .ok (.iadd, 1) ∧ decode cX8_priority 39 = .ok (.iload_n 2, 1) ∧ decode cX8_priority 40 = .ok (.invokevirtual 54, 3) ∧ decode cX8_priority 43 = .ok (.ireturn, 1) ∧ True := dq_of (l := (0, .iload_n 1, 1) :: (1, .ifCond .lt 13, 3) :: (4, .iload_n 2, 1) :: (5, .iconst 0, 1) :: (6, .bipush 9, 2) :: (8, .invokestatic 32, 3) :: (11, .ifCond .ne 5, 3) :: (14, .iconst (-1), 1) :: (15, .ireturn, 1) :: (16, .aload_n 0, 1) :: (17, .iload_n 1, 1) :: (18, .invokevirtual 87, 3) :: (21, .istore_n 3, 1) :: (22, .iload_n 3, 1) :: (23, .ifCond .ge 8, 3) :: (26, .bipush (-4), 2) :: (28, .goto 15, 3) :: (31, .aload_n 0, 1) :: (32, .iload_n 3, 1) :: (33, .invokestatic 60, 3) :: (36, .bipush 6, 2) :: (38, .iadd, 1) :: (39, .iload_n 2, 1) :: (40, .invokevirtual 54, 3) :: (43, .ireturn, 1) :: []) (by decide +kernel)
theorem e_X8_priority_0 : decode cX8_priority 0 = .ok (.iload_n 1, 1) := D_X8_priority_0.1
theorem e_X8_priority_1 : decode cX8_priority 1 = .ok (.ifCond .lt 13, 3) := D_X8_priority_0.2.1
theorem e_X8_priority_4 : decode cX8_priority 4 = .ok (.iload_n 2, 1) := D_X8_priority_0.2.2.1
theorem e_X8_priority_5 : decode cX8_priority 5 = .ok (.iconst 0, 1) := D_X8_priority_0.2.2.2.1
theorem e_X8_priority_6 : decode cX8_priority 6 = .ok (.bipush 9, 2) := D_X8_priority_0.2.2.2.2.1
theorem e_X8_priority_8 : decode cX8_priority 8 = .ok (.invokestatic 32, 3) := D_X8_priority_0.2.2.2.2.2.1
theorem e_X8_priority_11 : decode cX8_priority 11 = .ok (.ifCond .ne 5, 3) := D_X8_priority_0.2.2.2.2.2.2.1
theorem e_X8_priority_14 : decode cX8_priority 14 = .ok (.iconst (-1), 1) := D_X8_priority_0.2.2.2.2.2.2.2.1
theorem e_X8_priority_15 : decode cX8_priority 15 = .ok (.ireturn, 1) := D_X8_priority_0.2.2.2.2.2.2.2.2.1
theorem e_X8_priority_16 : decode cX8_priority 16 = .ok (.aload_n 0, 1) := D_X8_priority_0.2.2.2.2.2.2.2.2.2.1
theorem e_X8_priority_17 : decode cX8_priority 17 = .ok (.iload_n 1, 1) := D_X8_priority_0.2.2.2.2.2.2.2.2.2.2.1
theorem e_X8_priority_18 : decode cX8_priority 18 = .ok (.invokevirtual 87, 3) := D_X8_priority_0.2.2.2.2.2.2.2.2.2.2.2.1
theorem e_X8_priority_21 : decode cX8_priority 21 = .ok (.istore_n 3, 1) := D_X8_priority_0.2.2.2.2.2.2.2.2.2.2.2.2.1
theorem e_X8_priority_22 : decode cX8_priority 22 = .ok (.iload_n 3, 1) := D_X8_priority_0.2.2.2.2.2.2.2.2.2.2.2.2.2.1
theorem e_X8_priority_23 : decode cX8_priority 23 = .ok (.ifCond .ge 8, 3) := D_X8_priority_0.2.2.2.2.2.2.2.2.2.2.2.2.2.2.1
theorem e_X8_priority_26 : decode cX8_priority 26 = .ok (.bipush (-4), 2) := D_X8_priority_0.2.2.2.2.2.2.2.2.2.2.2.2.2.2.2.1
theorem e_X8_priority_28 : decode cX8_priority 28 = .ok (.goto 15, 3) := D_X8_priority_0.2.2.2.2.2.2.2.2.2.2.2.2.2.2.2.2.1
theorem e_X8_priority_31 : decode cX8_priority 31 = .ok (.aload_n 0, 1) := D_X8_priority_0.2.2.2.2.2.2.2.2.2.2.2.2.2.2.2.2.2.1
theorem e_X8_priority_32 : decode cX8_priority 32 = .ok (.iload_n 3, 1) := D_X8_priority_0.2.2.2.2.2.2.2.2.2.2.2.2.2.2.2.2.2.2.1
theorem e_X8_priority_33 : decode cX8_priority 33 = .ok (.invokestatic 60, 3) := D_X8_priority_0.2.2.2.2.2.2.2.2.2.2.2.2.2.2.2.2.2.2.2.1
theorem e_X8_priority_36 : decode cX8_priority 36 = .ok (.bipush 6, 2) := D_X8_priority_0.2.2.2.2.2.2.2.2.2.2.2.2.2.2.2.2.2.2.2.2.1
theorem e_X8_priority_38 : decode cX8_priority 38 = .ok (.iadd, 1) := D_X8_priority_0.2.2.2.2.2.2.2.2.2.2.2.2.2.2.2.2.2.2.2.2.2.1
theorem e_X8_priority_39 : decode cX8_priority 39 = .ok (.iload_n 2, 1) := D_X8_priority_0.2.2.2.2.2.2.2.2.2.2.2.2.2.2.2.2.2.2.2.2.2.2.1
theorem e_X8_priority_40 : decode cX8_priority 40 = .ok (.invokevirtual 54, 3) := D_X8_priority_0.2.2.2.2.2.2.2.2.2.2.2.2.2.2.2.2.2.2.2.2.2.2.2.1
theorem e_X8_priority_43 : decode cX8_priority 43 = .ok (.ireturn, 1) := D_X8_priority_0.2.2.2.2.2.2.2.2.2.2.2.2.2.2.2.2.2.2.2.2.2.2.2.2.1
set_option maxRecDepth 100000 in
theorem D_X8_setSheets_0 : decode cX8_setSheets 0 = .ok (.aload_n 0, 1) ∧ decode cX8_setSheets 1 = .ok (.iload_n 1, 1) ∧ decode cX8_setSheets 2 = .ok (.iconst 1, 1) ∧ decode cX8_setSheets 3 = .ok (.invokevirtual 64, 3) ∧ decode cX8_setSheets 6 = .ok (.aload_n 0, 1) ∧ decode cX8_setSheets 7 = .ok (.iload_n 1, 1) ∧ decode cX8_setSheets 8 = .ok (.iconst 5, 1) ∧ decode cX8_setSheets 9 = .ok (.invokevirtual 64, 3) ∧ decode cX8_setSheets 12 = .ok (.invokestatic 67, 3) ∧ decode cX8_setSheets 15 = .ok (.ireturn, 1) ∧ True := dq_of (l := (0, .aload_n 0, 1) :: (1, .iload_n 1, 1) :: (2, .iconst 1, 1) :: (3, .invokevirtual 64, 3) :: (6, .aload_n 0, 1) :: (7, .iload_n 1, 1) :: (8, .iconst 5, 1) :: (9, .invokevirtual 64, 3) :: (12, .invokestatic 67, 3) :: (15, .ireturn, 1) :: []) (by decide +kernel)
theorem e_X8_setSheets_0 : decode cX8_setSheets 0 = .ok (.aload_n 0, 1) := D_X8_setSheets_0.1
theorem e_X8_setSheets_1 : decode cX8_setSheets 1 = .ok (.iload_n 1, 1) := D_X8_setSheets_0.2.1
theorem e_X8_setSheets_2 : decode cX8_setSheets 2 = .ok (.iconst 1, 1) := D_X8_setSheets_0.2.2.1
theorem e_X8_setSheets_3 : decode cX8_setSheets 3 = .ok (.invokevirtual 64, 3) := D_X8_setSheets_0.2.2.2.1
theorem e_X8_setSheets_6 : decode cX8_setSheets 6 = .ok (.aload_n 0, 1) := D_X8_setSheets_0.2.2.2.2.1
theorem e_X8_setSheets_7 : decode cX8_setSheets 7 = .ok (.iload_n 1, 1) := D_X8_setSheets_0.2.2.2.2.2.1
theorem e_X8_setSheets_8 : decode cX8_setSheets 8 = .ok (.iconst 5, 1) := D_X8_setSheets_0.2.2.2.2.2.2.1
theorem e_X8_setSheets_9 : decode cX8_setSheets 9 = .ok (.invokevirtual 64, 3) := D_X8_setSheets_0.2.2.2.2.2.2.2.1
theorem e_X8_setSheets_12 : decode cX8_setSheets 12 = .ok (.invokestatic 67, 3) := D_X8_setSheets_0.2.2.2.2.2.2.2.2.1
theorem e_X8_setSheets_15 : decode cX8_setSheets 15 = .ok (.ireturn, 1) := D_X8_setSheets_0.2.2.2.2.2.2.2.2.2.1
set_option maxRecDepth 100000 in
theorem D_X8_allSheets_0 : decode cX8_allSheets 0 = .ok (.aload_n 0, 1) ∧ decode cX8_allSheets 1 = .ok (.iload_n 1, 1) ∧ decode cX8_allSheets 2 = .ok (.invokevirtual 97, 3) ∧ decode cX8_allSheets 5 = .ok (.aload_n 0, 1) ∧ decode cX8_allSheets 6 = .ok (.iload_n 1, 1) ∧ decode cX8_allSheets 7 = .ok (.iconst 2, 1) ∧ decode cX8_allSheets 8 = .ok (.invokevirtual 64, 3) ∧ decode cX8_allSheets 11 = .ok (.imul, 1) ∧ decode cX8_allSheets 12 = .ok (.ireturn, 1) ∧ True := dq_of (l := (0, .aload_n 0, 1) :: (1, .iload_n 1, 1) :: (2, .invokevirtual 97, 3) :: (5, .aload_n 0, 1) :: (6, .iload_n 1, 1) :: (7, .iconst 2, 1) :: (8, .invokevirtual 64, 3) :: (11, .imul, 1) :: (12, .ireturn, 1) :: []) (by decide +kernel)
theorem e_X8_allSheets_0 : decode cX8_allSheets 0 = .ok (.aload_n 0, 1) := D_X8_allSheets_0.1
theorem e_X8_allSheets_1 : decode cX8_allSheets 1 = .ok (.iload_n 1, 1) := D_X8_allSheets_0.2.1
theorem e_X8_allSheets_2 : decode cX8_allSheets 2 = .ok (.invokevirtual 97, 3) := D_X8_allSheets_0.2.2.1
theorem e_X8_allSheets_5 : decode cX8_allSheets 5 = .ok (.aload_n 0, 1) := D_X8_allSheets_0.2.2.2.1
theorem e_X8_allSheets_6 : decode cX8_allSheets 6 = .ok (.iload_n 1, 1) := D_X8_allSheets_0.2.2.2.2.1
theorem e_X8_allSheets_7 : decode cX8_allSheets 7 = .ok (.iconst 2, 1) := D_X8_allSheets_0.2.2.2.2.2.1
theorem e_X8_allSheets_8 : decode cX8_allSheets 8 = .ok (.invokevirtual 64, 3) := D_X8_allSheets_0.2.2.2.2.2.2.1
theorem e_X8_allSheets_11 : decode cX8_allSheets 11 = .ok (.imul, 1) := D_X8_allSheets_0.2.2.2.2.2.2.2.1
theorem e_X8_allSheets_12 : decode cX8_allSheets 12 = .ok (.ireturn, 1) := D_X8_allSheets_0.2.2.2.2.2.2.2.2.1
set_option maxRecDepth 100000 in
theorem D_X8_isGathered_0 : decode cX8_isGathered 0 = .ok (.aload_n 0, 1) ∧ decode cX8_isGathered 1 = .ok (.iload_n 1, 1) ∧ decode cX8_isGathered 2 = .ok (.iconst 5, 1) ∧ decode cX8_isGathered 3 = .ok (.invokevirtual 64, 3) ∧ decode cX8_isGathered 6 = .ok (.iconst 2, 1) ∧ decode cX8_isGathered 7 = .ok (.iand, 1) ∧ decode cX8_isGathered 8 = .ok (.iconst 2, 1) ∧ decode cX8_isGathered 9 = .ok (.if_icmp .ne 7, 3) ∧ decode cX8_isGathered 12 = .ok (.iconst 1, 1) ∧ decode cX8_isGathered 13 = .ok (.goto 4, 3) ∧ decode cX8_isGathered 16 = .ok (.iconst 0, 1) ∧ decode cX8_isGathered 17 = .ok (.ireturn, 1) ∧ True := dq_of (l := (0, .aload_n 0, 1) :: (1, .iload_n 1, 1) :: (2, .iconst 5, 1) :: (3, .invokevirtual 64, 3) :: (6, .iconst 2, 1) :: (7, .iand, 1) :: (8, .iconst 2, 1) :: (9, .if_icmp .ne 7, 3) :: (12, .iconst 1, 1) :: (13, .goto 4, 3) :: (16, .iconst 0, 1) :: (17, .ireturn, 1) :: []) (by decide +kernel)
theorem e_X8_isGathered_0 : decode cX8_isGathered 0 = .ok (.aload_n 0, 1) := D_X8_isGathered_0.1
theorem e_X8_isGathered_1 : decode cX8_isGathered 1 = .ok (.iload_n 1, 1) := D_X8_isGathered_0.2.1
theorem e_X8_isGathered_2 : decode cX8_isGathered 2 = .ok (.iconst 5, 1) := D_X8_isGathered_0.2.2.1
theorem e_X8_isGathered_3 : decode cX8_isGathered 3 = .ok (.invokevirtual 64, 3) := D_X8_isGathered_0.2.2.2.1
theorem e_X8_isGathered_6 : decode cX8_isGathered 6 = .ok (.iconst 2, 1) := D_X8_isGathered_0.2.2.2.2.1
theorem e_X8_isGathered_7 : decode cX8_isGathered 7 = .ok (.iand, 1) := D_X8_isGathered_0.2.2.2.2.2.1
theorem e_X8_isGathered_8 : decode cX8_isGathered 8 = .ok (.iconst 2, 1) := D_X8_isGathered_0.2.2.2.2.2.2.1
theorem e_X8_isGathered_9 : decode cX8_isGathered 9 = .ok (.if_icmp .ne 7, 3) := D_X8_isGathered_0.2.2.2.2.2.2.2.1
theorem e_X8_isGathered_12 : decode cX8_isGathered 12 = .ok (.iconst 1, 1) := D_X8_isGathered_0.2.2.2.2.2.2.2.2.1
theorem e_X8_isGathered_13 : decode cX8_isGathered 13 = .ok (.goto 4, 3) := D_X8_isGathered_0.2.2.2.2.2.2.2.2.2.1
theorem e_X8_isGathered_16 : decode cX8_isGathered 16 = .ok (.iconst 0, 1) := D_X8_isGathered_0.2.2.2.2.2.2.2.2.2.2.1
theorem e_X8_isGathered_17 : decode cX8_isGathered 17 = .ok (.ireturn, 1) := D_X8_isGathered_0.2.2.2.2.2.2.2.2.2.2.2.1
set_option maxRecDepth 100000 in
theorem D_X8_nextSheet_0 : decode cX8_nextSheet 0 = .ok (.aload_n 0, 1) ∧ decode cX8_nextSheet 1 = .ok (.iload_n 1, 1) ∧ decode cX8_nextSheet 2 = .ok (.invokevirtual 100, 3) ∧ decode cX8_nextSheet 5 = .ok (.ifCond .eq 19, 3) ∧ decode cX8_nextSheet 8 = .ok (.aload_n 0, 1) ∧ decode cX8_nextSheet 9 = .ok (.iload_n 1, 1) ∧ decode cX8_nextSheet 10 = .ok (.bipush 8, 2) ∧ decode cX8_nextSheet 12 = .ok (.invokevirtual 64, 3) ∧ decode cX8_nextSheet 15 = .ok (.aload_n 0, 1) ∧ decode cX8_nextSheet 16 = .ok (.iload_n 1, 1) ∧ decode cX8_nextSheet 17 = .ok (.invokevirtual 97, 3) ∧ decode cX8_nextSheet 20 = .ok (.irem, 1) ∧ decode cX8_nextSheet 21 = .ok (.goto 17, 3) ∧ decode cX8_nextSheet 24 = .ok (.aload_n 0, 1) ∧ decode cX8_nextSheet 25 = .ok (.iload_n 1, 1) ∧ decode cX8_nextSheet 26 = .ok (.bipush 8, 2) ∧ decode cX8_nextSheet 28 = .ok (.invokevirtual 64, 3) ∧ decode cX8_nextSheet 31 = .ok (.aload_n 0, 1) ∧ decode cX8_nextSheet 32 = .ok (.iload_n 1, 1) ∧ decode cX8_nextSheet 33 = .ok (.iconst 2, 1) ∧ decode cX8_nextSheet 34 = .ok (.invokevirtual 64, 3) ∧ decode cX8_nextSheet 37 = .ok (.idiv, 1) ∧ decode cX8_nextSheet 38 = .ok (.ireturn, 1) ∧ True := dq_of (l := (0, .aload_n 0, 1) :: (1, .iload_n 1, 1) :: (2, .invokevirtual 100, 3) :: (5, .ifCond .eq 19, 3) :: (8, .aload_n 0, 1) :: (9, .iload_n 1, 1) :: (10, .bipush 8, 2) :: (12, .invokevirtual 64, 3) :: (15, .aload_n 0, 1) :: (16, .iload_n 1, 1) :: (17, .invokevirtual 97, 3) :: (20, .irem, 1) :: (21, .goto 17, 3) :: (24, .aload_n 0, 1) :: (25, .iload_n 1, 1) :: (26, .bipush 8, 2) :: (28, .invokevirtual 64, 3) :: (31, .aload_n 0, 1) :: (32, .iload_n 1, 1) :: (33, .iconst 2, 1) :: (34, .invokevirtual 64, 3) :: (37, .idiv, 1) :: (38, .ireturn, 1) :: []) (by decide +kernel)
theorem e_X8_nextSheet_0 : decode cX8_nextSheet 0 = .ok (.aload_n 0, 1) := D_X8_nextSheet_0.1
theorem e_X8_nextSheet_1 : decode cX8_nextSheet 1 = .ok (.iload_n 1, 1) := D_X8_nextSheet_0.2.1
theorem e_X8_nextSheet_2 : decode cX8_nextSheet 2 = .ok (.invokevirtual 100, 3) := D_X8_nextSheet_0.2.2.1
theorem e_X8_nextSheet_5 : decode cX8_nextSheet 5 = .ok (.ifCond .eq 19, 3) := D_X8_nextSheet_0.2.2.2.1
theorem e_X8_nextSheet_8 : decode cX8_nextSheet 8 = .ok (.aload_n 0, 1) := D_X8_nextSheet_0.2.2.2.2.1
theorem e_X8_nextSheet_9 : decode cX8_nextSheet 9 = .ok (.iload_n 1, 1) := D_X8_nextSheet_0.2.2.2.2.2.1
theorem e_X8_nextSheet_10 : decode cX8_nextSheet 10 = .ok (.bipush 8, 2) := D_X8_nextSheet_0.2.2.2.2.2.2.1
theorem e_X8_nextSheet_12 : decode cX8_nextSheet 12 = .ok (.invokevirtual 64, 3) := D_X8_nextSheet_0.2.2.2.2.2.2.2.1
theorem e_X8_nextSheet_15 : decode cX8_nextSheet 15 = .ok (.aload_n 0, 1) := D_X8_nextSheet_0.2.2.2.2.2.2.2.2.1
theorem e_X8_nextSheet_16 : decode cX8_nextSheet 16 = .ok (.iload_n 1, 1) := D_X8_nextSheet_0.2.2.2.2.2.2.2.2.2.1
theorem e_X8_nextSheet_17 : decode cX8_nextSheet 17 = .ok (.invokevirtual 97, 3) := D_X8_nextSheet_0.2.2.2.2.2.2.2.2.2.2.1
theorem e_X8_nextSheet_20 : decode cX8_nextSheet 20 = .ok (.irem, 1) := D_X8_nextSheet_0.2.2.2.2.2.2.2.2.2.2.2.1
theorem e_X8_nextSheet_21 : decode cX8_nextSheet 21 = .ok (.goto 17, 3) := D_X8_nextSheet_0.2.2.2.2.2.2.2.2.2.2.2.2.1
theorem e_X8_nextSheet_24 : decode cX8_nextSheet 24 = .ok (.aload_n 0, 1) := D_X8_nextSheet_0.2.2.2.2.2.2.2.2.2.2.2.2.2.1
theorem e_X8_nextSheet_25 : decode cX8_nextSheet 25 = .ok (.iload_n 1, 1) := D_X8_nextSheet_0.2.2.2.2.2.2.2.2.2.2.2.2.2.2.1
theorem e_X8_nextSheet_26 : decode cX8_nextSheet 26 = .ok (.bipush 8, 2) := D_X8_nextSheet_0.2.2.2.2.2.2.2.2.2.2.2.2.2.2.2.1
theorem e_X8_nextSheet_28 : decode cX8_nextSheet 28 = .ok (.invokevirtual 64, 3) := D_X8_nextSheet_0.2.2.2.2.2.2.2.2.2.2.2.2.2.2.2.2.1
theorem e_X8_nextSheet_31 : decode cX8_nextSheet 31 = .ok (.aload_n 0, 1) := D_X8_nextSheet_0.2.2.2.2.2.2.2.2.2.2.2.2.2.2.2.2.2.1
theorem e_X8_nextSheet_32 : decode cX8_nextSheet 32 = .ok (.iload_n 1, 1) := D_X8_nextSheet_0.2.2.2.2.2.2.2.2.2.2.2.2.2.2.2.2.2.2.1
theorem e_X8_nextSheet_33 : decode cX8_nextSheet 33 = .ok (.iconst 2, 1) := D_X8_nextSheet_0.2.2.2.2.2.2.2.2.2.2.2.2.2.2.2.2.2.2.2.1
theorem e_X8_nextSheet_34 : decode cX8_nextSheet 34 = .ok (.invokevirtual 64, 3) := D_X8_nextSheet_0.2.2.2.2.2.2.2.2.2.2.2.2.2.2.2.2.2.2.2.2.1
theorem e_X8_nextSheet_37 : decode cX8_nextSheet 37 = .ok (.idiv, 1) := D_X8_nextSheet_0.2.2.2.2.2.2.2.2.2.2.2.2.2.2.2.2.2.2.2.2.2.1
theorem e_X8_nextSheet_38 : decode cX8_nextSheet 38 = .ok (.ireturn, 1) := D_X8_nextSheet_0.2.2.2.2.2.2.2.2.2.2.2.2.2.2.2.2.2.2.2.2.2.2.1
set_option maxRecDepth 100000 in
theorem D_X8_nextCopy_0 : decode cX8_nextCopy 0 = .ok (.aload_n 0, 1) ∧ decode cX8_nextCopy 1 = .ok (.iload_n 1, 1) ∧ decode cX8_nextCopy 2 = .ok (.invokevirtual 100, 3) ∧ decode cX8_nextCopy 5 = .ok (.ifCond .eq 19, 3) ∧ decode cX8_nextCopy 8 = .ok (.aload_n 0, 1) ∧ decode cX8_nextCopy 9 = .ok (.iload_n 1, 1) ∧ decode cX8_nextCopy 10 = .ok (.bipush 8, 2) ∧ decode cX8_nextCopy 12 = .ok (.invokevirtual 64, 3) ∧ decode cX8_nextCopy 15 = .ok (.aload_n 0, 1) ∧ decode cX8_nextCopy 16 = .ok (.iload_n 1, 1) ∧ decode cX8_nextCopy 17 = .ok (.invokevirtual 97, 3) ∧ decode cX8_nextCopy 20 = .ok (.idiv, 1) ∧ decode cX8_nextCopy 21 = .ok (.goto 17, 3) ∧ decode cX8_nextCopy 24 = .ok (.aload_n 0, 1) ∧ decode cX8_nextCopy 25 = .ok (.iload_n 1, 1) ∧ decode cX8_nextCopy 26 = .ok (.bipush 8, 2) ∧ decode cX8_nextCopy 28 = .ok (.invokevirtual 64, 3) ∧ decode cX8_nextCopy 31 = .ok (.aload_n 0, 1) ∧ decode cX8_nextCopy 32 = .ok (.iload_n 1, 1) ∧ decode cX8_nextCopy 33 = .ok (.iconst 2, 1) ∧ decode cX8_nextCopy 34 = .ok (.invokevirtual 64, 3) ∧ decode cX8_nextCopy 37 = .ok (.irem, 1) ∧ decode cX8_nextCopy 38 = .ok (.ireturn, 1) ∧ True := dq_of (l := (0, .aload_n 0, 1) :: (1, .iload_n 1, 1) :: (2, .invokevirtual 100, 3) :: (5, .ifCond .eq 19, 3) :: (8, .aload_n 0, 1) :: (9, .iload_n 1, 1) :: (10, .bipush 8, 2) :: (12, .invokevirtual 64, 3) :: (15, .aload_n 0, 1) :: (16, .iload_n 1, 1) :: (17, .invokevirtual 97, 3) :: (20, .idiv, 1) :: (21, .goto 17, 3) :: (24, .aload_n 0, 1) :: (25, .iload_n 1, 1) :: (26, .bipush 8, 2) :: (28, .invokevirtual 64, 3) :: (31, .aload_n 0, 1) :: (32, .iload_n 1, 1) :: (33, .iconst 2, 1) :: (34, .invokevirtual 64, 3) :: (37, .irem, 1) :: (38, .ireturn, 1) :: []) (by decide +kernel)
theorem e_X8_nextCopy_0 : decode cX8_nextCopy 0 = .ok (.aload_n 0, 1) := D_X8_nextCopy_0.1
theorem e_X8_nextCopy_1 : decode cX8_nextCopy 1 = .ok (.iload_n 1, 1) := D_X8_nextCopy_0.2.1
theorem e_X8_nextCopy_2 : decode cX8_nextCopy 2 = .ok (.invokevirtual 100, 3) := D_X8_nextCopy_0.2.2.1
theorem e_X8_nextCopy_5 : decode cX8_nextCopy 5 = .ok (.ifCond .eq 19, 3) := D_X8_nextCopy_0.2.2.2.1
theorem e_X8_nextCopy_8 : decode cX8_nextCopy 8 = .ok (.aload_n 0, 1) := D_X8_nextCopy_0.2.2.2.2.1
theorem e_X8_nextCopy_9 : decode cX8_nextCopy 9 = .ok (.iload_n 1, 1) := D_X8_nextCopy_0.2.2.2.2.2.1
theorem e_X8_nextCopy_10 : decode cX8_nextCopy 10 = .ok (.bipush 8, 2) := D_X8_nextCopy_0.2.2.2.2.2.2.1
theorem e_X8_nextCopy_12 : decode cX8_nextCopy 12 = .ok (.invokevirtual 64, 3) := D_X8_nextCopy_0.2.2.2.2.2.2.2.1
theorem e_X8_nextCopy_15 : decode cX8_nextCopy 15 = .ok (.aload_n 0, 1) := D_X8_nextCopy_0.2.2.2.2.2.2.2.2.1
theorem e_X8_nextCopy_16 : decode cX8_nextCopy 16 = .ok (.iload_n 1, 1) := D_X8_nextCopy_0.2.2.2.2.2.2.2.2.2.1
theorem e_X8_nextCopy_17 : decode cX8_nextCopy 17 = .ok (.invokevirtual 97, 3) := D_X8_nextCopy_0.2.2.2.2.2.2.2.2.2.2.1
theorem e_X8_nextCopy_20 : decode cX8_nextCopy 20 = .ok (.idiv, 1) := D_X8_nextCopy_0.2.2.2.2.2.2.2.2.2.2.2.1
theorem e_X8_nextCopy_21 : decode cX8_nextCopy 21 = .ok (.goto 17, 3) := D_X8_nextCopy_0.2.2.2.2.2.2.2.2.2.2.2.2.1
theorem e_X8_nextCopy_24 : decode cX8_nextCopy 24 = .ok (.aload_n 0, 1) := D_X8_nextCopy_0.2.2.2.2.2.2.2.2.2.2.2.2.2.1
theorem e_X8_nextCopy_25 : decode cX8_nextCopy 25 = .ok (.iload_n 1, 1) := D_X8_nextCopy_0.2.2.2.2.2.2.2.2.2.2.2.2.2.2.1
theorem e_X8_nextCopy_26 : decode cX8_nextCopy 26 = .ok (.bipush 8, 2) := D_X8_nextCopy_0.2.2.2.2.2.2.2.2.2.2.2.2.2.2.2.1
theorem e_X8_nextCopy_28 : decode cX8_nextCopy 28 = .ok (.invokevirtual 64, 3) := D_X8_nextCopy_0.2.2.2.2.2.2.2.2.2.2.2.2.2.2.2.2.1
theorem e_X8_nextCopy_31 : decode cX8_nextCopy 31 = .ok (.aload_n 0, 1) := D_X8_nextCopy_0.2.2.2.2.2.2.2.2.2.2.2.2.2.2.2.2.2.1
theorem e_X8_nextCopy_32 : decode cX8_nextCopy 32 = .ok (.iload_n 1, 1) := D_X8_nextCopy_0.2.2.2.2.2.2.2.2.2.2.2.2.2.2.2.2.2.2.1
theorem e_X8_nextCopy_33 : decode cX8_nextCopy 33 = .ok (.iconst 2, 1) := D_X8_nextCopy_0.2.2.2.2.2.2.2.2.2.2.2.2.2.2.2.2.2.2.2.1
theorem e_X8_nextCopy_34 : decode cX8_nextCopy 34 = .ok (.invokevirtual 64, 3) := D_X8_nextCopy_0.2.2.2.2.2.2.2.2.2.2.2.2.2.2.2.2.2.2.2.2.1
theorem e_X8_nextCopy_37 : decode cX8_nextCopy 37 = .ok (.irem, 1) := D_X8_nextCopy_0.2.2.2.2.2.2.2.2.2.2.2.2.2.2.2.2.2.2.2.2.2.1
theorem e_X8_nextCopy_38 : decode cX8_nextCopy 38 = .ok (.ireturn, 1) := D_X8_nextCopy_0.2.2.2.2.2.2.2.2.2.2.2.2.2.2.2.2.2.2.2.2.2.2.1
set_option maxRecDepth 100000 in
theorem D_X8_tellJob_0 : decode cX8_tellJob 0 = .ok (.aload_n 0, 1) ∧ decode cX8_tellJob 1 = .ok (.iload_n 1, 1) ∧ decode cX8_tellJob 2 = .ok (.bipush 8, 2) ∧ decode cX8_tellJob 4 = .ok (.invokevirtual 64, 3) ∧ decode cX8_tellJob 7 = .ok (.aload_n 0, 1) ∧ decode cX8_tellJob 8 = .ok (.iload_n 1, 1) ∧ decode cX8_tellJob 9 = .ok (.invokevirtual 103, 3) ∧ decode cX8_tellJob 12 = .ok (.if_icmp .ne 7, 3) ∧ decode cX8_tellJob 15 = .ok (.iconst 1, 1) ∧ decode cX8_tellJob 16 = .ok (.goto 4, 3) ∧ decode cX8_tellJob 19 = .ok (.iconst 0, 1) ∧ decode cX8_tellJob 20 = .ok (.istore_n 3, 1) ∧ decode cX8_tellJob 21 = .ok (.iload_n 2, 1) ∧ decode cX8_tellJob 22 = .ok (.tableswitch 96 7 12 #[38, 44, 50, 58, 66, 81], 38) ∧ decode cX8_tellJob 60 = .ok (.aload_n 0, 1) ∧ decode cX8_tellJob 61 = .ok (.iload_n 1, 1) ∧ decode cX8_tellJob 62 = .ok (.invokevirtual 97, 3) ∧ decode cX8_tellJob 65 = .ok (.ireturn, 1) ∧ decode cX8_tellJob 66 = .ok (.aload_n 0, 1) ∧ decode cX8_tellJob 67 = .ok (.iload_n 1, 1) ∧ decode cX8_tellJob 68 = .ok (.invokevirtual 103, 3) ∧ decode cX8_tellJob 71 = .ok (.ireturn, 1) ∧ decode cX8_tellJob 72 = .ok (.aload_n 0, 1) ∧ decode cX8_tellJob 73 = .ok (.iload_n 1, 1) ∧ decode cX8_tellJob 74 = .ok (.bipush 8, 2) ∧ decode cX8_tellJob 76 = .ok (.invokevirtual 64, 3) ∧ decode cX8_tellJob 79 = .ok (.ireturn, 1) ∧ decode cX8_tellJob 80 = .ok (.aload_n 0, 1) ∧ decode cX8_tellJob 81 = .ok (.iload_n 1, 1) ∧ decode cX8_tellJob 82 = .ok (.bipush 9, 2) ∧ decode cX8_tellJob 84 = .ok (.invokevirtual 64, 3) ∧ decode cX8_tellJob 87 = .ok (.ireturn, 1) ∧ decode cX8_tellJob 88 = .ok (.iload_n 3, 1) ∧ decode cX8_tellJob 89 = .ok (.ifCond .eq 8, 3) ∧ decode cX8_tellJob 92 = .ok (.bipush (-4), 2) ∧ decode cX8_tellJob 94 = .ok (.goto 8, 3) ∧ decode cX8_tellJob 97 = .ok (.aload_n 0, 1) ∧ decode cX8_tellJob 98 = .ok (.iload_n 1, 1) ∧ decode cX8_tellJob 99 = .ok (.invokevirtual 106, 3) ∧ decode cX8_tellJob 102 = .ok (.ireturn, 1) ∧ True := dq_of (l := (0, .aload_n 0, 1) :: (1, .iload_n 1, 1) :: (2, .bipush 8, 2) :: (4, .invokevirtual 64, 3) :: (7, .aload_n 0, 1) :: (8, .iload_n 1, 1) :: (9, .invokevirtual 103, 3) :: (12, .if_icmp .ne 7, 3) :: (15, .iconst 1, 1) :: (16, .goto 4, 3) :: (19, .iconst 0, 1) :: (20, .istore_n 3, 1) :: (21, .iload_n 2, 1) :: (22, .tableswitch 96 7 12 #[38, 44, 50, 58, 66, 81], 38) :: (60, .aload_n 0, 1) :: (61, .iload_n 1, 1) :: (62, .invokevirtual 97, 3) :: (65, .ireturn, 1) :: (66, .aload_n 0, 1) :: (67, .iload_n 1, 1) :: (68, .invokevirtual 103, 3) :: (71, .ireturn, 1) :: (72, .aload_n 0, 1) :: (73, .iload_n 1, 1) :: (74, .bipush 8, 2) :: (76, .invokevirtual 64, 3) :: (79, .ireturn, 1) :: (80, .aload_n 0, 1) :: (81, .iload_n 1, 1) :: (82, .bipush 9, 2) :: (84, .invokevirtual 64, 3) :: (87, .ireturn, 1) :: (88, .iload_n 3, 1) :: (89, .ifCond .eq 8, 3) :: (92, .bipush (-4), 2) :: (94, .goto 8, 3) :: (97, .aload_n 0, 1) :: (98, .iload_n 1, 1) :: (99, .invokevirtual 106, 3) :: (102, .ireturn, 1) :: []) (by decide +kernel)
theorem e_X8_tellJob_0 : decode cX8_tellJob 0 = .ok (.aload_n 0, 1) := D_X8_tellJob_0.1
theorem e_X8_tellJob_1 : decode cX8_tellJob 1 = .ok (.iload_n 1, 1) := D_X8_tellJob_0.2.1
theorem e_X8_tellJob_2 : decode cX8_tellJob 2 = .ok (.bipush 8, 2) := D_X8_tellJob_0.2.2.1
theorem e_X8_tellJob_4 : decode cX8_tellJob 4 = .ok (.invokevirtual 64, 3) := D_X8_tellJob_0.2.2.2.1
theorem e_X8_tellJob_7 : decode cX8_tellJob 7 = .ok (.aload_n 0, 1) := D_X8_tellJob_0.2.2.2.2.1
theorem e_X8_tellJob_8 : decode cX8_tellJob 8 = .ok (.iload_n 1, 1) := D_X8_tellJob_0.2.2.2.2.2.1
theorem e_X8_tellJob_9 : decode cX8_tellJob 9 = .ok (.invokevirtual 103, 3) := D_X8_tellJob_0.2.2.2.2.2.2.1
theorem e_X8_tellJob_12 : decode cX8_tellJob 12 = .ok (.if_icmp .ne 7, 3) := D_X8_tellJob_0.2.2.2.2.2.2.2.1
theorem e_X8_tellJob_15 : decode cX8_tellJob 15 = .ok (.iconst 1, 1) := D_X8_tellJob_0.2.2.2.2.2.2.2.2.1
theorem e_X8_tellJob_16 : decode cX8_tellJob 16 = .ok (.goto 4, 3) := D_X8_tellJob_0.2.2.2.2.2.2.2.2.2.1
theorem e_X8_tellJob_19 : decode cX8_tellJob 19 = .ok (.iconst 0, 1) := D_X8_tellJob_0.2.2.2.2.2.2.2.2.2.2.1
theorem e_X8_tellJob_20 : decode cX8_tellJob 20 = .ok (.istore_n 3, 1) := D_X8_tellJob_0.2.2.2.2.2.2.2.2.2.2.2.1
theorem e_X8_tellJob_21 : decode cX8_tellJob 21 = .ok (.iload_n 2, 1) := D_X8_tellJob_0.2.2.2.2.2.2.2.2.2.2.2.2.1
theorem e_X8_tellJob_22 : decode cX8_tellJob 22 = .ok (.tableswitch 96 7 12 #[38, 44, 50, 58, 66, 81], 38) := D_X8_tellJob_0.2.2.2.2.2.2.2.2.2.2.2.2.2.1
theorem e_X8_tellJob_60 : decode cX8_tellJob 60 = .ok (.aload_n 0, 1) := D_X8_tellJob_0.2.2.2.2.2.2.2.2.2.2.2.2.2.2.1
theorem e_X8_tellJob_61 : decode cX8_tellJob 61 = .ok (.iload_n 1, 1) := D_X8_tellJob_0.2.2.2.2.2.2.2.2.2.2.2.2.2.2.2.1
theorem e_X8_tellJob_62 : decode cX8_tellJob 62 = .ok (.invokevirtual 97, 3) := D_X8_tellJob_0.2.2.2.2.2.2.2.2.2.2.2.2.2.2.2.2.1
theorem e_X8_tellJob_65 : decode cX8_tellJob 65 = .ok (.ireturn, 1) := D_X8_tellJob_0.2.2.2.2.2.2.2.2.2.2.2.2.2.2.2.2.2.1
theorem e_X8_tellJob_66 : decode cX8_tellJob 66 = .ok (.aload_n 0, 1) := D_X8_tellJob_0.2.2.2.2.2.2.2.2.2.2.2.2.2.2.2.2.2.2.1
theorem e_X8_tellJob_67 : decode cX8_tellJob 67 = .ok (.iload_n 1, 1) := D_X8_tellJob_0.2.2.2.2.2.2.2.2.2.2.2.2.2.2.2.2.2.2.2.1
theorem e_X8_tellJob_68 : decode cX8_tellJob 68 = .ok (.invokevirtual 103, 3) := D_X8_tellJob_0.2.2.2.2.2.2.2.2.2.2.2.2.2.2.2.2.2.2.2.2.1
theorem e_X8_tellJob_71 : decode cX8_tellJob 71 = .ok (.ireturn, 1) := D_X8_tellJob_0.2.2.2.2.2.2.2.2.2.2.2.2.2.2.2.2.2.2.2.2.2.1
theorem e_X8_tellJob_72 : decode cX8_tellJob 72 = .ok (.aload_n 0, 1) := D_X8_tellJob_0.2.2.2.2.2.2.2.2.2.2.2.2.2.2.2.2.2.2.2.2.2.2.1
theorem e_X8_tellJob_73 : decode cX8_tellJob 73 = .ok (.iload_n 1, 1) := D_X8_tellJob_0.2.2.2.2.2.2.2.2.2.2.2.2.2.2.2.2.2.2.2.2.2.2.2.1
theorem e_X8_tellJob_74 : decode cX8_tellJob 74 = .ok (.bipush 8, 2) := D_X8_tellJob_0.2.2.2.2.2.2.2.2.2.2.2.2.2.2.2.2.2.2.2.2.2.2.2.2.1
theorem e_X8_tellJob_76 : decode cX8_tellJob 76 = .ok (.invokevirtual 64, 3) := D_X8_tellJob_0.2.2.2.2.2.2.2.2.2.2.2.2.2.2.2.2.2.2.2.2.2.2.2.2.2.1
theorem e_X8_tellJob_79 : decode cX8_tellJob 79 = .ok (.ireturn, 1) := D_X8_tellJob_0.2.2.2.2.2.2.2.2.2.2.2.2.2.2.2.2.2.2.2.2.2.2.2.2.2.2.1
theorem e_X8_tellJob_80 : decode cX8_tellJob 80 = .ok (.aload_n 0, 1) := D_X8_tellJob_0.2.2.2.2.2.2.2.2.2.2.2.2.2.2.2.2.2.2.2.2.2.2.2.2.2.2.2.1
theorem e_X8_tellJob_81 : decode cX8_tellJob 81 = .ok (.iload_n 1, 1) := D_X8_tellJob_0.2.2.2.2.2.2.2.2.2.2.2.2.2.2.2.2.2.2.2.2.2.2.2.2.2.2.2.2.1
theorem e_X8_tellJob_82 : decode cX8_tellJob 82 = .ok (.bipush 9, 2) := D_X8_tellJob_0.2.2.2.2.2.2.2.2.2.2.2.2.2.2.2.2.2.2.2.2.2.2.2.2.2.2.2.2.2.1
theorem e_X8_tellJob_84 : decode cX8_tellJob 84 = .ok (.invokevirtual 64, 3) := D_X8_tellJob_0.2.2.2.2.2.2.2.2.2.2.2.2.2.2.2.2.2.2.2.2.2.2.2.2.2.2.2.2.2.2.1
theorem e_X8_tellJob_87 : decode cX8_tellJob 87 = .ok (.ireturn, 1) := D_X8_tellJob_0.2.2.2.2.2.2.2.2.2.2.2.2.2.2.2.2.2.2.2.2.2.2.2.2.2.2.2.2.2.2.2.1
theorem e_X8_tellJob_88 : decode cX8_tellJob 88 = .ok (.iload_n 3, 1) := D_X8_tellJob_0.2.2.2.2.2.2.2.2.2.2.2.2.2.2.2.2.2.2.2.2.2.2.2.2.2.2.2.2.2.2.2.2.1
theorem e_X8_tellJob_89 : decode cX8_tellJob 89 = .ok (.ifCond .eq 8, 3) := D_X8_tellJob_0.2.2.2.2.2.2.2.2.2.2.2.2.2.2.2.2.2.2.2.2.2.2.2.2.2.2.2.2.2.2.2.2.2.1
theorem e_X8_tellJob_92 : decode cX8_tellJob 92 = .ok (.bipush (-4), 2) := D_X8_tellJob_0.2.2.2.2.2.2.2.2.2.2.2.2.2.2.2.2.2.2.2.2.2.2.2.2.2.2.2.2.2.2.2.2.2.2.1
theorem e_X8_tellJob_94 : decode cX8_tellJob 94 = .ok (.goto 8, 3) := D_X8_tellJob_0.2.2.2.2.2.2.2.2.2.2.2.2.2.2.2.2.2.2.2.2.2.2.2.2.2.2.2.2.2.2.2.2.2.2.2.1
theorem e_X8_tellJob_97 : decode cX8_tellJob 97 = .ok (.aload_n 0, 1) := D_X8_tellJob_0.2.2.2.2.2.2.2.2.2.2.2.2.2.2.2.2.2.2.2.2.2.2.2.2.2.2.2.2.2.2.2.2.2.2.2.2.1
theorem e_X8_tellJob_98 : decode cX8_tellJob 98 = .ok (.iload_n 1, 1) := D_X8_tellJob_0.2.2.2.2.2.2.2.2.2.2.2.2.2.2.2.2.2.2.2.2.2.2.2.2.2.2.2.2.2.2.2.2.2.2.2.2.2.1
theorem e_X8_tellJob_99 : decode cX8_tellJob 99 = .ok (.invokevirtual 106, 3) := D_X8_tellJob_0.2.2.2.2.2.2.2.2.2.2.2.2.2.2.2.2.2.2.2.2.2.2.2.2.2.2.2.2.2.2.2.2.2.2.2.2.2.2.1
theorem e_X8_tellJob_102 : decode cX8_tellJob 102 = .ok (.ireturn, 1) := D_X8_tellJob_0.2.2.2.2.2.2.2.2.2.2.2.2.2.2.2.2.2.2.2.2.2.2.2.2.2.2.2.2.2.2.2.2.2.2.2.2.2.2.2.1
set_option maxRecDepth 100000 in
theorem D_X8_tellJob_1 : decode cX8_tellJob 103 = .ok (.iload_n 3, 1) ∧ decode cX8_tellJob 104 = .ok (.ifCond .eq 8, 3) ∧ decode cX8_tellJob 107 = .ok (.bipush (-4), 2) ∧ decode cX8_tellJob 109 = .ok (.goto 8, 3) ∧ decode cX8_tellJob 112 = .ok (.aload_n 0, 1) ∧ decode cX8_tellJob 113 = .ok (.iload_n 1, 1) ∧ decode cX8_tellJob 114 = .ok (.invokevirtual 109, 3) ∧ decode cX8_tellJob 117 = .ok (.ireturn, 1) ∧ decode cX8_tellJob 118 = .ok (.aload_n 0, 1) ∧ decode cX8_tellJob 119 = .ok (.iload_n 1, 1) ∧ decode cX8_tellJob 120 = .ok (.iconst 1, 1) ∧ decode cX8_tellJob 121 = .ok (.iload_n 2, 1) ∧ decode cX8_tellJob 122 = .ok (.iadd, 1) ∧ decode cX8_tellJob 123 = .ok (.invokevirtual 64, 3) ∧ decode cX8_tellJob 126 = .ok (.ireturn, 1) ∧ True := dq_of (l := (103, .iload_n 3, 1) :: (104, .ifCond .eq 8, 3) :: (107, .bipush (-4), 2) :: (109, .goto 8, 3) :: (112, .aload_n 0, 1) :: (113, .iload_n 1, 1) :: (114, .invokevirtual 109, 3) :: (117, .ireturn, 1) :: (118, .aload_n 0, 1) :: (119, .iload_n 1, 1) :: (120, .iconst 1, 1) :: (121, .iload_n 2, 1) :: (122, .iadd, 1) :: (123, .invokevirtual 64, 3) :: (126, .ireturn, 1) :: []) (by decide +kernel)
theorem e_X8_tellJob_103 : decode cX8_tellJob 103 = .ok (.iload_n 3, 1) := D_X8_tellJob_1.1
theorem e_X8_tellJob_104 : decode cX8_tellJob 104 = .ok (.ifCond .eq 8, 3) := D_X8_tellJob_1.2.1
theorem e_X8_tellJob_107 : decode cX8_tellJob 107 = .ok (.bipush (-4), 2) := D_X8_tellJob_1.2.2.1
theorem e_X8_tellJob_109 : decode cX8_tellJob 109 = .ok (.goto 8, 3) := D_X8_tellJob_1.2.2.2.1
theorem e_X8_tellJob_112 : decode cX8_tellJob 112 = .ok (.aload_n 0, 1) := D_X8_tellJob_1.2.2.2.2.1
theorem e_X8_tellJob_113 : decode cX8_tellJob 113 = .ok (.iload_n 1, 1) := D_X8_tellJob_1.2.2.2.2.2.1
theorem e_X8_tellJob_114 : decode cX8_tellJob 114 = .ok (.invokevirtual 109, 3) := D_X8_tellJob_1.2.2.2.2.2.2.1
theorem e_X8_tellJob_117 : decode cX8_tellJob 117 = .ok (.ireturn, 1) := D_X8_tellJob_1.2.2.2.2.2.2.2.1
theorem e_X8_tellJob_118 : decode cX8_tellJob 118 = .ok (.aload_n 0, 1) := D_X8_tellJob_1.2.2.2.2.2.2.2.2.1
theorem e_X8_tellJob_119 : decode cX8_tellJob 119 = .ok (.iload_n 1, 1) := D_X8_tellJob_1.2.2.2.2.2.2.2.2.2.1
theorem e_X8_tellJob_120 : decode cX8_tellJob 120 = .ok (.iconst 1, 1) := D_X8_tellJob_1.2.2.2.2.2.2.2.2.2.2.1
theorem e_X8_tellJob_121 : decode cX8_tellJob 121 = .ok (.iload_n 2, 1) := D_X8_tellJob_1.2.2.2.2.2.2.2.2.2.2.2.1
theorem e_X8_tellJob_122 : decode cX8_tellJob 122 = .ok (.iadd, 1) := D_X8_tellJob_1.2.2.2.2.2.2.2.2.2.2.2.2.1
theorem e_X8_tellJob_123 : decode cX8_tellJob 123 = .ok (.invokevirtual 64, 3) := D_X8_tellJob_1.2.2.2.2.2.2.2.2.2.2.2.2.2.1
theorem e_X8_tellJob_126 : decode cX8_tellJob 126 = .ok (.ireturn, 1) := D_X8_tellJob_1.2.2.2.2.2.2.2.2.2.2.2.2.2.2.1
set_option maxRecDepth 100000 in
theorem D_X8_jobInfo_0 : decode cX8_jobInfo 0 = .ok (.iload_n 1, 1) ∧ decode cX8_jobInfo 1 = .ok (.ifCond .lt 13, 3) ∧ decode cX8_jobInfo 4 = .ok (.iload_n 2, 1) ∧ decode cX8_jobInfo 5 = .ok (.iconst 0, 1) ∧ decode cX8_jobInfo 6 = .ok (.bipush 12, 2) ∧ decode cX8_jobInfo 8 = .ok (.invokestatic 32, 3) ∧ decode cX8_jobInfo 11 = .ok (.ifCond .ne 5, 3) ∧ decode cX8_jobInfo 14 = .ok (.iconst (-1), 1) ∧ decode cX8_jobInfo 15 = .ok (.ireturn, 1) ∧ decode cX8_jobInfo 16 = .ok (.aload_n 0, 1) ∧ decode cX8_jobInfo 17 = .ok (.iload_n 1, 1) ∧ decode cX8_jobInfo 18 = .ok (.invokevirtual 87, 3) ∧ decode cX8_jobInfo 21 = .ok (.istore_n 3, 1) ∧ decode cX8_jobInfo 22 = .ok (.iload_n 3, 1) ∧ decode cX8_jobInfo 23 = .ok (.ifCond .ge 8, 3) ∧ decode cX8_jobInfo 26 = .ok (.bipush (-4), 2) ∧ decode cX8_jobInfo 28 = .ok (.goto 9, 3) ∧ decode cX8_jobInfo 31 = .ok (.aload_n 0, 1) ∧ decode cX8_jobInfo 32 = .ok (.iload_n 3, 1) ∧ decode cX8_jobInfo 33 = .ok (.iload_n 2, 1) ∧ decode cX8_jobInfo 34 = .ok (.invokevirtual 112, 3) ∧ decode cX8_jobInfo 37 = .ok (.ireturn, 1) ∧ True := dq_of (l := (0, .iload_n 1, 1) :: (1, .ifCond .lt 13, 3) :: (4, .iload_n 2, 1) :: (5, .iconst 0, 1) :: (6, .bipush 12, 2) :: (8, .invokestatic 32, 3) :: (11, .ifCond .ne 5, 3) :: (14, .iconst (-1), 1) :: (15, .ireturn, 1) :: (16, .aload_n 0, 1) :: (17, .iload_n 1, 1) :: (18, .invokevirtual 87, 3) :: (21, .istore_n 3, 1) :: (22, .iload_n 3, 1) :: (23, .ifCond .ge 8, 3) :: (26, .bipush (-4), 2) :: (28, .goto 9, 3) :: (31, .aload_n 0, 1) :: (32, .iload_n 3, 1) :: (33, .iload_n 2, 1) :: (34, .invokevirtual 112, 3) :: (37, .ireturn, 1) :: []) (by decide +kernel)
theorem e_X8_jobInfo_0 : decode cX8_jobInfo 0 = .ok (.iload_n 1, 1) := D_X8_jobInfo_0.1
theorem e_X8_jobInfo_1 : decode cX8_jobInfo 1 = .ok (.ifCond .lt 13, 3) := D_X8_jobInfo_0.2.1
theorem e_X8_jobInfo_4 : decode cX8_jobInfo 4 = .ok (.iload_n 2, 1) := D_X8_jobInfo_0.2.2.1
theorem e_X8_jobInfo_5 : decode cX8_jobInfo 5 = .ok (.iconst 0, 1) := D_X8_jobInfo_0.2.2.2.1
theorem e_X8_jobInfo_6 : decode cX8_jobInfo 6 = .ok (.bipush 12, 2) := D_X8_jobInfo_0.2.2.2.2.1
theorem e_X8_jobInfo_8 : decode cX8_jobInfo 8 = .ok (.invokestatic 32, 3) := D_X8_jobInfo_0.2.2.2.2.2.1
theorem e_X8_jobInfo_11 : decode cX8_jobInfo 11 = .ok (.ifCond .ne 5, 3) := D_X8_jobInfo_0.2.2.2.2.2.2.1
theorem e_X8_jobInfo_14 : decode cX8_jobInfo 14 = .ok (.iconst (-1), 1) := D_X8_jobInfo_0.2.2.2.2.2.2.2.1
theorem e_X8_jobInfo_15 : decode cX8_jobInfo 15 = .ok (.ireturn, 1) := D_X8_jobInfo_0.2.2.2.2.2.2.2.2.1
theorem e_X8_jobInfo_16 : decode cX8_jobInfo 16 = .ok (.aload_n 0, 1) := D_X8_jobInfo_0.2.2.2.2.2.2.2.2.2.1
theorem e_X8_jobInfo_17 : decode cX8_jobInfo 17 = .ok (.iload_n 1, 1) := D_X8_jobInfo_0.2.2.2.2.2.2.2.2.2.2.1
theorem e_X8_jobInfo_18 : decode cX8_jobInfo 18 = .ok (.invokevirtual 87, 3) := D_X8_jobInfo_0.2.2.2.2.2.2.2.2.2.2.2.1
theorem e_X8_jobInfo_21 : decode cX8_jobInfo 21 = .ok (.istore_n 3, 1) := D_X8_jobInfo_0.2.2.2.2.2.2.2.2.2.2.2.2.1
theorem e_X8_jobInfo_22 : decode cX8_jobInfo 22 = .ok (.iload_n 3, 1) := D_X8_jobInfo_0.2.2.2.2.2.2.2.2.2.2.2.2.2.1
theorem e_X8_jobInfo_23 : decode cX8_jobInfo 23 = .ok (.ifCond .ge 8, 3) := D_X8_jobInfo_0.2.2.2.2.2.2.2.2.2.2.2.2.2.2.1
theorem e_X8_jobInfo_26 : decode cX8_jobInfo 26 = .ok (.bipush (-4), 2) := D_X8_jobInfo_0.2.2.2.2.2.2.2.2.2.2.2.2.2.2.2.1
theorem e_X8_jobInfo_28 : decode cX8_jobInfo 28 = .ok (.goto 9, 3) := D_X8_jobInfo_0.2.2.2.2.2.2.2.2.2.2.2.2.2.2.2.2.1
theorem e_X8_jobInfo_31 : decode cX8_jobInfo 31 = .ok (.aload_n 0, 1) := D_X8_jobInfo_0.2.2.2.2.2.2.2.2.2.2.2.2.2.2.2.2.2.1
theorem e_X8_jobInfo_32 : decode cX8_jobInfo 32 = .ok (.iload_n 3, 1) := D_X8_jobInfo_0.2.2.2.2.2.2.2.2.2.2.2.2.2.2.2.2.2.2.1
theorem e_X8_jobInfo_33 : decode cX8_jobInfo 33 = .ok (.iload_n 2, 1) := D_X8_jobInfo_0.2.2.2.2.2.2.2.2.2.2.2.2.2.2.2.2.2.2.2.1
theorem e_X8_jobInfo_34 : decode cX8_jobInfo 34 = .ok (.invokevirtual 112, 3) := D_X8_jobInfo_0.2.2.2.2.2.2.2.2.2.2.2.2.2.2.2.2.2.2.2.2.1
theorem e_X8_jobInfo_37 : decode cX8_jobInfo 37 = .ok (.ireturn, 1) := D_X8_jobInfo_0.2.2.2.2.2.2.2.2.2.2.2.2.2.2.2.2.2.2.2.2.2.1
set_option maxRecDepth 100000 in
theorem D_X8_isAhead_0 : decode cX8_isAhead 0 = .ok (.aload_n 0, 1) ∧ decode cX8_isAhead 1 = .ok (.iload_n 1, 1) ∧ decode cX8_isAhead 2 = .ok (.bipush 7, 2) ∧ decode cX8_isAhead 4 = .ok (.invokevirtual 64, 3) ∧ decode cX8_isAhead 7 = .ok (.aload_n 0, 1) ∧ decode cX8_isAhead 8 = .ok (.iload_n 2, 1) ∧ decode cX8_isAhead 9 = .ok (.bipush 7, 2) ∧ decode cX8_isAhead 11 = .ok (.invokevirtual 64, 3) ∧ decode cX8_isAhead 14 = .ok (.if_icmp .eq 19, 3) ∧ decode cX8_isAhead 17 = .ok (.aload_n 0, 1) ∧ decode cX8_isAhead 18 = .ok (.iload_n 1, 1) ∧ decode cX8_isAhead 19 = .ok (.bipush 7, 2) ∧ decode cX8_isAhead 21 = .ok (.invokevirtual 64, 3) ∧ decode cX8_isAhead 24 = .ok (.ifCond .ne 7, 3) ∧ decode cX8_isAhead 27 = .ok (.iconst 1, 1) ∧ decode cX8_isAhead 28 = .ok (.goto 4, 3) ∧ decode cX8_isAhead 31 = .ok (.iconst 0, 1) ∧ decode cX8_isAhead 32 = .ok (.ireturn, 1) ∧ decode cX8_isAhead 33 = .ok (.aload_n 0, 1) ∧ decode cX8_isAhead 34 = .ok (.iload_n 1, 1) ∧ decode cX8_isAhead 35 = .ok (.iconst 0, 1) ∧ decode cX8_isAhead 36 = .ok (.invokevirtual 64, 3) ∧ decode cX8_isAhead 39 = .ok (.aload_n 0, 1) ∧ decode cX8_isAhead 40 = .ok (.getfield 7, 3) ∧ decode cX8_isAhead 43 = .ok (.bipush 7, 2) ∧ decode cX8_isAhead 45 = .ok (.iaload, 1) ∧ decode cX8_isAhead 46 = .ok (.if_icmp .eq 19, 3) ∧ decode cX8_isAhead 49 = .ok (.aload_n 0, 1) ∧ decode cX8_isAhead 50 = .ok (.iload_n 2, 1) ∧ decode cX8_isAhead 51 = .ok (.iconst 0, 1) ∧ decode cX8_isAhead 52 = .ok (.invokevirtual 64, 3) ∧ decode cX8_isAhead 55 = .ok (.aload_n 0, 1) ∧ decode cX8_isAhead 56 = .ok (.getfield 7, 3) ∧ decode cX8_isAhead 59 = .ok (.bipush 7, 2) ∧ decode cX8_isAhead 61 = .ok (.iaload, 1) ∧ decode cX8_isAhead 62 = .ok (.if_icmp .ne 25, 3) ∧ decode cX8_isAhead 65 = .ok (.aload_n 0, 1) ∧ decode cX8_isAhead 66 = .ok (.iload_n 1, 1) ∧ decode cX8_isAhead 67 = .ok (.iconst 0, 1) ∧ decode cX8_isAhead 68 = .ok (.invokevirtual 64, 3) ∧ True := dq_of (l := (0, .aload_n 0, 1) :: (1, .iload_n 1, 1) :: (2, .bipush 7, 2) :: (4, .invokevirtual 64, 3) :: (7, .aload_n 0, 1) :: (8, .iload_n 2, 1) :: (9, .bipush 7, 2) :: (11, .invokevirtual 64, 3) :: (14, .if_icmp .eq 19, 3) :: (17, .aload_n 0, 1) :: (18, .iload_n 1, 1) :: (19, .bipush 7, 2) :: (21, .invokevirtual 64, 3) :: (24, .ifCond .ne 7, 3) :: (27, .iconst 1, 1) :: (28, .goto 4, 3) :: (31, .iconst 0, 1) :: (32, .ireturn, 1) :: (33, .aload_n 0, 1) :: (34, .iload_n 1, 1) :: (35, .iconst 0, 1) :: (36, .invokevirtual 64, 3) :: (39, .aload_n 0, 1) :: (40, .getfield 7, 3) :: (43, .bipush 7, 2) :: (45, .iaload, 1) :: (46, .if_icmp .eq 19, 3) :: (49, .aload_n 0, 1) :: (50, .iload_n 2, 1) :: (51, .iconst 0, 1) :: (52, .invokevirtual 64, 3) :: (55, .aload_n 0, 1) :: (56, .getfield 7, 3) :: (59, .bipush 7, 2) :: (61, .iaload, 1) :: (62, .if_icmp .ne 25, 3) :: (65, .aload_n 0, 1) :: (66, .iload_n 1, 1) :: (67, .iconst 0, 1) :: (68, .invokevirtual 64, 3) :: []) (by decide +kernel)
theorem e_X8_isAhead_0 : decode cX8_isAhead 0 = .ok (.aload_n 0, 1) := D_X8_isAhead_0.1
theorem e_X8_isAhead_1 : decode cX8_isAhead 1 = .ok (.iload_n 1, 1) := D_X8_isAhead_0.2.1
theorem e_X8_isAhead_2 : decode cX8_isAhead 2 = .ok (.bipush 7, 2) := D_X8_isAhead_0.2.2.1
theorem e_X8_isAhead_4 : decode cX8_isAhead 4 = .ok (.invokevirtual 64, 3) := D_X8_isAhead_0.2.2.2.1
theorem e_X8_isAhead_7 : decode cX8_isAhead 7 = .ok (.aload_n 0, 1) := D_X8_isAhead_0.2.2.2.2.1
theorem e_X8_isAhead_8 : decode cX8_isAhead 8 = .ok (.iload_n 2, 1) := D_X8_isAhead_0.2.2.2.2.2.1
theorem e_X8_isAhead_9 : decode cX8_isAhead 9 = .ok (.bipush 7, 2) := D_X8_isAhead_0.2.2.2.2.2.2.1
theorem e_X8_isAhead_11 : decode cX8_isAhead 11 = .ok (.invokevirtual 64, 3) := D_X8_isAhead_0.2.2.2.2.2.2.2.1
theorem e_X8_isAhead_14 : decode cX8_isAhead 14 = .ok (.if_icmp .eq 19, 3) := D_X8_isAhead_0.2.2.2.2.2.2.2.2.1
theorem e_X8_isAhead_17 : decode cX8_isAhead 17 = .ok (.aload_n 0, 1) := D_X8_isAhead_0.2.2.2.2.2.2.2.2.2.1
theorem e_X8_isAhead_18 : decode cX8_isAhead 18 = .ok (.iload_n 1, 1) := D_X8_isAhead_0.2.2.2.2.2.2.2.2.2.2.1
theorem e_X8_isAhead_19 : decode cX8_isAhead 19 = .ok (.bipush 7, 2) := D_X8_isAhead_0.2.2.2.2.2.2.2.2.2.2.2.1
theorem e_X8_isAhead_21 : decode cX8_isAhead 21 = .ok (.invokevirtual 64, 3) := D_X8_isAhead_0.2.2.2.2.2.2.2.2.2.2.2.2.1
theorem e_X8_isAhead_24 : decode cX8_isAhead 24 = .ok (.ifCond .ne 7, 3) := D_X8_isAhead_0.2.2.2.2.2.2.2.2.2.2.2.2.2.1
theorem e_X8_isAhead_27 : decode cX8_isAhead 27 = .ok (.iconst 1, 1) := D_X8_isAhead_0.2.2.2.2.2.2.2.2.2.2.2.2.2.2.1
theorem e_X8_isAhead_28 : decode cX8_isAhead 28 = .ok (.goto 4, 3) := D_X8_isAhead_0.2.2.2.2.2.2.2.2.2.2.2.2.2.2.2.1
theorem e_X8_isAhead_31 : decode cX8_isAhead 31 = .ok (.iconst 0, 1) := D_X8_isAhead_0.2.2.2.2.2.2.2.2.2.2.2.2.2.2.2.2.1
theorem e_X8_isAhead_32 : decode cX8_isAhead 32 = .ok (.ireturn, 1) := D_X8_isAhead_0.2.2.2.2.2.2.2.2.2.2.2.2.2.2.2.2.2.1
theorem e_X8_isAhead_33 : decode cX8_isAhead 33 = .ok (.aload_n 0, 1) := D_X8_isAhead_0.2.2.2.2.2.2.2.2.2.2.2.2.2.2.2.2.2.2.1
theorem e_X8_isAhead_34 : decode cX8_isAhead 34 = .ok (.iload_n 1, 1) := D_X8_isAhead_0.2.2.2.2.2.2.2.2.2.2.2.2.2.2.2.2.2.2.2.1
theorem e_X8_isAhead_35 : decode cX8_isAhead 35 = .ok (.iconst 0, 1) := D_X8_isAhead_0.2.2.2.2.2.2.2.2.2.2.2.2.2.2.2.2.2.2.2.2.1
theorem e_X8_isAhead_36 : decode cX8_isAhead 36 = .ok (.invokevirtual 64, 3) := D_X8_isAhead_0.2.2.2.2.2.2.2.2.2.2.2.2.2.2.2.2.2.2.2.2.2.1
theorem e_X8_isAhead_39 : decode cX8_isAhead 39 = .ok (.aload_n 0, 1) := D_X8_isAhead_0.2.2.2.2.2.2.2.2.2.2.2.2.2.2.2.2.2.2.2.2.2.2.1
theorem e_X8_isAhead_40 : decode cX8_isAhead 40 = .ok (.getfield 7, 3) := D_X8_isAhead_0.2.2.2.2.2.2.2.2.2.2.2.2.2.2.2.2.2.2.2.2.2.2.2.1
theorem e_X8_isAhead_43 : decode cX8_isAhead 43 = .ok (.bipush 7, 2) := D_X8_isAhead_0.2.2.2.2.2.2.2.2.2.2.2.2.2.2.2.2.2.2.2.2.2.2.2.2.1
theorem e_X8_isAhead_45 : decode cX8_isAhead 45 = .ok (.iaload, 1) := D_X8_isAhead_0.2.2.2.2.2.2.2.2.2.2.2.2.2.2.2.2.2.2.2.2.2.2.2.2.2.1
theorem e_X8_isAhead_46 : decode cX8_isAhead 46 = .ok (.if_icmp .eq 19, 3) := D_X8_isAhead_0.2.2.2.2.2.2.2.2.2.2.2.2.2.2.2.2.2.2.2.2.2.2.2.2.2.2.1
theorem e_X8_isAhead_49 : decode cX8_isAhead 49 = .ok (.aload_n 0, 1) := D_X8_isAhead_0.2.2.2.2.2.2.2.2.2.2.2.2.2.2.2.2.2.2.2.2.2.2.2.2.2.2.2.1
theorem e_X8_isAhead_50 : decode cX8_isAhead 50 = .ok (.iload_n 2, 1) := D_X8_isAhead_0.2.2.2.2.2.2.2.2.2.2.2.2.2.2.2.2.2.2.2.2.2.2.2.2.2.2.2.2.1
theorem e_X8_isAhead_51 : decode cX8_isAhead 51 = .ok (.iconst 0, 1) := D_X8_isAhead_0.2.2.2.2.2.2.2.2.2.2.2.2.2.2.2.2.2.2.2.2.2.2.2.2.2.2.2.2.2.1
theorem e_X8_isAhead_52 : decode cX8_isAhead 52 = .ok (.invokevirtual 64, 3) := D_X8_isAhead_0.2.2.2.2.2.2.2.2.2.2.2.2.2.2.2.2.2.2.2.2.2.2.2.2.2.2.2.2.2.2.1
theorem e_X8_isAhead_55 : decode cX8_isAhead 55 = .ok (.aload_n 0, 1) := D_X8_isAhead_0.2.2.2.2.2.2.2.2.2.2.2.2.2.2.2.2.2.2.2.2.2.2.2.2.2.2.2.2.2.2.2.1
theorem e_X8_isAhead_56 : decode cX8_isAhead 56 = .ok (.getfield 7, 3) := D_X8_isAhead_0.2.2.2.2.2.2.2.2.2.2.2.2.2.2.2.2.2.2.2.2.2.2.2.2.2.2.2.2.2.2.2.2.1
theorem e_X8_isAhead_59 : decode cX8_isAhead 59 = .ok (.bipush 7, 2) := D_X8_isAhead_0.2.2.2.2.2.2.2.2.2.2.2.2.2.2.2.2.2.2.2.2.2.2.2.2.2.2.2.2.2.2.2.2.2.1
theorem e_X8_isAhead_61 : decode cX8_isAhead 61 = .ok (.iaload, 1) := D_X8_isAhead_0.2.2.2.2.2.2.2.2.2.2.2.2.2.2.2.2.2.2.2.2.2.2.2.2.2.2.2.2.2.2.2.2.2.2.1
theorem e_X8_isAhead_62 : decode cX8_isAhead 62 = .ok (.if_icmp .ne 25, 3) := D_X8_isAhead_0.2.2.2.2.2.2.2.2.2.2.2.2.2.2.2.2.2.2.2.2.2.2.2.2.2.2.2.2.2.2.2.2.2.2.2.1
theorem e_X8_isAhead_65 : decode cX8_isAhead 65 = .ok (.aload_n 0, 1) := D_X8_isAhead_0.2.2.2.2.2.2.2.2.2.2.2.2.2.2.2.2.2.2.2.2.2.2.2.2.2.2.2.2.2.2.2.2.2.2.2.2.1
theorem e_X8_isAhead_66 : decode cX8_isAhead 66 = .ok (.iload_n 1, 1) := D_X8_isAhead_0.2.2.2.2.2.2.2.2.2.2.2.2.2.2.2.2.2.2.2.2.2.2.2.2.2.2.2.2.2.2.2.2.2.2.2.2.2.1
theorem e_X8_isAhead_67 : decode cX8_isAhead 67 = .ok (.iconst 0, 1) := D_X8_isAhead_0.2.2.2.2.2.2.2.2.2.2.2.2.2.2.2.2.2.2.2.2.2.2.2.2.2.2.2.2.2.2.2.2.2.2.2.2.2.2.1
theorem e_X8_isAhead_68 : decode cX8_isAhead 68 = .ok (.invokevirtual 64, 3) := D_X8_isAhead_0.2.2.2.2.2.2.2.2.2.2.2.2.2.2.2.2.2.2.2.2.2.2.2.2.2.2.2.2.2.2.2.2.2.2.2.2.2.2.2.1
set_option maxRecDepth 100000 in
theorem D_X8_isAhead_1 : decode cX8_isAhead 71 = .ok (.aload_n 0, 1) ∧ decode cX8_isAhead 72 = .ok (.getfield 7, 3) ∧ decode cX8_isAhead 75 = .ok (.bipush 7, 2) ∧ decode cX8_isAhead 77 = .ok (.iaload, 1) ∧ decode cX8_isAhead 78 = .ok (.if_icmp .ne 7, 3) ∧ decode cX8_isAhead 81 = .ok (.iconst 1, 1) ∧ decode cX8_isAhead 82 = .ok (.goto 4, 3) ∧ decode cX8_isAhead 85 = .ok (.iconst 0, 1) ∧ decode cX8_isAhead 86 = .ok (.ireturn, 1) ∧ decode cX8_isAhead 87 = .ok (.aload_n 0, 1) ∧ decode cX8_isAhead 88 = .ok (.iload_n 1, 1) ∧ decode cX8_isAhead 89 = .ok (.bipush 6, 2) ∧ decode cX8_isAhead 91 = .ok (.invokevirtual 64, 3) ∧ decode cX8_isAhead 94 = .ok (.aload_n 0, 1) ∧ decode cX8_isAhead 95 = .ok (.iload_n 2, 1) ∧ decode cX8_isAhead 96 = .ok (.bipush 6, 2) ∧ decode cX8_isAhead 98 = .ok (.invokevirtual 64, 3) ∧ decode cX8_isAhead 101 = .ok (.if_icmp .eq 28, 3) ∧ decode cX8_isAhead 104 = .ok (.aload_n 0, 1) ∧ decode cX8_isAhead 105 = .ok (.iload_n 1, 1) ∧ decode cX8_isAhead 106 = .ok (.bipush 6, 2) ∧ decode cX8_isAhead 108 = .ok (.invokevirtual 64, 3) ∧ decode cX8_isAhead 111 = .ok (.aload_n 0, 1) ∧ decode cX8_isAhead 112 = .ok (.iload_n 2, 1) ∧ decode cX8_isAhead 113 = .ok (.bipush 6, 2) ∧ decode cX8_isAhead 115 = .ok (.invokevirtual 64, 3) ∧ decode cX8_isAhead 118 = .ok (.if_icmp .le 7, 3) ∧ decode cX8_isAhead 121 = .ok (.iconst 1, 1) ∧ decode cX8_isAhead 122 = .ok (.goto 17, 3) ∧ decode cX8_isAhead 125 = .ok (.iconst 0, 1) ∧ decode cX8_isAhead 126 = .ok (.goto 13, 3) ∧ decode cX8_isAhead 129 = .ok (.iload_n 1, 1) ∧ decode cX8_isAhead 130 = .ok (.iload_n 2, 1) ∧ decode cX8_isAhead 131 = .ok (.if_icmp .ge 7, 3) ∧ decode cX8_isAhead 134 = .ok (.iconst 1, 1) ∧ decode cX8_isAhead 135 = .ok (.goto 4, 3) ∧ decode cX8_isAhead 138 = .ok (.iconst 0, 1) ∧ decode cX8_isAhead 139 = .ok (.ireturn, 1) ∧ True := dq_of (l := (71, .aload_n 0, 1) :: (72, .getfield 7, 3) :: (75, .bipush 7, 2) :: (77, .iaload, 1) :: (78, .if_icmp .ne 7, 3) :: (81, .iconst 1, 1) :: (82, .goto 4, 3) :: (85, .iconst 0, 1) :: (86, .ireturn, 1) :: (87, .aload_n 0, 1) :: (88, .iload_n 1, 1) :: (89, .bipush 6, 2) :: (91, .invokevirtual 64, 3) :: (94, .aload_n 0, 1) :: (95, .iload_n 2, 1) :: (96, .bipush 6, 2) :: (98, .invokevirtual 64, 3) :: (101, .if_icmp .eq 28, 3) :: (104, .aload_n 0, 1) :: (105, .iload_n 1, 1) :: (106, .bipush 6, 2) :: (108, .invokevirtual 64, 3) :: (111, .aload_n 0, 1) :: (112, .iload_n 2, 1) :: (113, .bipush 6, 2) :: (115, .invokevirtual 64, 3) :: (118, .if_icmp .le 7, 3) :: (121, .iconst 1, 1) :: (122, .goto 17, 3) :: (125, .iconst 0, 1) :: (126, .goto 13, 3) :: (129, .iload_n 1, 1) :: (130, .iload_n 2, 1) :: (131, .if_icmp .ge 7, 3) :: (134, .iconst 1, 1) :: (135, .goto 4, 3) :: (138, .iconst 0, 1) :: (139, .ireturn, 1) :: []) (by decide +kernel)
theorem e_X8_isAhead_71 : decode cX8_isAhead 71 = .ok (.aload_n 0, 1) := D_X8_isAhead_1.1
theorem e_X8_isAhead_72 : decode cX8_isAhead 72 = .ok (.getfield 7, 3) := D_X8_isAhead_1.2.1
theorem e_X8_isAhead_75 : decode cX8_isAhead 75 = .ok (.bipush 7, 2) := D_X8_isAhead_1.2.2.1
theorem e_X8_isAhead_77 : decode cX8_isAhead 77 = .ok (.iaload, 1) := D_X8_isAhead_1.2.2.2.1
theorem e_X8_isAhead_78 : decode cX8_isAhead 78 = .ok (.if_icmp .ne 7, 3) := D_X8_isAhead_1.2.2.2.2.1
theorem e_X8_isAhead_81 : decode cX8_isAhead 81 = .ok (.iconst 1, 1) := D_X8_isAhead_1.2.2.2.2.2.1
theorem e_X8_isAhead_82 : decode cX8_isAhead 82 = .ok (.goto 4, 3) := D_X8_isAhead_1.2.2.2.2.2.2.1
theorem e_X8_isAhead_85 : decode cX8_isAhead 85 = .ok (.iconst 0, 1) := D_X8_isAhead_1.2.2.2.2.2.2.2.1
theorem e_X8_isAhead_86 : decode cX8_isAhead 86 = .ok (.ireturn, 1) := D_X8_isAhead_1.2.2.2.2.2.2.2.2.1
theorem e_X8_isAhead_87 : decode cX8_isAhead 87 = .ok (.aload_n 0, 1) := D_X8_isAhead_1.2.2.2.2.2.2.2.2.2.1
theorem e_X8_isAhead_88 : decode cX8_isAhead 88 = .ok (.iload_n 1, 1) := D_X8_isAhead_1.2.2.2.2.2.2.2.2.2.2.1
theorem e_X8_isAhead_89 : decode cX8_isAhead 89 = .ok (.bipush 6, 2) := D_X8_isAhead_1.2.2.2.2.2.2.2.2.2.2.2.1
theorem e_X8_isAhead_91 : decode cX8_isAhead 91 = .ok (.invokevirtual 64, 3) := D_X8_isAhead_1.2.2.2.2.2.2.2.2.2.2.2.2.1
theorem e_X8_isAhead_94 : decode cX8_isAhead 94 = .ok (.aload_n 0, 1) := D_X8_isAhead_1.2.2.2.2.2.2.2.2.2.2.2.2.2.1
theorem e_X8_isAhead_95 : decode cX8_isAhead 95 = .ok (.iload_n 2, 1) := D_X8_isAhead_1.2.2.2.2.2.2.2.2.2.2.2.2.2.2.1
theorem e_X8_isAhead_96 : decode cX8_isAhead 96 = .ok (.bipush 6, 2) := D_X8_isAhead_1.2.2.2.2.2.2.2.2.2.2.2.2.2.2.2.1
theorem e_X8_isAhead_98 : decode cX8_isAhead 98 = .ok (.invokevirtual 64, 3) := D_X8_isAhead_1.2.2.2.2.2.2.2.2.2.2.2.2.2.2.2.2.1
theorem e_X8_isAhead_101 : decode cX8_isAhead 101 = .ok (.if_icmp .eq 28, 3) := D_X8_isAhead_1.2.2.2.2.2.2.2.2.2.2.2.2.2.2.2.2.2.1
theorem e_X8_isAhead_104 : decode cX8_isAhead 104 = .ok (.aload_n 0, 1) := D_X8_isAhead_1.2.2.2.2.2.2.2.2.2.2.2.2.2.2.2.2.2.2.1
theorem e_X8_isAhead_105 : decode cX8_isAhead 105 = .ok (.iload_n 1, 1) := D_X8_isAhead_1.2.2.2.2.2.2.2.2.2.2.2.2.2.2.2.2.2.2.2.1
theorem e_X8_isAhead_106 : decode cX8_isAhead 106 = .ok (.bipush 6, 2) := D_X8_isAhead_1.2.2.2.2.2.2.2.2.2.2.2.2.2.2.2.2.2.2.2.2.1
theorem e_X8_isAhead_108 : decode cX8_isAhead 108 = .ok (.invokevirtual 64, 3) := D_X8_isAhead_1.2.2.2.2.2.2.2.2.2.2.2.2.2.2.2.2.2.2.2.2.2.1
theorem e_X8_isAhead_111 : decode cX8_isAhead 111 = .ok (.aload_n 0, 1) := D_X8_isAhead_1.2.2.2.2.2.2.2.2.2.2.2.2.2.2.2.2.2.2.2.2.2.2.1
theorem e_X8_isAhead_112 : decode cX8_isAhead 112 = .ok (.iload_n 2, 1) := D_X8_isAhead_1.2.2.2.2.2.2.2.2.2.2.2.2.2.2.2.2.2.2.2.2.2.2.2.1
theorem e_X8_isAhead_113 : decode cX8_isAhead 113 = .ok (.bipush 6, 2) := D_X8_isAhead_1.2.2.2.2.2.2.2.2.2.2.2.2.2.2.2.2.2.2.2.2.2.2.2.2.1
theorem e_X8_isAhead_115 : decode cX8_isAhead 115 = .ok (.invokevirtual 64, 3) := D_X8_isAhead_1.2.2.2.2.2.2.2.2.2.2.2.2.2.2.2.2.2.2.2.2.2.2.2.2.2.1
theorem e_X8_isAhead_118 : decode cX8_isAhead 118 = .ok (.if_icmp .le 7, 3) := D_X8_isAhead_1.2.2.2.2.2.2.2.2.2.2.2.2.2.2.2.2.2.2.2.2.2.2.2.2.2.2.1
theorem e_X8_isAhead_121 : decode cX8_isAhead 121 = .ok (.iconst 1, 1) := D_X8_isAhead_1.2.2.2.2.2.2.2.2.2.2.2.2.2.2.2.2.2.2.2.2.2.2.2.2.2.2.2.1
theorem e_X8_isAhead_122 : decode cX8_isAhead 122 = .ok (.goto 17, 3) := D_X8_isAhead_1.2.2.2.2.2.2.2.2.2.2.2.2.2.2.2.2.2.2.2.2.2.2.2.2.2.2.2.2.1
theorem e_X8_isAhead_125 : decode cX8_isAhead 125 = .ok (.iconst 0, 1) := D_X8_isAhead_1.2.2.2.2.2.2.2.2.2.2.2.2.2.2.2.2.2.2.2.2.2.2.2.2.2.2.2.2.2.1
theorem e_X8_isAhead_126 : decode cX8_isAhead 126 = .ok (.goto 13, 3) := D_X8_isAhead_1.2.2.2.2.2.2.2.2.2.2.2.2.2.2.2.2.2.2.2.2.2.2.2.2.2.2.2.2.2.2.1
theorem e_X8_isAhead_129 : decode cX8_isAhead 129 = .ok (.iload_n 1, 1) := D_X8_isAhead_1.2.2.2.2.2.2.2.2.2.2.2.2.2.2.2.2.2.2.2.2.2.2.2.2.2.2.2.2.2.2.2.1
theorem e_X8_isAhead_130 : decode cX8_isAhead 130 = .ok (.iload_n 2, 1) := D_X8_isAhead_1.2.2.2.2.2.2.2.2.2.2.2.2.2.2.2.2.2.2.2.2.2.2.2.2.2.2.2.2.2.2.2.2.1
theorem e_X8_isAhead_131 : decode cX8_isAhead 131 = .ok (.if_icmp .ge 7, 3) := D_X8_isAhead_1.2.2.2.2.2.2.2.2.2.2.2.2.2.2.2.2.2.2.2.2.2.2.2.2.2.2.2.2.2.2.2.2.2.1
theorem e_X8_isAhead_134 : decode cX8_isAhead 134 = .ok (.iconst 1, 1) := D_X8_isAhead_1.2.2.2.2.2.2.2.2.2.2.2.2.2.2.2.2.2.2.2.2.2.2.2.2.2.2.2.2.2.2.2.2.2.2.1
theorem e_X8_isAhead_135 : decode cX8_isAhead 135 = .ok (.goto 4, 3) := D_X8_isAhead_1.2.2.2.2.2.2.2.2.2.2.2.2.2.2.2.2.2.2.2.2.2.2.2.2.2.2.2.2.2.2.2.2.2.2.2.1
theorem e_X8_isAhead_138 : decode cX8_isAhead 138 = .ok (.iconst 0, 1) := D_X8_isAhead_1.2.2.2.2.2.2.2.2.2.2.2.2.2.2.2.2.2.2.2.2.2.2.2.2.2.2.2.2.2.2.2.2.2.2.2.2.1
theorem e_X8_isAhead_139 : decode cX8_isAhead 139 = .ok (.ireturn, 1) := D_X8_isAhead_1.2.2.2.2.2.2.2.2.2.2.2.2.2.2.2.2.2.2.2.2.2.2.2.2.2.2.2.2.2.2.2.2.2.2.2.2.2.1
