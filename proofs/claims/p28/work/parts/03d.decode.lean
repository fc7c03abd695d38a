set_option maxRecDepth 100000 in
theorem D_L_acts_0 : decode cL_acts 0 = .ok (.aload_n 0, 1) ∧ decode cL_acts 1 = .ok (.iconst 0, 1) ∧ decode cL_acts 2 = .ok (.invokevirtual 13, 3) ∧ decode cL_acts 5 = .ok (.istore_n 3, 1) ∧ decode cL_acts 6 = .ok (.iload_n 3, 1) ∧ decode cL_acts 7 = .ok (.ifCond .ne 7, 3) ∧ decode cL_acts 10 = .ok (.iconst 0, 1) ∧ decode cL_acts 11 = .ok (.goto 10, 3) ∧ decode cL_acts 14 = .ok (.aload_n 0, 1) ∧ decode cL_acts 15 = .ok (.iload_n 2, 1) ∧ decode cL_acts 16 = .ok (.iload_n 3, 1) ∧ decode cL_acts 17 = .ok (.irem, 1) ∧ decode cL_acts 18 = .ok (.invokevirtual 22, 3) ∧ decode cL_acts 21 = .ok (.istore 4, 2) ∧ decode cL_acts 23 = .ok (.iload_n 1, 1) ∧ decode cL_acts 24 = .ok (.bipush 20, 2) ∧ decode cL_acts 26 = .ok (.invokestatic 99, 3) ∧ decode cL_acts 29 = .ok (.tableswitch 381 0 13 #[71, 71, 71, 71, 155, 155, 155, 171, 217, 230, 262, 276, 285, 376], 71) ∧ decode cL_acts 100 = .ok (.aload_n 0, 1) ∧ decode cL_acts 101 = .ok (.iload_n 2, 1) ∧ decode cL_acts 102 = .ok (.iconst 5, 1) ∧ decode cL_acts 103 = .ok (.irem, 1) ∧ decode cL_acts 104 = .ok (.ifCond .ne 13, 3) ∧ decode cL_acts 107 = .ok (.iconst 1, 1) ∧ decode cL_acts 108 = .ok (.iload_n 2, 1) ∧ decode cL_acts 109 = .ok (.iconst 5, 1) ∧ decode cL_acts 110 = .ok (.idiv, 1) ∧ decode cL_acts 111 = .ok (.iconst 3, 1) ∧ decode cL_acts 112 = .ok (.irem, 1) ∧ decode cL_acts 113 = .ok (.iadd, 1) ∧ decode cL_acts 114 = .ok (.goto 11, 3) ∧ decode cL_acts 117 = .ok (.iconst 1, 1) ∧ decode cL_acts 118 = .ok (.iload_n 2, 1) ∧ decode cL_acts 119 = .ok (.iconst 5, 1) ∧ decode cL_acts 120 = .ok (.idiv, 1) ∧ decode cL_acts 121 = .ok (.bipush 20, 2) ∧ decode cL_acts 123 = .ok (.irem, 1) ∧ decode cL_acts 124 = .ok (.iadd, 1) ∧ decode cL_acts 125 = .ok (.iconst 1, 1) ∧ decode cL_acts 126 = .ok (.iload_n 2, 1) ∧ True := dq_of (l := (0, .aload_n 0, 1) :: (1, .iconst 0, 1) :: (2, .invokevirtual 13, 3) :: (5, .istore_n 3, 1) :: (6, .iload_n 3, 1) :: (7, .ifCond .ne 7, 3) :: (10, .iconst 0, 1) :: (11, .goto 10, 3) :: (14, .aload_n 0, 1) :: (15, .iload_n 2, 1) :: (16, .iload_n 3, 1) :: (17, .irem, 1) :: (18, .invokevirtual 22, 3) :: (21, .istore 4, 2) :: (23, .iload_n 1, 1) :: (24, .bipush 20, 2) :: (26, .invokestatic 99, 3) :: (29, .tableswitch 381 0 13 #[71, 71, 71, 71, 155, 155, 155, 171, 217, 230, 262, 276, 285, 376], 71) :: (100, .aload_n 0, 1) :: (101, .iload_n 2, 1) :: (102, .iconst 5, 1) :: (103, .irem, 1) :: (104, .ifCond .ne 13, 3) :: (107, .iconst 1, 1) :: (108, .iload_n 2, 1) :: (109, .iconst 5, 1) :: (110, .idiv, 1) :: (111, .iconst 3, 1) :: (112, .irem, 1) :: (113, .iadd, 1) :: (114, .goto 11, 3) :: (117, .iconst 1, 1) :: (118, .iload_n 2, 1) :: (119, .iconst 5, 1) :: (120, .idiv, 1) :: (121, .bipush 20, 2) :: (123, .irem, 1) :: (124, .iadd, 1) :: (125, .iconst 1, 1) :: (126, .iload_n 2, 1) :: []) (by decide +kernel)
theorem e_L_acts_0 : decode cL_acts 0 = .ok (.aload_n 0, 1) := D_L_acts_0.1
theorem e_L_acts_1 : decode cL_acts 1 = .ok (.iconst 0, 1) := D_L_acts_0.2.1
theorem e_L_acts_2 : decode cL_acts 2 = .ok (.invokevirtual 13, 3) := D_L_acts_0.2.2.1
theorem e_L_acts_5 : decode cL_acts 5 = .ok (.istore_n 3, 1) := D_L_acts_0.2.2.2.1
theorem e_L_acts_6 : decode cL_acts 6 = .ok (.iload_n 3, 1) := D_L_acts_0.2.2.2.2.1
theorem e_L_acts_7 : decode cL_acts 7 = .ok (.ifCond .ne 7, 3) := D_L_acts_0.2.2.2.2.2.1
theorem e_L_acts_10 : decode cL_acts 10 = .ok (.iconst 0, 1) := D_L_acts_0.2.2.2.2.2.2.1
theorem e_L_acts_11 : decode cL_acts 11 = .ok (.goto 10, 3) := D_L_acts_0.2.2.2.2.2.2.2.1
theorem e_L_acts_14 : decode cL_acts 14 = .ok (.aload_n 0, 1) := D_L_acts_0.2.2.2.2.2.2.2.2.1
theorem e_L_acts_15 : decode cL_acts 15 = .ok (.iload_n 2, 1) := D_L_acts_0.2.2.2.2.2.2.2.2.2.1
theorem e_L_acts_16 : decode cL_acts 16 = .ok (.iload_n 3, 1) := D_L_acts_0.2.2.2.2.2.2.2.2.2.2.1
theorem e_L_acts_17 : decode cL_acts 17 = .ok (.irem, 1) := D_L_acts_0.2.2.2.2.2.2.2.2.2.2.2.1
theorem e_L_acts_18 : decode cL_acts 18 = .ok (.invokevirtual 22, 3) := D_L_acts_0.2.2.2.2.2.2.2.2.2.2.2.2.1
theorem e_L_acts_21 : decode cL_acts 21 = .ok (.istore 4, 2) := D_L_acts_0.2.2.2.2.2.2.2.2.2.2.2.2.2.1
theorem e_L_acts_23 : decode cL_acts 23 = .ok (.iload_n 1, 1) := D_L_acts_0.2.2.2.2.2.2.2.2.2.2.2.2.2.2.1
theorem e_L_acts_24 : decode cL_acts 24 = .ok (.bipush 20, 2) := D_L_acts_0.2.2.2.2.2.2.2.2.2.2.2.2.2.2.2.1
theorem e_L_acts_26 : decode cL_acts 26 = .ok (.invokestatic 99, 3) := D_L_acts_0.2.2.2.2.2.2.2.2.2.2.2.2.2.2.2.2.1
theorem e_L_acts_29 : decode cL_acts 29 = .ok (.tableswitch 381 0 13 #[71, 71, 71, 71, 155, 155, 155, 171, 217, 230, 262, 276, 285, 376], 71) := D_L_acts_0.2.2.2.2.2.2.2.2.2.2.2.2.2.2.2.2.2.1
theorem e_L_acts_100 : decode cL_acts 100 = .ok (.aload_n 0, 1) := D_L_acts_0.2.2.2.2.2.2.2.2.2.2.2.2.2.2.2.2.2.2.1
theorem e_L_acts_101 : decode cL_acts 101 = .ok (.iload_n 2, 1) := D_L_acts_0.2.2.2.2.2.2.2.2.2.2.2.2.2.2.2.2.2.2.2.1
theorem e_L_acts_102 : decode cL_acts 102 = .ok (.iconst 5, 1) := D_L_acts_0.2.2.2.2.2.2.2.2.2.2.2.2.2.2.2.2.2.2.2.2.1
theorem e_L_acts_103 : decode cL_acts 103 = .ok (.irem, 1) := D_L_acts_0.2.2.2.2.2.2.2.2.2.2.2.2.2.2.2.2.2.2.2.2.2.1
theorem e_L_acts_104 : decode cL_acts 104 = .ok (.ifCond .ne 13, 3) := D_L_acts_0.2.2.2.2.2.2.2.2.2.2.2.2.2.2.2.2.2.2.2.2.2.2.1
theorem e_L_acts_107 : decode cL_acts 107 = .ok (.iconst 1, 1) := D_L_acts_0.2.2.2.2.2.2.2.2.2.2.2.2.2.2.2.2.2.2.2.2.2.2.2.1
theorem e_L_acts_108 : decode cL_acts 108 = .ok (.iload_n 2, 1) := D_L_acts_0.2.2.2.2.2.2.2.2.2.2.2.2.2.2.2.2.2.2.2.2.2.2.2.2.1
theorem e_L_acts_109 : decode cL_acts 109 = .ok (.iconst 5, 1) := D_L_acts_0.2.2.2.2.2.2.2.2.2.2.2.2.2.2.2.2.2.2.2.2.2.2.2.2.2.1
theorem e_L_acts_110 : decode cL_acts 110 = .ok (.idiv, 1) := D_L_acts_0.2.2.2.2.2.2.2.2.2.2.2.2.2.2.2.2.2.2.2.2.2.2.2.2.2.2.1
theorem e_L_acts_111 : decode cL_acts 111 = .ok (.iconst 3, 1) := D_L_acts_0.2.2.2.2.2.2.2.2.2.2.2.2.2.2.2.2.2.2.2.2.2.2.2.2.2.2.2.1
theorem e_L_acts_112 : decode cL_acts 112 = .ok (.irem, 1) := D_L_acts_0.2.2.2.2.2.2.2.2.2.2.2.2.2.2.2.2.2.2.2.2.2.2.2.2.2.2.2.2.1
theorem e_L_acts_113 : decode cL_acts 113 = .ok (.iadd, 1) := D_L_acts_0.2.2.2.2.2.2.2.2.2.2.2.2.2.2.2.2.2.2.2.2.2.2.2.2.2.2.2.2.2.1
theorem e_L_acts_114 : decode cL_acts 114 = .ok (.goto 11, 3) := D_L_acts_0.2.2.2.2.2.2.2.2.2.2.2.2.2.2.2.2.2.2.2.2.2.2.2.2.2.2.2.2.2.2.1
theorem e_L_acts_117 : decode cL_acts 117 = .ok (.iconst 1, 1) := D_L_acts_0.2.2.2.2.2.2.2.2.2.2.2.2.2.2.2.2.2.2.2.2.2.2.2.2.2.2.2.2.2.2.2.1
theorem e_L_acts_118 : decode cL_acts 118 = .ok (.iload_n 2, 1) := D_L_acts_0.2.2.2.2.2.2.2.2.2.2.2.2.2.2.2.2.2.2.2.2.2.2.2.2.2.2.2.2.2.2.2.2.1
theorem e_L_acts_119 : decode cL_acts 119 = .ok (.iconst 5, 1) := D_L_acts_0.2.2.2.2.2.2.2.2.2.2.2.2.2.2.2.2.2.2.2.2.2.2.2.2.2.2.2.2.2.2.2.2.2.1
theorem e_L_acts_120 : decode cL_acts 120 = .ok (.idiv, 1) := D_L_acts_0.2.2.2.2.2.2.2.2.2.2.2.2.2.2.2.2.2.2.2.2.2.2.2.2.2.2.2.2.2.2.2.2.2.2.1
theorem e_L_acts_121 : decode cL_acts 121 = .ok (.bipush 20, 2) := D_L_acts_0.2.2.2.2.2.2.2.2.2.2.2.2.2.2.2.2.2.2.2.2.2.2.2.2.2.2.2.2.2.2.2.2.2.2.2.1
theorem e_L_acts_123 : decode cL_acts 123 = .ok (.irem, 1) := D_L_acts_0.2.2.2.2.2.2.2.2.2.2.2.2.2.2.2.2.2.2.2.2.2.2.2.2.2.2.2.2.2.2.2.2.2.2.2.2.1
theorem e_L_acts_124 : decode cL_acts 124 = .ok (.iadd, 1) := D_L_acts_0.2.2.2.2.2.2.2.2.2.2.2.2.2.2.2.2.2.2.2.2.2.2.2.2.2.2.2.2.2.2.2.2.2.2.2.2.2.1
theorem e_L_acts_125 : decode cL_acts 125 = .ok (.iconst 1, 1) := D_L_acts_0.2.2.2.2.2.2.2.2.2.2.2.2.2.2.2.2.2.2.2.2.2.2.2.2.2.2.2.2.2.2.2.2.2.2.2.2.2.2.1
theorem e_L_acts_126 : decode cL_acts 126 = .ok (.iload_n 2, 1) := D_L_acts_0.2.2.2.2.2.2.2.2.2.2.2.2.2.2.2.2.2.2.2.2.2.2.2.2.2.2.2.2.2.2.2.2.2.2.2.2.2.2.2.1
set_option maxRecDepth 100000 in
theorem D_L_acts_1 : decode cL_acts 127 = .ok (.bipush 100, 2) ∧ decode cL_acts 129 = .ok (.idiv, 1) ∧ decode cL_acts 130 = .ok (.iconst 4, 1) ∧ decode cL_acts 131 = .ok (.irem, 1) ∧ decode cL_acts 132 = .ok (.iadd, 1) ∧ decode cL_acts 133 = .ok (.iload_n 2, 1) ∧ decode cL_acts 134 = .ok (.sipush 400, 3) ∧ decode cL_acts 137 = .ok (.idiv, 1) ∧ decode cL_acts 138 = .ok (.iconst 3, 1) ∧ decode cL_acts 139 = .ok (.irem, 1) ∧ decode cL_acts 140 = .ok (.ifCond .ne 13, 3) ∧ decode cL_acts 143 = .ok (.iload_n 2, 1) ∧ decode cL_acts 144 = .ok (.sipush 1200, 3) ∧ decode cL_acts 147 = .ok (.idiv, 1) ∧ decode cL_acts 148 = .ok (.iconst 4, 1) ∧ decode cL_acts 149 = .ok (.irem, 1) ∧ decode cL_acts 150 = .ok (.goto 4, 3) ∧ decode cL_acts 153 = .ok (.iconst 1, 1) ∧ decode cL_acts 154 = .ok (.iload_n 2, 1) ∧ decode cL_acts 155 = .ok (.bipush 7, 2) ∧ decode cL_acts 157 = .ok (.idiv, 1) ∧ decode cL_acts 158 = .ok (.iconst 4, 1) ∧ decode cL_acts 159 = .ok (.irem, 1) ∧ decode cL_acts 160 = .ok (.ifCond .ne 12, 3) ∧ decode cL_acts 163 = .ok (.iload_n 2, 1) ∧ decode cL_acts 164 = .ok (.bipush 28, 2) ∧ decode cL_acts 166 = .ok (.idiv, 1) ∧ decode cL_acts 167 = .ok (.iconst 4, 1) ∧ decode cL_acts 168 = .ok (.irem, 1) ∧ decode cL_acts 169 = .ok (.goto 4, 3) ∧ decode cL_acts 172 = .ok (.iconst 0, 1) ∧ decode cL_acts 173 = .ok (.iload_n 2, 1) ∧ decode cL_acts 174 = .ok (.bipush 11, 2) ∧ decode cL_acts 176 = .ok (.idiv, 1) ∧ decode cL_acts 177 = .ok (.bipush 12, 2) ∧ decode cL_acts 179 = .ok (.irem, 1) ∧ decode cL_acts 180 = .ok (.invokevirtual 61, 3) ∧ decode cL_acts 183 = .ok (.ireturn, 1) ∧ decode cL_acts 184 = .ok (.aload_n 0, 1) ∧ decode cL_acts 185 = .ok (.iload_n 2, 1) ∧ True := dq_of (l := (127, .bipush 100, 2) :: (129, .idiv, 1) :: (130, .iconst 4, 1) :: (131, .irem, 1) :: (132, .iadd, 1) :: (133, .iload_n 2, 1) :: (134, .sipush 400, 3) :: (137, .idiv, 1) :: (138, .iconst 3, 1) :: (139, .irem, 1) :: (140, .ifCond .ne 13, 3) :: (143, .iload_n 2, 1) :: (144, .sipush 1200, 3) :: (147, .idiv, 1) :: (148, .iconst 4, 1) :: (149, .irem, 1) :: (150, .goto 4, 3) :: (153, .iconst 1, 1) :: (154, .iload_n 2, 1) :: (155, .bipush 7, 2) :: (157, .idiv, 1) :: (158, .iconst 4, 1) :: (159, .irem, 1) :: (160, .ifCond .ne 12, 3) :: (163, .iload_n 2, 1) :: (164, .bipush 28, 2) :: (166, .idiv, 1) :: (167, .iconst 4, 1) :: (168, .irem, 1) :: (169, .goto 4, 3) :: (172, .iconst 0, 1) :: (173, .iload_n 2, 1) :: (174, .bipush 11, 2) :: (176, .idiv, 1) :: (177, .bipush 12, 2) :: (179, .irem, 1) :: (180, .invokevirtual 61, 3) :: (183, .ireturn, 1) :: (184, .aload_n 0, 1) :: (185, .iload_n 2, 1) :: []) (by decide +kernel)
theorem e_L_acts_127 : decode cL_acts 127 = .ok (.bipush 100, 2) := D_L_acts_1.1
theorem e_L_acts_129 : decode cL_acts 129 = .ok (.idiv, 1) := D_L_acts_1.2.1
theorem e_L_acts_130 : decode cL_acts 130 = .ok (.iconst 4, 1) := D_L_acts_1.2.2.1
theorem e_L_acts_131 : decode cL_acts 131 = .ok (.irem, 1) := D_L_acts_1.2.2.2.1
theorem e_L_acts_132 : decode cL_acts 132 = .ok (.iadd, 1) := D_L_acts_1.2.2.2.2.1
theorem e_L_acts_133 : decode cL_acts 133 = .ok (.iload_n 2, 1) := D_L_acts_1.2.2.2.2.2.1
theorem e_L_acts_134 : decode cL_acts 134 = .ok (.sipush 400, 3) := D_L_acts_1.2.2.2.2.2.2.1
theorem e_L_acts_137 : decode cL_acts 137 = .ok (.idiv, 1) := D_L_acts_1.2.2.2.2.2.2.2.1
theorem e_L_acts_138 : decode cL_acts 138 = .ok (.iconst 3, 1) := D_L_acts_1.2.2.2.2.2.2.2.2.1
theorem e_L_acts_139 : decode cL_acts 139 = .ok (.irem, 1) := D_L_acts_1.2.2.2.2.2.2.2.2.2.1
theorem e_L_acts_140 : decode cL_acts 140 = .ok (.ifCond .ne 13, 3) := D_L_acts_1.2.2.2.2.2.2.2.2.2.2.1
theorem e_L_acts_143 : decode cL_acts 143 = .ok (.iload_n 2, 1) := D_L_acts_1.2.2.2.2.2.2.2.2.2.2.2.1
theorem e_L_acts_144 : decode cL_acts 144 = .ok (.sipush 1200, 3) := D_L_acts_1.2.2.2.2.2.2.2.2.2.2.2.2.1
theorem e_L_acts_147 : decode cL_acts 147 = .ok (.idiv, 1) := D_L_acts_1.2.2.2.2.2.2.2.2.2.2.2.2.2.1
theorem e_L_acts_148 : decode cL_acts 148 = .ok (.iconst 4, 1) := D_L_acts_1.2.2.2.2.2.2.2.2.2.2.2.2.2.2.1
theorem e_L_acts_149 : decode cL_acts 149 = .ok (.irem, 1) := D_L_acts_1.2.2.2.2.2.2.2.2.2.2.2.2.2.2.2.1
theorem e_L_acts_150 : decode cL_acts 150 = .ok (.goto 4, 3) := D_L_acts_1.2.2.2.2.2.2.2.2.2.2.2.2.2.2.2.2.1
theorem e_L_acts_153 : decode cL_acts 153 = .ok (.iconst 1, 1) := D_L_acts_1.2.2.2.2.2.2.2.2.2.2.2.2.2.2.2.2.2.1
theorem e_L_acts_154 : decode cL_acts 154 = .ok (.iload_n 2, 1) := D_L_acts_1.2.2.2.2.2.2.2.2.2.2.2.2.2.2.2.2.2.2.1
theorem e_L_acts_155 : decode cL_acts 155 = .ok (.bipush 7, 2) := D_L_acts_1.2.2.2.2.2.2.2.2.2.2.2.2.2.2.2.2.2.2.2.1
theorem e_L_acts_157 : decode cL_acts 157 = .ok (.idiv, 1) := D_L_acts_1.2.2.2.2.2.2.2.2.2.2.2.2.2.2.2.2.2.2.2.2.1
theorem e_L_acts_158 : decode cL_acts 158 = .ok (.iconst 4, 1) := D_L_acts_1.2.2.2.2.2.2.2.2.2.2.2.2.2.2.2.2.2.2.2.2.2.1
theorem e_L_acts_159 : decode cL_acts 159 = .ok (.irem, 1) := D_L_acts_1.2.2.2.2.2.2.2.2.2.2.2.2.2.2.2.2.2.2.2.2.2.2.1
theorem e_L_acts_160 : decode cL_acts 160 = .ok (.ifCond .ne 12, 3) := D_L_acts_1.2.2.2.2.2.2.2.2.2.2.2.2.2.2.2.2.2.2.2.2.2.2.2.1
theorem e_L_acts_163 : decode cL_acts 163 = .ok (.iload_n 2, 1) := D_L_acts_1.2.2.2.2.2.2.2.2.2.2.2.2.2.2.2.2.2.2.2.2.2.2.2.2.1
theorem e_L_acts_164 : decode cL_acts 164 = .ok (.bipush 28, 2) := D_L_acts_1.2.2.2.2.2.2.2.2.2.2.2.2.2.2.2.2.2.2.2.2.2.2.2.2.2.1
theorem e_L_acts_166 : decode cL_acts 166 = .ok (.idiv, 1) := D_L_acts_1.2.2.2.2.2.2.2.2.2.2.2.2.2.2.2.2.2.2.2.2.2.2.2.2.2.2.1
theorem e_L_acts_167 : decode cL_acts 167 = .ok (.iconst 4, 1) := D_L_acts_1.2.2.2.2.2.2.2.2.2.2.2.2.2.2.2.2.2.2.2.2.2.2.2.2.2.2.2.1
theorem e_L_acts_168 : decode cL_acts 168 = .ok (.irem, 1) := D_L_acts_1.2.2.2.2.2.2.2.2.2.2.2.2.2.2.2.2.2.2.2.2.2.2.2.2.2.2.2.2.1
theorem e_L_acts_169 : decode cL_acts 169 = .ok (.goto 4, 3) := D_L_acts_1.2.2.2.2.2.2.2.2.2.2.2.2.2.2.2.2.2.2.2.2.2.2.2.2.2.2.2.2.2.1
theorem e_L_acts_172 : decode cL_acts 172 = .ok (.iconst 0, 1) := D_L_acts_1.2.2.2.2.2.2.2.2.2.2.2.2.2.2.2.2.2.2.2.2.2.2.2.2.2.2.2.2.2.2.1
theorem e_L_acts_173 : decode cL_acts 173 = .ok (.iload_n 2, 1) := D_L_acts_1.2.2.2.2.2.2.2.2.2.2.2.2.2.2.2.2.2.2.2.2.2.2.2.2.2.2.2.2.2.2.2.1
theorem e_L_acts_174 : decode cL_acts 174 = .ok (.bipush 11, 2) := D_L_acts_1.2.2.2.2.2.2.2.2.2.2.2.2.2.2.2.2.2.2.2.2.2.2.2.2.2.2.2.2.2.2.2.2.1
theorem e_L_acts_176 : decode cL_acts 176 = .ok (.idiv, 1) := D_L_acts_1.2.2.2.2.2.2.2.2.2.2.2.2.2.2.2.2.2.2.2.2.2.2.2.2.2.2.2.2.2.2.2.2.2.1
theorem e_L_acts_177 : decode cL_acts 177 = .ok (.bipush 12, 2) := D_L_acts_1.2.2.2.2.2.2.2.2.2.2.2.2.2.2.2.2.2.2.2.2.2.2.2.2.2.2.2.2.2.2.2.2.2.2.1
theorem e_L_acts_179 : decode cL_acts 179 = .ok (.irem, 1) := D_L_acts_1.2.2.2.2.2.2.2.2.2.2.2.2.2.2.2.2.2.2.2.2.2.2.2.2.2.2.2.2.2.2.2.2.2.2.2.1
theorem e_L_acts_180 : decode cL_acts 180 = .ok (.invokevirtual 61, 3) := D_L_acts_1.2.2.2.2.2.2.2.2.2.2.2.2.2.2.2.2.2.2.2.2.2.2.2.2.2.2.2.2.2.2.2.2.2.2.2.2.1
theorem e_L_acts_183 : decode cL_acts 183 = .ok (.ireturn, 1) := D_L_acts_1.2.2.2.2.2.2.2.2.2.2.2.2.2.2.2.2.2.2.2.2.2.2.2.2.2.2.2.2.2.2.2.2.2.2.2.2.2.1
theorem e_L_acts_184 : decode cL_acts 184 = .ok (.aload_n 0, 1) := D_L_acts_1.2.2.2.2.2.2.2.2.2.2.2.2.2.2.2.2.2.2.2.2.2.2.2.2.2.2.2.2.2.2.2.2.2.2.2.2.2.2.1
theorem e_L_acts_185 : decode cL_acts 185 = .ok (.iload_n 2, 1) := D_L_acts_1.2.2.2.2.2.2.2.2.2.2.2.2.2.2.2.2.2.2.2.2.2.2.2.2.2.2.2.2.2.2.2.2.2.2.2.2.2.2.2.1
set_option maxRecDepth 100000 in
theorem D_L_acts_2 : decode cL_acts 186 = .ok (.iconst 4, 1) ∧ decode cL_acts 187 = .ok (.irem, 1) ∧ decode cL_acts 188 = .ok (.iconst 1, 1) ∧ decode cL_acts 189 = .ok (.iload_n 2, 1) ∧ decode cL_acts 190 = .ok (.iconst 4, 1) ∧ decode cL_acts 191 = .ok (.idiv, 1) ∧ decode cL_acts 192 = .ok (.bipush 40, 2) ∧ decode cL_acts 194 = .ok (.irem, 1) ∧ decode cL_acts 195 = .ok (.iadd, 1) ∧ decode cL_acts 196 = .ok (.invokevirtual 48, 3) ∧ decode cL_acts 199 = .ok (.ireturn, 1) ∧ decode cL_acts 200 = .ok (.aload_n 0, 1) ∧ decode cL_acts 201 = .ok (.iload_n 2, 1) ∧ decode cL_acts 202 = .ok (.iconst 4, 1) ∧ decode cL_acts 203 = .ok (.irem, 1) ∧ decode cL_acts 204 = .ok (.iload_n 2, 1) ∧ decode cL_acts 205 = .ok (.iconst 4, 1) ∧ decode cL_acts 206 = .ok (.idiv, 1) ∧ decode cL_acts 207 = .ok (.iconst 3, 1) ∧ decode cL_acts 208 = .ok (.irem, 1) ∧ decode cL_acts 209 = .ok (.ifCond .ne 12, 3) ∧ decode cL_acts 212 = .ok (.iload_n 2, 1) ∧ decode cL_acts 213 = .ok (.bipush 12, 2) ∧ decode cL_acts 215 = .ok (.idiv, 1) ∧ decode cL_acts 216 = .ok (.iconst 4, 1) ∧ decode cL_acts 217 = .ok (.irem, 1) ∧ decode cL_acts 218 = .ok (.goto 4, 3) ∧ decode cL_acts 221 = .ok (.iconst 1, 1) ∧ decode cL_acts 222 = .ok (.iload_n 2, 1) ∧ decode cL_acts 223 = .ok (.bipush 48, 2) ∧ decode cL_acts 225 = .ok (.idiv, 1) ∧ decode cL_acts 226 = .ok (.iconst 3, 1) ∧ decode cL_acts 227 = .ok (.irem, 1) ∧ decode cL_acts 228 = .ok (.ifCond .ne 13, 3) ∧ decode cL_acts 231 = .ok (.iload_n 2, 1) ∧ decode cL_acts 232 = .ok (.sipush 144, 3) ∧ decode cL_acts 235 = .ok (.idiv, 1) ∧ decode cL_acts 236 = .ok (.iconst 4, 1) ∧ decode cL_acts 237 = .ok (.irem, 1) ∧ decode cL_acts 238 = .ok (.goto 4, 3) ∧ True := dq_of (l := (186, .iconst 4, 1) :: (187, .irem, 1) :: (188, .iconst 1, 1) :: (189, .iload_n 2, 1) :: (190, .iconst 4, 1) :: (191, .idiv, 1) :: (192, .bipush 40, 2) :: (194, .irem, 1) :: (195, .iadd, 1) :: (196, .invokevirtual 48, 3) :: (199, .ireturn, 1) :: (200, .aload_n 0, 1) :: (201, .iload_n 2, 1) :: (202, .iconst 4, 1) :: (203, .irem, 1) :: (204, .iload_n 2, 1) :: (205, .iconst 4, 1) :: (206, .idiv, 1) :: (207, .iconst 3, 1) :: (208, .irem, 1) :: (209, .ifCond .ne 12, 3) :: (212, .iload_n 2, 1) :: (213, .bipush 12, 2) :: (215, .idiv, 1) :: (216, .iconst 4, 1) :: (217, .irem, 1) :: (218, .goto 4, 3) :: (221, .iconst 1, 1) :: (222, .iload_n 2, 1) :: (223, .bipush 48, 2) :: (225, .idiv, 1) :: (226, .iconst 3, 1) :: (227, .irem, 1) :: (228, .ifCond .ne 13, 3) :: (231, .iload_n 2, 1) :: (232, .sipush 144, 3) :: (235, .idiv, 1) :: (236, .iconst 4, 1) :: (237, .irem, 1) :: (238, .goto 4, 3) :: []) (by decide +kernel)
theorem e_L_acts_186 : decode cL_acts 186 = .ok (.iconst 4, 1) := D_L_acts_2.1
theorem e_L_acts_187 : decode cL_acts 187 = .ok (.irem, 1) := D_L_acts_2.2.1
theorem e_L_acts_188 : decode cL_acts 188 = .ok (.iconst 1, 1) := D_L_acts_2.2.2.1
theorem e_L_acts_189 : decode cL_acts 189 = .ok (.iload_n 2, 1) := D_L_acts_2.2.2.2.1
theorem e_L_acts_190 : decode cL_acts 190 = .ok (.iconst 4, 1) := D_L_acts_2.2.2.2.2.1
theorem e_L_acts_191 : decode cL_acts 191 = .ok (.idiv, 1) := D_L_acts_2.2.2.2.2.2.1
theorem e_L_acts_192 : decode cL_acts 192 = .ok (.bipush 40, 2) := D_L_acts_2.2.2.2.2.2.2.1
theorem e_L_acts_194 : decode cL_acts 194 = .ok (.irem, 1) := D_L_acts_2.2.2.2.2.2.2.2.1
theorem e_L_acts_195 : decode cL_acts 195 = .ok (.iadd, 1) := D_L_acts_2.2.2.2.2.2.2.2.2.1
theorem e_L_acts_196 : decode cL_acts 196 = .ok (.invokevirtual 48, 3) := D_L_acts_2.2.2.2.2.2.2.2.2.2.1
theorem e_L_acts_199 : decode cL_acts 199 = .ok (.ireturn, 1) := D_L_acts_2.2.2.2.2.2.2.2.2.2.2.1
theorem e_L_acts_200 : decode cL_acts 200 = .ok (.aload_n 0, 1) := D_L_acts_2.2.2.2.2.2.2.2.2.2.2.2.1
theorem e_L_acts_201 : decode cL_acts 201 = .ok (.iload_n 2, 1) := D_L_acts_2.2.2.2.2.2.2.2.2.2.2.2.2.1
theorem e_L_acts_202 : decode cL_acts 202 = .ok (.iconst 4, 1) := D_L_acts_2.2.2.2.2.2.2.2.2.2.2.2.2.2.1
theorem e_L_acts_203 : decode cL_acts 203 = .ok (.irem, 1) := D_L_acts_2.2.2.2.2.2.2.2.2.2.2.2.2.2.2.1
theorem e_L_acts_204 : decode cL_acts 204 = .ok (.iload_n 2, 1) := D_L_acts_2.2.2.2.2.2.2.2.2.2.2.2.2.2.2.2.1
theorem e_L_acts_205 : decode cL_acts 205 = .ok (.iconst 4, 1) := D_L_acts_2.2.2.2.2.2.2.2.2.2.2.2.2.2.2.2.2.1
theorem e_L_acts_206 : decode cL_acts 206 = .ok (.idiv, 1) := D_L_acts_2.2.2.2.2.2.2.2.2.2.2.2.2.2.2.2.2.2.1
theorem e_L_acts_207 : decode cL_acts 207 = .ok (.iconst 3, 1) := D_L_acts_2.2.2.2.2.2.2.2.2.2.2.2.2.2.2.2.2.2.2.1
theorem e_L_acts_208 : decode cL_acts 208 = .ok (.irem, 1) := D_L_acts_2.2.2.2.2.2.2.2.2.2.2.2.2.2.2.2.2.2.2.2.1
theorem e_L_acts_209 : decode cL_acts 209 = .ok (.ifCond .ne 12, 3) := D_L_acts_2.2.2.2.2.2.2.2.2.2.2.2.2.2.2.2.2.2.2.2.2.1
theorem e_L_acts_212 : decode cL_acts 212 = .ok (.iload_n 2, 1) := D_L_acts_2.2.2.2.2.2.2.2.2.2.2.2.2.2.2.2.2.2.2.2.2.2.1
theorem e_L_acts_213 : decode cL_acts 213 = .ok (.bipush 12, 2) := D_L_acts_2.2.2.2.2.2.2.2.2.2.2.2.2.2.2.2.2.2.2.2.2.2.2.1
theorem e_L_acts_215 : decode cL_acts 215 = .ok (.idiv, 1) := D_L_acts_2.2.2.2.2.2.2.2.2.2.2.2.2.2.2.2.2.2.2.2.2.2.2.2.1
theorem e_L_acts_216 : decode cL_acts 216 = .ok (.iconst 4, 1) := D_L_acts_2.2.2.2.2.2.2.2.2.2.2.2.2.2.2.2.2.2.2.2.2.2.2.2.2.1
theorem e_L_acts_217 : decode cL_acts 217 = .ok (.irem, 1) := D_L_acts_2.2.2.2.2.2.2.2.2.2.2.2.2.2.2.2.2.2.2.2.2.2.2.2.2.2.1
theorem e_L_acts_218 : decode cL_acts 218 = .ok (.goto 4, 3) := D_L_acts_2.2.2.2.2.2.2.2.2.2.2.2.2.2.2.2.2.2.2.2.2.2.2.2.2.2.2.1
theorem e_L_acts_221 : decode cL_acts 221 = .ok (.iconst 1, 1) := D_L_acts_2.2.2.2.2.2.2.2.2.2.2.2.2.2.2.2.2.2.2.2.2.2.2.2.2.2.2.2.1
theorem e_L_acts_222 : decode cL_acts 222 = .ok (.iload_n 2, 1) := D_L_acts_2.2.2.2.2.2.2.2.2.2.2.2.2.2.2.2.2.2.2.2.2.2.2.2.2.2.2.2.2.1
theorem e_L_acts_223 : decode cL_acts 223 = .ok (.bipush 48, 2) := D_L_acts_2.2.2.2.2.2.2.2.2.2.2.2.2.2.2.2.2.2.2.2.2.2.2.2.2.2.2.2.2.2.1
theorem e_L_acts_225 : decode cL_acts 225 = .ok (.idiv, 1) := D_L_acts_2.2.2.2.2.2.2.2.2.2.2.2.2.2.2.2.2.2.2.2.2.2.2.2.2.2.2.2.2.2.2.1
theorem e_L_acts_226 : decode cL_acts 226 = .ok (.iconst 3, 1) := D_L_acts_2.2.2.2.2.2.2.2.2.2.2.2.2.2.2.2.2.2.2.2.2.2.2.2.2.2.2.2.2.2.2.2.1
theorem e_L_acts_227 : decode cL_acts 227 = .ok (.irem, 1) := D_L_acts_2.2.2.2.2.2.2.2.2.2.2.2.2.2.2.2.2.2.2.2.2.2.2.2.2.2.2.2.2.2.2.2.2.1
theorem e_L_acts_228 : decode cL_acts 228 = .ok (.ifCond .ne 13, 3) := D_L_acts_2.2.2.2.2.2.2.2.2.2.2.2.2.2.2.2.2.2.2.2.2.2.2.2.2.2.2.2.2.2.2.2.2.2.1
theorem e_L_acts_231 : decode cL_acts 231 = .ok (.iload_n 2, 1) := D_L_acts_2.2.2.2.2.2.2.2.2.2.2.2.2.2.2.2.2.2.2.2.2.2.2.2.2.2.2.2.2.2.2.2.2.2.2.1
theorem e_L_acts_232 : decode cL_acts 232 = .ok (.sipush 144, 3) := D_L_acts_2.2.2.2.2.2.2.2.2.2.2.2.2.2.2.2.2.2.2.2.2.2.2.2.2.2.2.2.2.2.2.2.2.2.2.2.1
theorem e_L_acts_235 : decode cL_acts 235 = .ok (.idiv, 1) := D_L_acts_2.2.2.2.2.2.2.2.2.2.2.2.2.2.2.2.2.2.2.2.2.2.2.2.2.2.2.2.2.2.2.2.2.2.2.2.2.1
theorem e_L_acts_236 : decode cL_acts 236 = .ok (.iconst 4, 1) := D_L_acts_2.2.2.2.2.2.2.2.2.2.2.2.2.2.2.2.2.2.2.2.2.2.2.2.2.2.2.2.2.2.2.2.2.2.2.2.2.2.1
theorem e_L_acts_237 : decode cL_acts 237 = .ok (.irem, 1) := D_L_acts_2.2.2.2.2.2.2.2.2.2.2.2.2.2.2.2.2.2.2.2.2.2.2.2.2.2.2.2.2.2.2.2.2.2.2.2.2.2.2.1
theorem e_L_acts_238 : decode cL_acts 238 = .ok (.goto 4, 3) := D_L_acts_2.2.2.2.2.2.2.2.2.2.2.2.2.2.2.2.2.2.2.2.2.2.2.2.2.2.2.2.2.2.2.2.2.2.2.2.2.2.2.2.1
set_option maxRecDepth 100000 in
theorem D_L_acts_3 : decode cL_acts 241 = .ok (.iconst 0, 1) ∧ decode cL_acts 242 = .ok (.invokevirtual 51, 3) ∧ decode cL_acts 245 = .ok (.ireturn, 1) ∧ decode cL_acts 246 = .ok (.aload_n 0, 1) ∧ decode cL_acts 247 = .ok (.iload 4, 2) ∧ decode cL_acts 249 = .ok (.iload_n 2, 1) ∧ decode cL_acts 250 = .ok (.bipush 10, 2) ∧ decode cL_acts 252 = .ok (.idiv, 1) ∧ decode cL_acts 253 = .ok (.iconst 2, 1) ∧ decode cL_acts 254 = .ok (.irem, 1) ∧ decode cL_acts 255 = .ok (.invokevirtual 68, 3) ∧ decode cL_acts 258 = .ok (.ireturn, 1) ∧ decode cL_acts 259 = .ok (.iload_n 2, 1) ∧ decode cL_acts 260 = .ok (.bipush 10, 2) ∧ decode cL_acts 262 = .ok (.idiv, 1) ∧ decode cL_acts 263 = .ok (.iconst 3, 1) ∧ decode cL_acts 264 = .ok (.irem, 1) ∧ decode cL_acts 265 = .ok (.ifCond .ne 12, 3) ∧ decode cL_acts 268 = .ok (.aload_n 0, 1) ∧ decode cL_acts 269 = .ok (.iload 4, 2) ∧ decode cL_acts 271 = .ok (.invokevirtual 71, 3) ∧ decode cL_acts 274 = .ok (.goto 16, 3) ∧ decode cL_acts 277 = .ok (.aload_n 0, 1) ∧ decode cL_acts 278 = .ok (.iload 4, 2) ∧ decode cL_acts 280 = .ok (.iload_n 2, 1) ∧ decode cL_acts 281 = .ok (.bipush 30, 2) ∧ decode cL_acts 283 = .ok (.idiv, 1) ∧ decode cL_acts 284 = .ok (.bipush 10, 2) ∧ decode cL_acts 286 = .ok (.irem, 1) ∧ decode cL_acts 287 = .ok (.invokevirtual 74, 3) ∧ decode cL_acts 290 = .ok (.ireturn, 1) ∧ decode cL_acts 291 = .ok (.aload_n 0, 1) ∧ decode cL_acts 292 = .ok (.iload 4, 2) ∧ decode cL_acts 294 = .ok (.iload_n 2, 1) ∧ decode cL_acts 295 = .ok (.bipush 10, 2) ∧ decode cL_acts 297 = .ok (.idiv, 1) ∧ decode cL_acts 298 = .ok (.bipush 10, 2) ∧ decode cL_acts 300 = .ok (.irem, 1) ∧ decode cL_acts 301 = .ok (.invokevirtual 74, 3) ∧ decode cL_acts 304 = .ok (.ireturn, 1) ∧ True := dq_of (l := (241, .iconst 0, 1) :: (242, .invokevirtual 51, 3) :: (245, .ireturn, 1) :: (246, .aload_n 0, 1) :: (247, .iload 4, 2) :: (249, .iload_n 2, 1) :: (250, .bipush 10, 2) :: (252, .idiv, 1) :: (253, .iconst 2, 1) :: (254, .irem, 1) :: (255, .invokevirtual 68, 3) :: (258, .ireturn, 1) :: (259, .iload_n 2, 1) :: (260, .bipush 10, 2) :: (262, .idiv, 1) :: (263, .iconst 3, 1) :: (264, .irem, 1) :: (265, .ifCond .ne 12, 3) :: (268, .aload_n 0, 1) :: (269, .iload 4, 2) :: (271, .invokevirtual 71, 3) :: (274, .goto 16, 3) :: (277, .aload_n 0, 1) :: (278, .iload 4, 2) :: (280, .iload_n 2, 1) :: (281, .bipush 30, 2) :: (283, .idiv, 1) :: (284, .bipush 10, 2) :: (286, .irem, 1) :: (287, .invokevirtual 74, 3) :: (290, .ireturn, 1) :: (291, .aload_n 0, 1) :: (292, .iload 4, 2) :: (294, .iload_n 2, 1) :: (295, .bipush 10, 2) :: (297, .idiv, 1) :: (298, .bipush 10, 2) :: (300, .irem, 1) :: (301, .invokevirtual 74, 3) :: (304, .ireturn, 1) :: []) (by decide +kernel)
theorem e_L_acts_241 : decode cL_acts 241 = .ok (.iconst 0, 1) := D_L_acts_3.1
theorem e_L_acts_242 : decode cL_acts 242 = .ok (.invokevirtual 51, 3) := D_L_acts_3.2.1
theorem e_L_acts_245 : decode cL_acts 245 = .ok (.ireturn, 1) := D_L_acts_3.2.2.1
theorem e_L_acts_246 : decode cL_acts 246 = .ok (.aload_n 0, 1) := D_L_acts_3.2.2.2.1
theorem e_L_acts_247 : decode cL_acts 247 = .ok (.iload 4, 2) := D_L_acts_3.2.2.2.2.1
theorem e_L_acts_249 : decode cL_acts 249 = .ok (.iload_n 2, 1) := D_L_acts_3.2.2.2.2.2.1
theorem e_L_acts_250 : decode cL_acts 250 = .ok (.bipush 10, 2) := D_L_acts_3.2.2.2.2.2.2.1
theorem e_L_acts_252 : decode cL_acts 252 = .ok (.idiv, 1) := D_L_acts_3.2.2.2.2.2.2.2.1
theorem e_L_acts_253 : decode cL_acts 253 = .ok (.iconst 2, 1) := D_L_acts_3.2.2.2.2.2.2.2.2.1
theorem e_L_acts_254 : decode cL_acts 254 = .ok (.irem, 1) := D_L_acts_3.2.2.2.2.2.2.2.2.2.1
theorem e_L_acts_255 : decode cL_acts 255 = .ok (.invokevirtual 68, 3) := D_L_acts_3.2.2.2.2.2.2.2.2.2.2.1
theorem e_L_acts_258 : decode cL_acts 258 = .ok (.ireturn, 1) := D_L_acts_3.2.2.2.2.2.2.2.2.2.2.2.1
theorem e_L_acts_259 : decode cL_acts 259 = .ok (.iload_n 2, 1) := D_L_acts_3.2.2.2.2.2.2.2.2.2.2.2.2.1
theorem e_L_acts_260 : decode cL_acts 260 = .ok (.bipush 10, 2) := D_L_acts_3.2.2.2.2.2.2.2.2.2.2.2.2.2.1
theorem e_L_acts_262 : decode cL_acts 262 = .ok (.idiv, 1) := D_L_acts_3.2.2.2.2.2.2.2.2.2.2.2.2.2.2.1
theorem e_L_acts_263 : decode cL_acts 263 = .ok (.iconst 3, 1) := D_L_acts_3.2.2.2.2.2.2.2.2.2.2.2.2.2.2.2.1
theorem e_L_acts_264 : decode cL_acts 264 = .ok (.irem, 1) := D_L_acts_3.2.2.2.2.2.2.2.2.2.2.2.2.2.2.2.2.1
theorem e_L_acts_265 : decode cL_acts 265 = .ok (.ifCond .ne 12, 3) := D_L_acts_3.2.2.2.2.2.2.2.2.2.2.2.2.2.2.2.2.2.1
theorem e_L_acts_268 : decode cL_acts 268 = .ok (.aload_n 0, 1) := D_L_acts_3.2.2.2.2.2.2.2.2.2.2.2.2.2.2.2.2.2.2.1
theorem e_L_acts_269 : decode cL_acts 269 = .ok (.iload 4, 2) := D_L_acts_3.2.2.2.2.2.2.2.2.2.2.2.2.2.2.2.2.2.2.2.1
theorem e_L_acts_271 : decode cL_acts 271 = .ok (.invokevirtual 71, 3) := D_L_acts_3.2.2.2.2.2.2.2.2.2.2.2.2.2.2.2.2.2.2.2.2.1
theorem e_L_acts_274 : decode cL_acts 274 = .ok (.goto 16, 3) := D_L_acts_3.2.2.2.2.2.2.2.2.2.2.2.2.2.2.2.2.2.2.2.2.2.1
theorem e_L_acts_277 : decode cL_acts 277 = .ok (.aload_n 0, 1) := D_L_acts_3.2.2.2.2.2.2.2.2.2.2.2.2.2.2.2.2.2.2.2.2.2.2.1
theorem e_L_acts_278 : decode cL_acts 278 = .ok (.iload 4, 2) := D_L_acts_3.2.2.2.2.2.2.2.2.2.2.2.2.2.2.2.2.2.2.2.2.2.2.2.1
theorem e_L_acts_280 : decode cL_acts 280 = .ok (.iload_n 2, 1) := D_L_acts_3.2.2.2.2.2.2.2.2.2.2.2.2.2.2.2.2.2.2.2.2.2.2.2.2.1
theorem e_L_acts_281 : decode cL_acts 281 = .ok (.bipush 30, 2) := D_L_acts_3.2.2.2.2.2.2.2.2.2.2.2.2.2.2.2.2.2.2.2.2.2.2.2.2.2.1
theorem e_L_acts_283 : decode cL_acts 283 = .ok (.idiv, 1) := D_L_acts_3.2.2.2.2.2.2.2.2.2.2.2.2.2.2.2.2.2.2.2.2.2.2.2.2.2.2.1
theorem e_L_acts_284 : decode cL_acts 284 = .ok (.bipush 10, 2) := D_L_acts_3.2.2.2.2.2.2.2.2.2.2.2.2.2.2.2.2.2.2.2.2.2.2.2.2.2.2.2.1
theorem e_L_acts_286 : decode cL_acts 286 = .ok (.irem, 1) := D_L_acts_3.2.2.2.2.2.2.2.2.2.2.2.2.2.2.2.2.2.2.2.2.2.2.2.2.2.2.2.2.1
theorem e_L_acts_287 : decode cL_acts 287 = .ok (.invokevirtual 74, 3) := D_L_acts_3.2.2.2.2.2.2.2.2.2.2.2.2.2.2.2.2.2.2.2.2.2.2.2.2.2.2.2.2.2.1
theorem e_L_acts_290 : decode cL_acts 290 = .ok (.ireturn, 1) := D_L_acts_3.2.2.2.2.2.2.2.2.2.2.2.2.2.2.2.2.2.2.2.2.2.2.2.2.2.2.2.2.2.2.1
theorem e_L_acts_291 : decode cL_acts 291 = .ok (.aload_n 0, 1) := D_L_acts_3.2.2.2.2.2.2.2.2.2.2.2.2.2.2.2.2.2.2.2.2.2.2.2.2.2.2.2.2.2.2.2.1
theorem e_L_acts_292 : decode cL_acts 292 = .ok (.iload 4, 2) := D_L_acts_3.2.2.2.2.2.2.2.2.2.2.2.2.2.2.2.2.2.2.2.2.2.2.2.2.2.2.2.2.2.2.2.2.1
theorem e_L_acts_294 : decode cL_acts 294 = .ok (.iload_n 2, 1) := D_L_acts_3.2.2.2.2.2.2.2.2.2.2.2.2.2.2.2.2.2.2.2.2.2.2.2.2.2.2.2.2.2.2.2.2.2.1
theorem e_L_acts_295 : decode cL_acts 295 = .ok (.bipush 10, 2) := D_L_acts_3.2.2.2.2.2.2.2.2.2.2.2.2.2.2.2.2.2.2.2.2.2.2.2.2.2.2.2.2.2.2.2.2.2.2.1
theorem e_L_acts_297 : decode cL_acts 297 = .ok (.idiv, 1) := D_L_acts_3.2.2.2.2.2.2.2.2.2.2.2.2.2.2.2.2.2.2.2.2.2.2.2.2.2.2.2.2.2.2.2.2.2.2.2.1
theorem e_L_acts_298 : decode cL_acts 298 = .ok (.bipush 10, 2) := D_L_acts_3.2.2.2.2.2.2.2.2.2.2.2.2.2.2.2.2.2.2.2.2.2.2.2.2.2.2.2.2.2.2.2.2.2.2.2.2.1
theorem e_L_acts_300 : decode cL_acts 300 = .ok (.irem, 1) := D_L_acts_3.2.2.2.2.2.2.2.2.2.2.2.2.2.2.2.2.2.2.2.2.2.2.2.2.2.2.2.2.2.2.2.2.2.2.2.2.2.1
theorem e_L_acts_301 : decode cL_acts 301 = .ok (.invokevirtual 74, 3) := D_L_acts_3.2.2.2.2.2.2.2.2.2.2.2.2.2.2.2.2.2.2.2.2.2.2.2.2.2.2.2.2.2.2.2.2.2.2.2.2.2.2.1
theorem e_L_acts_304 : decode cL_acts 304 = .ok (.ireturn, 1) := D_L_acts_3.2.2.2.2.2.2.2.2.2.2.2.2.2.2.2.2.2.2.2.2.2.2.2.2.2.2.2.2.2.2.2.2.2.2.2.2.2.2.2.1
set_option maxRecDepth 100000 in
theorem D_L_acts_4 : decode cL_acts 305 = .ok (.aload_n 0, 1) ∧ decode cL_acts 306 = .ok (.iload_n 2, 1) ∧ decode cL_acts 307 = .ok (.bipush 12, 2) ∧ decode cL_acts 309 = .ok (.irem, 1) ∧ decode cL_acts 310 = .ok (.invokevirtual 55, 3) ∧ decode cL_acts 313 = .ok (.ireturn, 1) ∧ decode cL_acts 314 = .ok (.aload_n 0, 1) ∧ decode cL_acts 315 = .ok (.iload_n 2, 1) ∧ decode cL_acts 316 = .ok (.bipush 6, 2) ∧ decode cL_acts 318 = .ok (.irem, 1) ∧ decode cL_acts 319 = .ok (.iload_n 2, 1) ∧ decode cL_acts 320 = .ok (.bipush 6, 2) ∧ decode cL_acts 322 = .ok (.irem, 1) ∧ decode cL_acts 323 = .ok (.iconst 3, 1) ∧ decode cL_acts 324 = .ok (.if_icmp .ne 15, 3) ∧ decode cL_acts 327 = .ok (.iconst 2, 1) ∧ decode cL_acts 328 = .ok (.iload_n 2, 1) ∧ decode cL_acts 329 = .ok (.bipush 6, 2) ∧ decode cL_acts 331 = .ok (.idiv, 1) ∧ decode cL_acts 332 = .ok (.bipush 40, 2) ∧ decode cL_acts 334 = .ok (.irem, 1) ∧ decode cL_acts 335 = .ok (.iadd, 1) ∧ decode cL_acts 336 = .ok (.goto 65, 3) ∧ decode cL_acts 339 = .ok (.iload_n 2, 1) ∧ decode cL_acts 340 = .ok (.bipush 6, 2) ∧ decode cL_acts 342 = .ok (.irem, 1) ∧ decode cL_acts 343 = .ok (.iconst 5, 1) ∧ decode cL_acts 344 = .ok (.if_icmp .ne 15, 3) ∧ decode cL_acts 347 = .ok (.iconst 1, 1) ∧ decode cL_acts 348 = .ok (.iload_n 2, 1) ∧ decode cL_acts 349 = .ok (.bipush 6, 2) ∧ decode cL_acts 351 = .ok (.idiv, 1) ∧ decode cL_acts 352 = .ok (.bipush 40, 2) ∧ decode cL_acts 354 = .ok (.irem, 1) ∧ decode cL_acts 355 = .ok (.iadd, 1) ∧ decode cL_acts 356 = .ok (.goto 45, 3) ∧ decode cL_acts 359 = .ok (.iload_n 2, 1) ∧ decode cL_acts 360 = .ok (.bipush 6, 2) ∧ decode cL_acts 362 = .ok (.irem, 1) ∧ decode cL_acts 363 = .ok (.iconst 4, 1) ∧ True := dq_of (l := (305, .aload_n 0, 1) :: (306, .iload_n 2, 1) :: (307, .bipush 12, 2) :: (309, .irem, 1) :: (310, .invokevirtual 55, 3) :: (313, .ireturn, 1) :: (314, .aload_n 0, 1) :: (315, .iload_n 2, 1) :: (316, .bipush 6, 2) :: (318, .irem, 1) :: (319, .iload_n 2, 1) :: (320, .bipush 6, 2) :: (322, .irem, 1) :: (323, .iconst 3, 1) :: (324, .if_icmp .ne 15, 3) :: (327, .iconst 2, 1) :: (328, .iload_n 2, 1) :: (329, .bipush 6, 2) :: (331, .idiv, 1) :: (332, .bipush 40, 2) :: (334, .irem, 1) :: (335, .iadd, 1) :: (336, .goto 65, 3) :: (339, .iload_n 2, 1) :: (340, .bipush 6, 2) :: (342, .irem, 1) :: (343, .iconst 5, 1) :: (344, .if_icmp .ne 15, 3) :: (347, .iconst 1, 1) :: (348, .iload_n 2, 1) :: (349, .bipush 6, 2) :: (351, .idiv, 1) :: (352, .bipush 40, 2) :: (354, .irem, 1) :: (355, .iadd, 1) :: (356, .goto 45, 3) :: (359, .iload_n 2, 1) :: (360, .bipush 6, 2) :: (362, .irem, 1) :: (363, .iconst 4, 1) :: []) (by decide +kernel)
theorem e_L_acts_305 : decode cL_acts 305 = .ok (.aload_n 0, 1) := D_L_acts_4.1
theorem e_L_acts_306 : decode cL_acts 306 = .ok (.iload_n 2, 1) := D_L_acts_4.2.1
theorem e_L_acts_307 : decode cL_acts 307 = .ok (.bipush 12, 2) := D_L_acts_4.2.2.1
theorem e_L_acts_309 : decode cL_acts 309 = .ok (.irem, 1) := D_L_acts_4.2.2.2.1
theorem e_L_acts_310 : decode cL_acts 310 = .ok (.invokevirtual 55, 3) := D_L_acts_4.2.2.2.2.1
theorem e_L_acts_313 : decode cL_acts 313 = .ok (.ireturn, 1) := D_L_acts_4.2.2.2.2.2.1
theorem e_L_acts_314 : decode cL_acts 314 = .ok (.aload_n 0, 1) := D_L_acts_4.2.2.2.2.2.2.1
theorem e_L_acts_315 : decode cL_acts 315 = .ok (.iload_n 2, 1) := D_L_acts_4.2.2.2.2.2.2.2.1
theorem e_L_acts_316 : decode cL_acts 316 = .ok (.bipush 6, 2) := D_L_acts_4.2.2.2.2.2.2.2.2.1
theorem e_L_acts_318 : decode cL_acts 318 = .ok (.irem, 1) := D_L_acts_4.2.2.2.2.2.2.2.2.2.1
theorem e_L_acts_319 : decode cL_acts 319 = .ok (.iload_n 2, 1) := D_L_acts_4.2.2.2.2.2.2.2.2.2.2.1
theorem e_L_acts_320 : decode cL_acts 320 = .ok (.bipush 6, 2) := D_L_acts_4.2.2.2.2.2.2.2.2.2.2.2.1
theorem e_L_acts_322 : decode cL_acts 322 = .ok (.irem, 1) := D_L_acts_4.2.2.2.2.2.2.2.2.2.2.2.2.1
theorem e_L_acts_323 : decode cL_acts 323 = .ok (.iconst 3, 1) := D_L_acts_4.2.2.2.2.2.2.2.2.2.2.2.2.2.1
theorem e_L_acts_324 : decode cL_acts 324 = .ok (.if_icmp .ne 15, 3) := D_L_acts_4.2.2.2.2.2.2.2.2.2.2.2.2.2.2.1
theorem e_L_acts_327 : decode cL_acts 327 = .ok (.iconst 2, 1) := D_L_acts_4.2.2.2.2.2.2.2.2.2.2.2.2.2.2.2.1
theorem e_L_acts_328 : decode cL_acts 328 = .ok (.iload_n 2, 1) := D_L_acts_4.2.2.2.2.2.2.2.2.2.2.2.2.2.2.2.2.1
theorem e_L_acts_329 : decode cL_acts 329 = .ok (.bipush 6, 2) := D_L_acts_4.2.2.2.2.2.2.2.2.2.2.2.2.2.2.2.2.2.1
theorem e_L_acts_331 : decode cL_acts 331 = .ok (.idiv, 1) := D_L_acts_4.2.2.2.2.2.2.2.2.2.2.2.2.2.2.2.2.2.2.1
theorem e_L_acts_332 : decode cL_acts 332 = .ok (.bipush 40, 2) := D_L_acts_4.2.2.2.2.2.2.2.2.2.2.2.2.2.2.2.2.2.2.2.1
theorem e_L_acts_334 : decode cL_acts 334 = .ok (.irem, 1) := D_L_acts_4.2.2.2.2.2.2.2.2.2.2.2.2.2.2.2.2.2.2.2.2.1
theorem e_L_acts_335 : decode cL_acts 335 = .ok (.iadd, 1) := D_L_acts_4.2.2.2.2.2.2.2.2.2.2.2.2.2.2.2.2.2.2.2.2.2.1
theorem e_L_acts_336 : decode cL_acts 336 = .ok (.goto 65, 3) := D_L_acts_4.2.2.2.2.2.2.2.2.2.2.2.2.2.2.2.2.2.2.2.2.2.2.1
theorem e_L_acts_339 : decode cL_acts 339 = .ok (.iload_n 2, 1) := D_L_acts_4.2.2.2.2.2.2.2.2.2.2.2.2.2.2.2.2.2.2.2.2.2.2.2.1
theorem e_L_acts_340 : decode cL_acts 340 = .ok (.bipush 6, 2) := D_L_acts_4.2.2.2.2.2.2.2.2.2.2.2.2.2.2.2.2.2.2.2.2.2.2.2.2.1
theorem e_L_acts_342 : decode cL_acts 342 = .ok (.irem, 1) := D_L_acts_4.2.2.2.2.2.2.2.2.2.2.2.2.2.2.2.2.2.2.2.2.2.2.2.2.2.1
theorem e_L_acts_343 : decode cL_acts 343 = .ok (.iconst 5, 1) := D_L_acts_4.2.2.2.2.2.2.2.2.2.2.2.2.2.2.2.2.2.2.2.2.2.2.2.2.2.2.1
theorem e_L_acts_344 : decode cL_acts 344 = .ok (.if_icmp .ne 15, 3) := D_L_acts_4.2.2.2.2.2.2.2.2.2.2.2.2.2.2.2.2.2.2.2.2.2.2.2.2.2.2.2.1
theorem e_L_acts_347 : decode cL_acts 347 = .ok (.iconst 1, 1) := D_L_acts_4.2.2.2.2.2.2.2.2.2.2.2.2.2.2.2.2.2.2.2.2.2.2.2.2.2.2.2.2.1
theorem e_L_acts_348 : decode cL_acts 348 = .ok (.iload_n 2, 1) := D_L_acts_4.2.2.2.2.2.2.2.2.2.2.2.2.2.2.2.2.2.2.2.2.2.2.2.2.2.2.2.2.2.1
theorem e_L_acts_349 : decode cL_acts 349 = .ok (.bipush 6, 2) := D_L_acts_4.2.2.2.2.2.2.2.2.2.2.2.2.2.2.2.2.2.2.2.2.2.2.2.2.2.2.2.2.2.2.1
theorem e_L_acts_351 : decode cL_acts 351 = .ok (.idiv, 1) := D_L_acts_4.2.2.2.2.2.2.2.2.2.2.2.2.2.2.2.2.2.2.2.2.2.2.2.2.2.2.2.2.2.2.2.1
theorem e_L_acts_352 : decode cL_acts 352 = .ok (.bipush 40, 2) := D_L_acts_4.2.2.2.2.2.2.2.2.2.2.2.2.2.2.2.2.2.2.2.2.2.2.2.2.2.2.2.2.2.2.2.2.1
theorem e_L_acts_354 : decode cL_acts 354 = .ok (.irem, 1) := D_L_acts_4.2.2.2.2.2.2.2.2.2.2.2.2.2.2.2.2.2.2.2.2.2.2.2.2.2.2.2.2.2.2.2.2.2.1
theorem e_L_acts_355 : decode cL_acts 355 = .ok (.iadd, 1) := D_L_acts_4.2.2.2.2.2.2.2.2.2.2.2.2.2.2.2.2.2.2.2.2.2.2.2.2.2.2.2.2.2.2.2.2.2.2.1
theorem e_L_acts_356 : decode cL_acts 356 = .ok (.goto 45, 3) := D_L_acts_4.2.2.2.2.2.2.2.2.2.2.2.2.2.2.2.2.2.2.2.2.2.2.2.2.2.2.2.2.2.2.2.2.2.2.2.1
theorem e_L_acts_359 : decode cL_acts 359 = .ok (.iload_n 2, 1) := D_L_acts_4.2.2.2.2.2.2.2.2.2.2.2.2.2.2.2.2.2.2.2.2.2.2.2.2.2.2.2.2.2.2.2.2.2.2.2.2.1
theorem e_L_acts_360 : decode cL_acts 360 = .ok (.bipush 6, 2) := D_L_acts_4.2.2.2.2.2.2.2.2.2.2.2.2.2.2.2.2.2.2.2.2.2.2.2.2.2.2.2.2.2.2.2.2.2.2.2.2.2.1
theorem e_L_acts_362 : decode cL_acts 362 = .ok (.irem, 1) := D_L_acts_4.2.2.2.2.2.2.2.2.2.2.2.2.2.2.2.2.2.2.2.2.2.2.2.2.2.2.2.2.2.2.2.2.2.2.2.2.2.2.1
theorem e_L_acts_363 : decode cL_acts 363 = .ok (.iconst 4, 1) := D_L_acts_4.2.2.2.2.2.2.2.2.2.2.2.2.2.2.2.2.2.2.2.2.2.2.2.2.2.2.2.2.2.2.2.2.2.2.2.2.2.2.2.1
set_option maxRecDepth 100000 in
theorem D_L_acts_5 : decode cL_acts 364 = .ok (.if_icmp .ne 13, 3) ∧ decode cL_acts 367 = .ok (.iload_n 2, 1) ∧ decode cL_acts 368 = .ok (.bipush 6, 2) ∧ decode cL_acts 370 = .ok (.idiv, 1) ∧ decode cL_acts 371 = .ok (.bipush 9, 2) ∧ decode cL_acts 373 = .ok (.irem, 1) ∧ decode cL_acts 374 = .ok (.goto 27, 3) ∧ decode cL_acts 377 = .ok (.iload_n 2, 1) ∧ decode cL_acts 378 = .ok (.bipush 6, 2) ∧ decode cL_acts 380 = .ok (.irem, 1) ∧ decode cL_acts 381 = .ok (.ifCond .ne 14, 3) ∧ decode cL_acts 384 = .ok (.iconst 1, 1) ∧ decode cL_acts 385 = .ok (.iload_n 2, 1) ∧ decode cL_acts 386 = .ok (.bipush 6, 2) ∧ decode cL_acts 388 = .ok (.idiv, 1) ∧ decode cL_acts 389 = .ok (.iconst 4, 1) ∧ decode cL_acts 390 = .ok (.irem, 1) ∧ decode cL_acts 391 = .ok (.iadd, 1) ∧ decode cL_acts 392 = .ok (.goto 9, 3) ∧ decode cL_acts 395 = .ok (.iload_n 2, 1) ∧ decode cL_acts 396 = .ok (.bipush 6, 2) ∧ decode cL_acts 398 = .ok (.idiv, 1) ∧ decode cL_acts 399 = .ok (.iconst 4, 1) ∧ decode cL_acts 400 = .ok (.irem, 1) ∧ decode cL_acts 401 = .ok (.invokevirtual 58, 3) ∧ decode cL_acts 404 = .ok (.ireturn, 1) ∧ decode cL_acts 405 = .ok (.aload_n 0, 1) ∧ decode cL_acts 406 = .ok (.invokevirtual 102, 3) ∧ decode cL_acts 409 = .ok (.ireturn, 1) ∧ decode cL_acts 410 = .ok (.aload_n 0, 1) ∧ decode cL_acts 411 = .ok (.iconst 1, 1) ∧ decode cL_acts 412 = .ok (.iload_n 2, 1) ∧ decode cL_acts 413 = .ok (.iload_n 2, 1) ∧ decode cL_acts 414 = .ok (.iconst 3, 1) ∧ decode cL_acts 415 = .ok (.irem, 1) ∧ decode cL_acts 416 = .ok (.ifCond .ne 9, 3) ∧ decode cL_acts 419 = .ok (.sipush 300, 3) ∧ decode cL_acts 422 = .ok (.goto 5, 3) ∧ decode cL_acts 425 = .ok (.bipush 25, 2) ∧ decode cL_acts 427 = .ok (.irem, 1) ∧ True := dq_of (l := (364, .if_icmp .ne 13, 3) :: (367, .iload_n 2, 1) :: (368, .bipush 6, 2) :: (370, .idiv, 1) :: (371, .bipush 9, 2) :: (373, .irem, 1) :: (374, .goto 27, 3) :: (377, .iload_n 2, 1) :: (378, .bipush 6, 2) :: (380, .irem, 1) :: (381, .ifCond .ne 14, 3) :: (384, .iconst 1, 1) :: (385, .iload_n 2, 1) :: (386, .bipush 6, 2) :: (388, .idiv, 1) :: (389, .iconst 4, 1) :: (390, .irem, 1) :: (391, .iadd, 1) :: (392, .goto 9, 3) :: (395, .iload_n 2, 1) :: (396, .bipush 6, 2) :: (398, .idiv, 1) :: (399, .iconst 4, 1) :: (400, .irem, 1) :: (401, .invokevirtual 58, 3) :: (404, .ireturn, 1) :: (405, .aload_n 0, 1) :: (406, .invokevirtual 102, 3) :: (409, .ireturn, 1) :: (410, .aload_n 0, 1) :: (411, .iconst 1, 1) :: (412, .iload_n 2, 1) :: (413, .iload_n 2, 1) :: (414, .iconst 3, 1) :: (415, .irem, 1) :: (416, .ifCond .ne 9, 3) :: (419, .sipush 300, 3) :: (422, .goto 5, 3) :: (425, .bipush 25, 2) :: (427, .irem, 1) :: []) (by decide +kernel)
theorem e_L_acts_364 : decode cL_acts 364 = .ok (.if_icmp .ne 13, 3) := D_L_acts_5.1
theorem e_L_acts_367 : decode cL_acts 367 = .ok (.iload_n 2, 1) := D_L_acts_5.2.1
theorem e_L_acts_368 : decode cL_acts 368 = .ok (.bipush 6, 2) := D_L_acts_5.2.2.1
theorem e_L_acts_370 : decode cL_acts 370 = .ok (.idiv, 1) := D_L_acts_5.2.2.2.1
theorem e_L_acts_371 : decode cL_acts 371 = .ok (.bipush 9, 2) := D_L_acts_5.2.2.2.2.1
theorem e_L_acts_373 : decode cL_acts 373 = .ok (.irem, 1) := D_L_acts_5.2.2.2.2.2.1
theorem e_L_acts_374 : decode cL_acts 374 = .ok (.goto 27, 3) := D_L_acts_5.2.2.2.2.2.2.1
theorem e_L_acts_377 : decode cL_acts 377 = .ok (.iload_n 2, 1) := D_L_acts_5.2.2.2.2.2.2.2.1
theorem e_L_acts_378 : decode cL_acts 378 = .ok (.bipush 6, 2) := D_L_acts_5.2.2.2.2.2.2.2.2.1
theorem e_L_acts_380 : decode cL_acts 380 = .ok (.irem, 1) := D_L_acts_5.2.2.2.2.2.2.2.2.2.1
theorem e_L_acts_381 : decode cL_acts 381 = .ok (.ifCond .ne 14, 3) := D_L_acts_5.2.2.2.2.2.2.2.2.2.2.1
theorem e_L_acts_384 : decode cL_acts 384 = .ok (.iconst 1, 1) := D_L_acts_5.2.2.2.2.2.2.2.2.2.2.2.1
theorem e_L_acts_385 : decode cL_acts 385 = .ok (.iload_n 2, 1) := D_L_acts_5.2.2.2.2.2.2.2.2.2.2.2.2.1
theorem e_L_acts_386 : decode cL_acts 386 = .ok (.bipush 6, 2) := D_L_acts_5.2.2.2.2.2.2.2.2.2.2.2.2.2.1
theorem e_L_acts_388 : decode cL_acts 388 = .ok (.idiv, 1) := D_L_acts_5.2.2.2.2.2.2.2.2.2.2.2.2.2.2.1
theorem e_L_acts_389 : decode cL_acts 389 = .ok (.iconst 4, 1) := D_L_acts_5.2.2.2.2.2.2.2.2.2.2.2.2.2.2.2.1
theorem e_L_acts_390 : decode cL_acts 390 = .ok (.irem, 1) := D_L_acts_5.2.2.2.2.2.2.2.2.2.2.2.2.2.2.2.2.1
theorem e_L_acts_391 : decode cL_acts 391 = .ok (.iadd, 1) := D_L_acts_5.2.2.2.2.2.2.2.2.2.2.2.2.2.2.2.2.2.1
theorem e_L_acts_392 : decode cL_acts 392 = .ok (.goto 9, 3) := D_L_acts_5.2.2.2.2.2.2.2.2.2.2.2.2.2.2.2.2.2.2.1
theorem e_L_acts_395 : decode cL_acts 395 = .ok (.iload_n 2, 1) := D_L_acts_5.2.2.2.2.2.2.2.2.2.2.2.2.2.2.2.2.2.2.2.1
theorem e_L_acts_396 : decode cL_acts 396 = .ok (.bipush 6, 2) := D_L_acts_5.2.2.2.2.2.2.2.2.2.2.2.2.2.2.2.2.2.2.2.2.1
theorem e_L_acts_398 : decode cL_acts 398 = .ok (.idiv, 1) := D_L_acts_5.2.2.2.2.2.2.2.2.2.2.2.2.2.2.2.2.2.2.2.2.2.1
theorem e_L_acts_399 : decode cL_acts 399 = .ok (.iconst 4, 1) := D_L_acts_5.2.2.2.2.2.2.2.2.2.2.2.2.2.2.2.2.2.2.2.2.2.2.1
theorem e_L_acts_400 : decode cL_acts 400 = .ok (.irem, 1) := D_L_acts_5.2.2.2.2.2.2.2.2.2.2.2.2.2.2.2.2.2.2.2.2.2.2.2.1
theorem e_L_acts_401 : decode cL_acts 401 = .ok (.invokevirtual 58, 3) := D_L_acts_5.2.2.2.2.2.2.2.2.2.2.2.2.2.2.2.2.2.2.2.2.2.2.2.2.1
theorem e_L_acts_404 : decode cL_acts 404 = .ok (.ireturn, 1) := D_L_acts_5.2.2.2.2.2.2.2.2.2.2.2.2.2.2.2.2.2.2.2.2.2.2.2.2.2.1
theorem e_L_acts_405 : decode cL_acts 405 = .ok (.aload_n 0, 1) := D_L_acts_5.2.2.2.2.2.2.2.2.2.2.2.2.2.2.2.2.2.2.2.2.2.2.2.2.2.2.1
theorem e_L_acts_406 : decode cL_acts 406 = .ok (.invokevirtual 102, 3) := D_L_acts_5.2.2.2.2.2.2.2.2.2.2.2.2.2.2.2.2.2.2.2.2.2.2.2.2.2.2.2.1
theorem e_L_acts_409 : decode cL_acts 409 = .ok (.ireturn, 1) := D_L_acts_5.2.2.2.2.2.2.2.2.2.2.2.2.2.2.2.2.2.2.2.2.2.2.2.2.2.2.2.2.1
theorem e_L_acts_410 : decode cL_acts 410 = .ok (.aload_n 0, 1) := D_L_acts_5.2.2.2.2.2.2.2.2.2.2.2.2.2.2.2.2.2.2.2.2.2.2.2.2.2.2.2.2.2.1
theorem e_L_acts_411 : decode cL_acts 411 = .ok (.iconst 1, 1) := D_L_acts_5.2.2.2.2.2.2.2.2.2.2.2.2.2.2.2.2.2.2.2.2.2.2.2.2.2.2.2.2.2.2.1
theorem e_L_acts_412 : decode cL_acts 412 = .ok (.iload_n 2, 1) := D_L_acts_5.2.2.2.2.2.2.2.2.2.2.2.2.2.2.2.2.2.2.2.2.2.2.2.2.2.2.2.2.2.2.2.1
theorem e_L_acts_413 : decode cL_acts 413 = .ok (.iload_n 2, 1) := D_L_acts_5.2.2.2.2.2.2.2.2.2.2.2.2.2.2.2.2.2.2.2.2.2.2.2.2.2.2.2.2.2.2.2.2.1
theorem e_L_acts_414 : decode cL_acts 414 = .ok (.iconst 3, 1) := D_L_acts_5.2.2.2.2.2.2.2.2.2.2.2.2.2.2.2.2.2.2.2.2.2.2.2.2.2.2.2.2.2.2.2.2.2.1
theorem e_L_acts_415 : decode cL_acts 415 = .ok (.irem, 1) := D_L_acts_5.2.2.2.2.2.2.2.2.2.2.2.2.2.2.2.2.2.2.2.2.2.2.2.2.2.2.2.2.2.2.2.2.2.2.1
theorem e_L_acts_416 : decode cL_acts 416 = .ok (.ifCond .ne 9, 3) := D_L_acts_5.2.2.2.2.2.2.2.2.2.2.2.2.2.2.2.2.2.2.2.2.2.2.2.2.2.2.2.2.2.2.2.2.2.2.2.1
theorem e_L_acts_419 : decode cL_acts 419 = .ok (.sipush 300, 3) := D_L_acts_5.2.2.2.2.2.2.2.2.2.2.2.2.2.2.2.2.2.2.2.2.2.2.2.2.2.2.2.2.2.2.2.2.2.2.2.2.1
theorem e_L_acts_422 : decode cL_acts 422 = .ok (.goto 5, 3) := D_L_acts_5.2.2.2.2.2.2.2.2.2.2.2.2.2.2.2.2.2.2.2.2.2.2.2.2.2.2.2.2.2.2.2.2.2.2.2.2.2.1
theorem e_L_acts_425 : decode cL_acts 425 = .ok (.bipush 25, 2) := D_L_acts_5.2.2.2.2.2.2.2.2.2.2.2.2.2.2.2.2.2.2.2.2.2.2.2.2.2.2.2.2.2.2.2.2.2.2.2.2.2.2.1
theorem e_L_acts_427 : decode cL_acts 427 = .ok (.irem, 1) := D_L_acts_5.2.2.2.2.2.2.2.2.2.2.2.2.2.2.2.2.2.2.2.2.2.2.2.2.2.2.2.2.2.2.2.2.2.2.2.2.2.2.2.1
set_option maxRecDepth 100000 in
theorem D_L_acts_6 : decode cL_acts 428 = .ok (.iadd, 1) ∧ decode cL_acts 429 = .ok (.invokevirtual 77, 3) ∧ decode cL_acts 432 = .ok (.ireturn, 1) ∧ True := dq_of (l := (428, .iadd, 1) :: (429, .invokevirtual 77, 3) :: (432, .ireturn, 1) :: []) (by decide +kernel)
theorem e_L_acts_428 : decode cL_acts 428 = .ok (.iadd, 1) := D_L_acts_6.1
theorem e_L_acts_429 : decode cL_acts 429 = .ok (.invokevirtual 77, 3) := D_L_acts_6.2.1
theorem e_L_acts_432 : decode cL_acts 432 = .ok (.ireturn, 1) := D_L_acts_6.2.2.1
set_option maxRecDepth 100000 in
theorem D_L_law_0 : decode cL_law 0 = .ok (.new 14, 3) ∧ decode cL_law 3 = .ok (.dup, 1) ∧ decode cL_law 4 = .ok (.invokespecial 105, 3) ∧ decode cL_law 7 = .ok (.astore_n 1, 1) ∧ decode cL_law 8 = .ok (.aload_n 1, 1) ∧ decode cL_law 9 = .ok (.invokevirtual 89, 3) ∧ decode cL_law 12 = .ok (.bipush (-2), 2) ∧ decode cL_law 14 = .ok (.if_icmp .ne 28, 3) ∧ decode cL_law 17 = .ok (.aload_n 1, 1) ∧ decode cL_law 18 = .ok (.invokestatic 106, 3) ∧ decode cL_law 21 = .ok (.ifCond .eq 21, 3) ∧ decode cL_law 24 = .ok (.aload_n 1, 1) ∧ decode cL_law 25 = .ok (.invokestatic 92, 3) ∧ decode cL_law 28 = .ok (.ifCond .eq 14, 3) ∧ decode cL_law 31 = .ok (.aload_n 1, 1) ∧ decode cL_law 32 = .ok (.invokestatic 96, 3) ∧ decode cL_law 35 = .ok (.ifCond .eq 7, 3) ∧ decode cL_law 38 = .ok (.iconst 1, 1) ∧ decode cL_law 39 = .ok (.goto 4, 3) ∧ decode cL_law 42 = .ok (.iconst 0, 1) ∧ decode cL_law 43 = .ok (.istore_n 2, 1) ∧ decode cL_law 44 = .ok (.iconst 0, 1) ∧ decode cL_law 45 = .ok (.istore_n 3, 1) ∧ decode cL_law 46 = .ok (.iload_n 3, 1) ∧ decode cL_law 47 = .ok (.bipush 60, 2) ∧ decode cL_law 49 = .ok (.if_icmp .ge 342, 3) ∧ decode cL_law 52 = .ok (.iload_n 2, 1) ∧ decode cL_law 53 = .ok (.ifCond .eq 338, 3) ∧ decode cL_law 56 = .ok (.aload_n 0, 1) ∧ decode cL_law 57 = .ok (.iconst 2, 1) ∧ decode cL_law 58 = .ok (.iload_n 3, 1) ∧ decode cL_law 59 = .ok (.imul, 1) ∧ decode cL_law 60 = .ok (.invokestatic 109, 3) ∧ decode cL_law 63 = .ok (.istore 4, 2) ∧ decode cL_law 65 = .ok (.aload_n 0, 1) ∧ decode cL_law 66 = .ok (.iconst 2, 1) ∧ decode cL_law 67 = .ok (.iload_n 3, 1) ∧ decode cL_law 68 = .ok (.imul, 1) ∧ decode cL_law 69 = .ok (.iconst 1, 1) ∧ decode cL_law 70 = .ok (.iadd, 1) ∧ True := dq_of (l := (0, .new 14, 3) :: (3, .dup, 1) :: (4, .invokespecial 105, 3) :: (7, .astore_n 1, 1) :: (8, .aload_n 1, 1) :: (9, .invokevirtual 89, 3) :: (12, .bipush (-2), 2) :: (14, .if_icmp .ne 28, 3) :: (17, .aload_n 1, 1) :: (18, .invokestatic 106, 3) :: (21, .ifCond .eq 21, 3) :: (24, .aload_n 1, 1) :: (25, .invokestatic 92, 3) :: (28, .ifCond .eq 14, 3) :: (31, .aload_n 1, 1) :: (32, .invokestatic 96, 3) :: (35, .ifCond .eq 7, 3) :: (38, .iconst 1, 1) :: (39, .goto 4, 3) :: (42, .iconst 0, 1) :: (43, .istore_n 2, 1) :: (44, .iconst 0, 1) :: (45, .istore_n 3, 1) :: (46, .iload_n 3, 1) :: (47, .bipush 60, 2) :: (49, .if_icmp .ge 342, 3) :: (52, .iload_n 2, 1) :: (53, .ifCond .eq 338, 3) :: (56, .aload_n 0, 1) :: (57, .iconst 2, 1) :: (58, .iload_n 3, 1) :: (59, .imul, 1) :: (60, .invokestatic 109, 3) :: (63, .istore 4, 2) :: (65, .aload_n 0, 1) :: (66, .iconst 2, 1) :: (67, .iload_n 3, 1) :: (68, .imul, 1) :: (69, .iconst 1, 1) :: (70, .iadd, 1) :: []) (by decide +kernel)
theorem e_L_law_0 : decode cL_law 0 = .ok (.new 14, 3) := D_L_law_0.1
theorem e_L_law_3 : decode cL_law 3 = .ok (.dup, 1) := D_L_law_0.2.1
theorem e_L_law_4 : decode cL_law 4 = .ok (.invokespecial 105, 3) := D_L_law_0.2.2.1
theorem e_L_law_7 : decode cL_law 7 = .ok (.astore_n 1, 1) := D_L_law_0.2.2.2.1
theorem e_L_law_8 : decode cL_law 8 = .ok (.aload_n 1, 1) := D_L_law_0.2.2.2.2.1
theorem e_L_law_9 : decode cL_law 9 = .ok (.invokevirtual 89, 3) := D_L_law_0.2.2.2.2.2.1
theorem e_L_law_12 : decode cL_law 12 = .ok (.bipush (-2), 2) := D_L_law_0.2.2.2.2.2.2.1
theorem e_L_law_14 : decode cL_law 14 = .ok (.if_icmp .ne 28, 3) := D_L_law_0.2.2.2.2.2.2.2.1
theorem e_L_law_17 : decode cL_law 17 = .ok (.aload_n 1, 1) := D_L_law_0.2.2.2.2.2.2.2.2.1
theorem e_L_law_18 : decode cL_law 18 = .ok (.invokestatic 106, 3) := D_L_law_0.2.2.2.2.2.2.2.2.2.1
theorem e_L_law_21 : decode cL_law 21 = .ok (.ifCond .eq 21, 3) := D_L_law_0.2.2.2.2.2.2.2.2.2.2.1
theorem e_L_law_24 : decode cL_law 24 = .ok (.aload_n 1, 1) := D_L_law_0.2.2.2.2.2.2.2.2.2.2.2.1
theorem e_L_law_25 : decode cL_law 25 = .ok (.invokestatic 92, 3) := D_L_law_0.2.2.2.2.2.2.2.2.2.2.2.2.1
theorem e_L_law_28 : decode cL_law 28 = .ok (.ifCond .eq 14, 3) := D_L_law_0.2.2.2.2.2.2.2.2.2.2.2.2.2.1
theorem e_L_law_31 : decode cL_law 31 = .ok (.aload_n 1, 1) := D_L_law_0.2.2.2.2.2.2.2.2.2.2.2.2.2.2.1
theorem e_L_law_32 : decode cL_law 32 = .ok (.invokestatic 96, 3) := D_L_law_0.2.2.2.2.2.2.2.2.2.2.2.2.2.2.2.1
theorem e_L_law_35 : decode cL_law 35 = .ok (.ifCond .eq 7, 3) := D_L_law_0.2.2.2.2.2.2.2.2.2.2.2.2.2.2.2.2.1
theorem e_L_law_38 : decode cL_law 38 = .ok (.iconst 1, 1) := D_L_law_0.2.2.2.2.2.2.2.2.2.2.2.2.2.2.2.2.2.1
theorem e_L_law_39 : decode cL_law 39 = .ok (.goto 4, 3) := D_L_law_0.2.2.2.2.2.2.2.2.2.2.2.2.2.2.2.2.2.2.1
theorem e_L_law_42 : decode cL_law 42 = .ok (.iconst 0, 1) := D_L_law_0.2.2.2.2.2.2.2.2.2.2.2.2.2.2.2.2.2.2.2.1
theorem e_L_law_43 : decode cL_law 43 = .ok (.istore_n 2, 1) := D_L_law_0.2.2.2.2.2.2.2.2.2.2.2.2.2.2.2.2.2.2.2.2.1
theorem e_L_law_44 : decode cL_law 44 = .ok (.iconst 0, 1) := D_L_law_0.2.2.2.2.2.2.2.2.2.2.2.2.2.2.2.2.2.2.2.2.2.1
theorem e_L_law_45 : decode cL_law 45 = .ok (.istore_n 3, 1) := D_L_law_0.2.2.2.2.2.2.2.2.2.2.2.2.2.2.2.2.2.2.2.2.2.2.1
theorem e_L_law_46 : decode cL_law 46 = .ok (.iload_n 3, 1) := D_L_law_0.2.2.2.2.2.2.2.2.2.2.2.2.2.2.2.2.2.2.2.2.2.2.2.1
theorem e_L_law_47 : decode cL_law 47 = .ok (.bipush 60, 2) := D_L_law_0.2.2.2.2.2.2.2.2.2.2.2.2.2.2.2.2.2.2.2.2.2.2.2.2.1
theorem e_L_law_49 : decode cL_law 49 = .ok (.if_icmp .ge 342, 3) := D_L_law_0.2.2.2.2.2.2.2.2.2.2.2.2.2.2.2.2.2.2.2.2.2.2.2.2.2.1
theorem e_L_law_52 : decode cL_law 52 = .ok (.iload_n 2, 1) := D_L_law_0.2.2.2.2.2.2.2.2.2.2.2.2.2.2.2.2.2.2.2.2.2.2.2.2.2.2.1
theorem e_L_law_53 : decode cL_law 53 = .ok (.ifCond .eq 338, 3) := D_L_law_0.2.2.2.2.2.2.2.2.2.2.2.2.2.2.2.2.2.2.2.2.2.2.2.2.2.2.2.1
theorem e_L_law_56 : decode cL_law 56 = .ok (.aload_n 0, 1) := D_L_law_0.2.2.2.2.2.2.2.2.2.2.2.2.2.2.2.2.2.2.2.2.2.2.2.2.2.2.2.2.1
theorem e_L_law_57 : decode cL_law 57 = .ok (.iconst 2, 1) := D_L_law_0.2.2.2.2.2.2.2.2.2.2.2.2.2.2.2.2.2.2.2.2.2.2.2.2.2.2.2.2.2.1
theorem e_L_law_58 : decode cL_law 58 = .ok (.iload_n 3, 1) := D_L_law_0.2.2.2.2.2.2.2.2.2.2.2.2.2.2.2.2.2.2.2.2.2.2.2.2.2.2.2.2.2.2.1
theorem e_L_law_59 : decode cL_law 59 = .ok (.imul, 1) := D_L_law_0.2.2.2.2.2.2.2.2.2.2.2.2.2.2.2.2.2.2.2.2.2.2.2.2.2.2.2.2.2.2.2.1
theorem e_L_law_60 : decode cL_law 60 = .ok (.invokestatic 109, 3) := D_L_law_0.2.2.2.2.2.2.2.2.2.2.2.2.2.2.2.2.2.2.2.2.2.2.2.2.2.2.2.2.2.2.2.2.1
theorem e_L_law_63 : decode cL_law 63 = .ok (.istore 4, 2) := D_L_law_0.2.2.2.2.2.2.2.2.2.2.2.2.2.2.2.2.2.2.2.2.2.2.2.2.2.2.2.2.2.2.2.2.2.1
theorem e_L_law_65 : decode cL_law 65 = .ok (.aload_n 0, 1) := D_L_law_0.2.2.2.2.2.2.2.2.2.2.2.2.2.2.2.2.2.2.2.2.2.2.2.2.2.2.2.2.2.2.2.2.2.2.1
theorem e_L_law_66 : decode cL_law 66 = .ok (.iconst 2, 1) := D_L_law_0.2.2.2.2.2.2.2.2.2.2.2.2.2.2.2.2.2.2.2.2.2.2.2.2.2.2.2.2.2.2.2.2.2.2.2.1
theorem e_L_law_67 : decode cL_law 67 = .ok (.iload_n 3, 1) := D_L_law_0.2.2.2.2.2.2.2.2.2.2.2.2.2.2.2.2.2.2.2.2.2.2.2.2.2.2.2.2.2.2.2.2.2.2.2.2.1
theorem e_L_law_68 : decode cL_law 68 = .ok (.imul, 1) := D_L_law_0.2.2.2.2.2.2.2.2.2.2.2.2.2.2.2.2.2.2.2.2.2.2.2.2.2.2.2.2.2.2.2.2.2.2.2.2.2.1
theorem e_L_law_69 : decode cL_law 69 = .ok (.iconst 1, 1) := D_L_law_0.2.2.2.2.2.2.2.2.2.2.2.2.2.2.2.2.2.2.2.2.2.2.2.2.2.2.2.2.2.2.2.2.2.2.2.2.2.2.1
theorem e_L_law_70 : decode cL_law 70 = .ok (.iadd, 1) := D_L_law_0.2.2.2.2.2.2.2.2.2.2.2.2.2.2.2.2.2.2.2.2.2.2.2.2.2.2.2.2.2.2.2.2.2.2.2.2.2.2.2.1
set_option maxRecDepth 100000 in
theorem D_L_law_1 : decode cL_law 71 = .ok (.invokestatic 109, 3) ∧ decode cL_law 74 = .ok (.ldc 113, 2) ∧ decode cL_law 76 = .ok (.invokestatic 99, 3) ∧ decode cL_law 79 = .ok (.istore 5, 2) ∧ decode cL_law 81 = .ok (.aload_n 1, 1) ∧ decode cL_law 82 = .ok (.invokestatic 42, 3) ∧ decode cL_law 85 = .ok (.lstore 6, 2) ∧ decode cL_law 87 = .ok (.aload_n 1, 1) ∧ decode cL_law 88 = .ok (.bipush 15, 2) ∧ decode cL_law 90 = .ok (.invokevirtual 13, 3) ∧ decode cL_law 93 = .ok (.istore 8, 2) ∧ decode cL_law 95 = .ok (.iload_n 3, 1) ∧ decode cL_law 96 = .ok (.iconst 3, 1) ∧ decode cL_law 97 = .ok (.if_icmp .ge 7, 3) ∧ decode cL_law 100 = .ok (.iconst 4, 1) ∧ decode cL_law 101 = .ok (.goto 20, 3) ∧ decode cL_law 104 = .ok (.iload_n 3, 1) ∧ decode cL_law 105 = .ok (.bipush 6, 2) ∧ decode cL_law 107 = .ok (.if_icmp .ge 7, 3) ∧ decode cL_law 110 = .ok (.iconst 0, 1) ∧ decode cL_law 111 = .ok (.goto 10, 3) ∧ decode cL_law 114 = .ok (.iload 4, 2) ∧ decode cL_law 116 = .ok (.bipush 20, 2) ∧ decode cL_law 118 = .ok (.invokestatic 99, 3) ∧ decode cL_law 121 = .ok (.istore 9, 2) ∧ decode cL_law 123 = .ok (.aload_n 1, 1) ∧ decode cL_law 124 = .ok (.bipush 20, 2) ∧ decode cL_law 126 = .ok (.iload 4, 2) ∧ decode cL_law 128 = .ok (.iconst 4, 1) ∧ decode cL_law 129 = .ok (.ishr, 1) ∧ decode cL_law 130 = .ok (.ldc 114, 2) ∧ decode cL_law 132 = .ok (.invokestatic 99, 3) ∧ decode cL_law 135 = .ok (.imul, 1) ∧ decode cL_law 136 = .ok (.iload 9, 2) ∧ decode cL_law 138 = .ok (.iadd, 1) ∧ decode cL_law 139 = .ok (.iload 5, 2) ∧ decode cL_law 141 = .ok (.invokestatic 115, 3) ∧ decode cL_law 144 = .ok (.istore 10, 2) ∧ decode cL_law 146 = .ok (.iload 10, 2) ∧ decode cL_law 148 = .ok (.bipush (-4), 2) ∧ True := dq_of (l := (71, .invokestatic 109, 3) :: (74, .ldc 113, 2) :: (76, .invokestatic 99, 3) :: (79, .istore 5, 2) :: (81, .aload_n 1, 1) :: (82, .invokestatic 42, 3) :: (85, .lstore 6, 2) :: (87, .aload_n 1, 1) :: (88, .bipush 15, 2) :: (90, .invokevirtual 13, 3) :: (93, .istore 8, 2) :: (95, .iload_n 3, 1) :: (96, .iconst 3, 1) :: (97, .if_icmp .ge 7, 3) :: (100, .iconst 4, 1) :: (101, .goto 20, 3) :: (104, .iload_n 3, 1) :: (105, .bipush 6, 2) :: (107, .if_icmp .ge 7, 3) :: (110, .iconst 0, 1) :: (111, .goto 10, 3) :: (114, .iload 4, 2) :: (116, .bipush 20, 2) :: (118, .invokestatic 99, 3) :: (121, .istore 9, 2) :: (123, .aload_n 1, 1) :: (124, .bipush 20, 2) :: (126, .iload 4, 2) :: (128, .iconst 4, 1) :: (129, .ishr, 1) :: (130, .ldc 114, 2) :: (132, .invokestatic 99, 3) :: (135, .imul, 1) :: (136, .iload 9, 2) :: (138, .iadd, 1) :: (139, .iload 5, 2) :: (141, .invokestatic 115, 3) :: (144, .istore 10, 2) :: (146, .iload 10, 2) :: (148, .bipush (-4), 2) :: []) (by decide +kernel)
theorem e_L_law_71 : decode cL_law 71 = .ok (.invokestatic 109, 3) := D_L_law_1.1
theorem e_L_law_74 : decode cL_law 74 = .ok (.ldc 113, 2) := D_L_law_1.2.1
theorem e_L_law_76 : decode cL_law 76 = .ok (.invokestatic 99, 3) := D_L_law_1.2.2.1
theorem e_L_law_79 : decode cL_law 79 = .ok (.istore 5, 2) := D_L_law_1.2.2.2.1
theorem e_L_law_81 : decode cL_law 81 = .ok (.aload_n 1, 1) := D_L_law_1.2.2.2.2.1
theorem e_L_law_82 : decode cL_law 82 = .ok (.invokestatic 42, 3) := D_L_law_1.2.2.2.2.2.1
theorem e_L_law_85 : decode cL_law 85 = .ok (.lstore 6, 2) := D_L_law_1.2.2.2.2.2.2.1
theorem e_L_law_87 : decode cL_law 87 = .ok (.aload_n 1, 1) := D_L_law_1.2.2.2.2.2.2.2.1
theorem e_L_law_88 : decode cL_law 88 = .ok (.bipush 15, 2) := D_L_law_1.2.2.2.2.2.2.2.2.1
theorem e_L_law_90 : decode cL_law 90 = .ok (.invokevirtual 13, 3) := D_L_law_1.2.2.2.2.2.2.2.2.2.1
theorem e_L_law_93 : decode cL_law 93 = .ok (.istore 8, 2) := D_L_law_1.2.2.2.2.2.2.2.2.2.2.1
theorem e_L_law_95 : decode cL_law 95 = .ok (.iload_n 3, 1) := D_L_law_1.2.2.2.2.2.2.2.2.2.2.2.1
theorem e_L_law_96 : decode cL_law 96 = .ok (.iconst 3, 1) := D_L_law_1.2.2.2.2.2.2.2.2.2.2.2.2.1
theorem e_L_law_97 : decode cL_law 97 = .ok (.if_icmp .ge 7, 3) := D_L_law_1.2.2.2.2.2.2.2.2.2.2.2.2.2.1
theorem e_L_law_100 : decode cL_law 100 = .ok (.iconst 4, 1) := D_L_law_1.2.2.2.2.2.2.2.2.2.2.2.2.2.2.1
theorem e_L_law_101 : decode cL_law 101 = .ok (.goto 20, 3) := D_L_law_1.2.2.2.2.2.2.2.2.2.2.2.2.2.2.2.1
theorem e_L_law_104 : decode cL_law 104 = .ok (.iload_n 3, 1) := D_L_law_1.2.2.2.2.2.2.2.2.2.2.2.2.2.2.2.2.1
theorem e_L_law_105 : decode cL_law 105 = .ok (.bipush 6, 2) := D_L_law_1.2.2.2.2.2.2.2.2.2.2.2.2.2.2.2.2.2.1
theorem e_L_law_107 : decode cL_law 107 = .ok (.if_icmp .ge 7, 3) := D_L_law_1.2.2.2.2.2.2.2.2.2.2.2.2.2.2.2.2.2.2.1
theorem e_L_law_110 : decode cL_law 110 = .ok (.iconst 0, 1) := D_L_law_1.2.2.2.2.2.2.2.2.2.2.2.2.2.2.2.2.2.2.2.1
theorem e_L_law_111 : decode cL_law 111 = .ok (.goto 10, 3) := D_L_law_1.2.2.2.2.2.2.2.2.2.2.2.2.2.2.2.2.2.2.2.2.1
theorem e_L_law_114 : decode cL_law 114 = .ok (.iload 4, 2) := D_L_law_1.2.2.2.2.2.2.2.2.2.2.2.2.2.2.2.2.2.2.2.2.2.1
theorem e_L_law_116 : decode cL_law 116 = .ok (.bipush 20, 2) := D_L_law_1.2.2.2.2.2.2.2.2.2.2.2.2.2.2.2.2.2.2.2.2.2.2.1
theorem e_L_law_118 : decode cL_law 118 = .ok (.invokestatic 99, 3) := D_L_law_1.2.2.2.2.2.2.2.2.2.2.2.2.2.2.2.2.2.2.2.2.2.2.2.1
theorem e_L_law_121 : decode cL_law 121 = .ok (.istore 9, 2) := D_L_law_1.2.2.2.2.2.2.2.2.2.2.2.2.2.2.2.2.2.2.2.2.2.2.2.2.1
theorem e_L_law_123 : decode cL_law 123 = .ok (.aload_n 1, 1) := D_L_law_1.2.2.2.2.2.2.2.2.2.2.2.2.2.2.2.2.2.2.2.2.2.2.2.2.2.1
theorem e_L_law_124 : decode cL_law 124 = .ok (.bipush 20, 2) := D_L_law_1.2.2.2.2.2.2.2.2.2.2.2.2.2.2.2.2.2.2.2.2.2.2.2.2.2.2.1
theorem e_L_law_126 : decode cL_law 126 = .ok (.iload 4, 2) := D_L_law_1.2.2.2.2.2.2.2.2.2.2.2.2.2.2.2.2.2.2.2.2.2.2.2.2.2.2.2.1
theorem e_L_law_128 : decode cL_law 128 = .ok (.iconst 4, 1) := D_L_law_1.2.2.2.2.2.2.2.2.2.2.2.2.2.2.2.2.2.2.2.2.2.2.2.2.2.2.2.2.1
theorem e_L_law_129 : decode cL_law 129 = .ok (.ishr, 1) := D_L_law_1.2.2.2.2.2.2.2.2.2.2.2.2.2.2.2.2.2.2.2.2.2.2.2.2.2.2.2.2.2.1
theorem e_L_law_130 : decode cL_law 130 = .ok (.ldc 114, 2) := D_L_law_1.2.2.2.2.2.2.2.2.2.2.2.2.2.2.2.2.2.2.2.2.2.2.2.2.2.2.2.2.2.2.1
theorem e_L_law_132 : decode cL_law 132 = .ok (.invokestatic 99, 3) := D_L_law_1.2.2.2.2.2.2.2.2.2.2.2.2.2.2.2.2.2.2.2.2.2.2.2.2.2.2.2.2.2.2.2.1
theorem e_L_law_135 : decode cL_law 135 = .ok (.imul, 1) := D_L_law_1.2.2.2.2.2.2.2.2.2.2.2.2.2.2.2.2.2.2.2.2.2.2.2.2.2.2.2.2.2.2.2.2.1
theorem e_L_law_136 : decode cL_law 136 = .ok (.iload 9, 2) := D_L_law_1.2.2.2.2.2.2.2.2.2.2.2.2.2.2.2.2.2.2.2.2.2.2.2.2.2.2.2.2.2.2.2.2.2.1
theorem e_L_law_138 : decode cL_law 138 = .ok (.iadd, 1) := D_L_law_1.2.2.2.2.2.2.2.2.2.2.2.2.2.2.2.2.2.2.2.2.2.2.2.2.2.2.2.2.2.2.2.2.2.2.1
theorem e_L_law_139 : decode cL_law 139 = .ok (.iload 5, 2) := D_L_law_1.2.2.2.2.2.2.2.2.2.2.2.2.2.2.2.2.2.2.2.2.2.2.2.2.2.2.2.2.2.2.2.2.2.2.2.1
theorem e_L_law_141 : decode cL_law 141 = .ok (.invokestatic 115, 3) := D_L_law_1.2.2.2.2.2.2.2.2.2.2.2.2.2.2.2.2.2.2.2.2.2.2.2.2.2.2.2.2.2.2.2.2.2.2.2.2.1
theorem e_L_law_144 : decode cL_law 144 = .ok (.istore 10, 2) := D_L_law_1.2.2.2.2.2.2.2.2.2.2.2.2.2.2.2.2.2.2.2.2.2.2.2.2.2.2.2.2.2.2.2.2.2.2.2.2.2.1
theorem e_L_law_146 : decode cL_law 146 = .ok (.iload 10, 2) := D_L_law_1.2.2.2.2.2.2.2.2.2.2.2.2.2.2.2.2.2.2.2.2.2.2.2.2.2.2.2.2.2.2.2.2.2.2.2.2.2.2.1
theorem e_L_law_148 : decode cL_law 148 = .ok (.bipush (-4), 2) := D_L_law_1.2.2.2.2.2.2.2.2.2.2.2.2.2.2.2.2.2.2.2.2.2.2.2.2.2.2.2.2.2.2.2.2.2.2.2.2.2.2.2.1
set_option maxRecDepth 100000 in
theorem D_L_law_2 : decode cL_law 150 = .ok (.if_icmp .lt 59, 3) ∧ decode cL_law 153 = .ok (.iload 10, 2) ∧ decode cL_law 155 = .ok (.ifCond .lt 29, 3) ∧ decode cL_law 158 = .ok (.aload_n 1, 1) ∧ decode cL_law 159 = .ok (.bipush 15, 2) ∧ decode cL_law 161 = .ok (.invokevirtual 13, 3) ∧ decode cL_law 164 = .ok (.iload 8, 2) ∧ decode cL_law 166 = .ok (.iconst 4, 1) ∧ decode cL_law 167 = .ok (.if_icmp .ne 7, 3) ∧ decode cL_law 170 = .ok (.iconst 4, 1) ∧ decode cL_law 171 = .ok (.goto 7, 3) ∧ decode cL_law 174 = .ok (.iload 8, 2) ∧ decode cL_law 176 = .ok (.iconst 1, 1) ∧ decode cL_law 177 = .ok (.iadd, 1) ∧ decode cL_law 178 = .ok (.if_icmp .ne 31, 3) ∧ decode cL_law 181 = .ok (.goto 24, 3) ∧ decode cL_law 184 = .ok (.aload_n 1, 1) ∧ decode cL_law 185 = .ok (.bipush 15, 2) ∧ decode cL_law 187 = .ok (.invokevirtual 13, 3) ∧ decode cL_law 190 = .ok (.iload 8, 2) ∧ decode cL_law 192 = .ok (.if_icmp .ne 17, 3) ∧ decode cL_law 195 = .ok (.aload_n 1, 1) ∧ decode cL_law 196 = .ok (.invokestatic 42, 3) ∧ decode cL_law 199 = .ok (.lload 6, 2) ∧ decode cL_law 201 = .ok (.lcmp, 1) ∧ decode cL_law 202 = .ok (.ifCond .ne 7, 3) ∧ decode cL_law 205 = .ok (.iconst 1, 1) ∧ decode cL_law 206 = .ok (.goto 4, 3) ∧ decode cL_law 209 = .ok (.iconst 0, 1) ∧ decode cL_law 210 = .ok (.istore_n 2, 1) ∧ decode cL_law 211 = .ok (.iload_n 2, 1) ∧ decode cL_law 212 = .ok (.ifCond .eq 53, 3) ∧ decode cL_law 215 = .ok (.iload 10, 2) ∧ decode cL_law 217 = .ok (.ifCond .lt 48, 3) ∧ decode cL_law 220 = .ok (.iload 4, 2) ∧ decode cL_law 222 = .ok (.bipush 25, 2) ∧ decode cL_law 224 = .ok (.ishr, 1) ∧ decode cL_law 225 = .ok (.iconst 3, 1) ∧ decode cL_law 226 = .ok (.iand, 1) ∧ decode cL_law 227 = .ok (.ifCond .ne 38, 3) ∧ True := dq_of (l := (150, .if_icmp .lt 59, 3) :: (153, .iload 10, 2) :: (155, .ifCond .lt 29, 3) :: (158, .aload_n 1, 1) :: (159, .bipush 15, 2) :: (161, .invokevirtual 13, 3) :: (164, .iload 8, 2) :: (166, .iconst 4, 1) :: (167, .if_icmp .ne 7, 3) :: (170, .iconst 4, 1) :: (171, .goto 7, 3) :: (174, .iload 8, 2) :: (176, .iconst 1, 1) :: (177, .iadd, 1) :: (178, .if_icmp .ne 31, 3) :: (181, .goto 24, 3) :: (184, .aload_n 1, 1) :: (185, .bipush 15, 2) :: (187, .invokevirtual 13, 3) :: (190, .iload 8, 2) :: (192, .if_icmp .ne 17, 3) :: (195, .aload_n 1, 1) :: (196, .invokestatic 42, 3) :: (199, .lload 6, 2) :: (201, .lcmp, 1) :: (202, .ifCond .ne 7, 3) :: (205, .iconst 1, 1) :: (206, .goto 4, 3) :: (209, .iconst 0, 1) :: (210, .istore_n 2, 1) :: (211, .iload_n 2, 1) :: (212, .ifCond .eq 53, 3) :: (215, .iload 10, 2) :: (217, .ifCond .lt 48, 3) :: (220, .iload 4, 2) :: (222, .bipush 25, 2) :: (224, .ishr, 1) :: (225, .iconst 3, 1) :: (226, .iand, 1) :: (227, .ifCond .ne 38, 3) :: []) (by decide +kernel)
theorem e_L_law_150 : decode cL_law 150 = .ok (.if_icmp .lt 59, 3) := D_L_law_2.1
theorem e_L_law_153 : decode cL_law 153 = .ok (.iload 10, 2) := D_L_law_2.2.1
theorem e_L_law_155 : decode cL_law 155 = .ok (.ifCond .lt 29, 3) := D_L_law_2.2.2.1
theorem e_L_law_158 : decode cL_law 158 = .ok (.aload_n 1, 1) := D_L_law_2.2.2.2.1
theorem e_L_law_159 : decode cL_law 159 = .ok (.bipush 15, 2) := D_L_law_2.2.2.2.2.1
theorem e_L_law_161 : decode cL_law 161 = .ok (.invokevirtual 13, 3) := D_L_law_2.2.2.2.2.2.1
theorem e_L_law_164 : decode cL_law 164 = .ok (.iload 8, 2) := D_L_law_2.2.2.2.2.2.2.1
theorem e_L_law_166 : decode cL_law 166 = .ok (.iconst 4, 1) := D_L_law_2.2.2.2.2.2.2.2.1
theorem e_L_law_167 : decode cL_law 167 = .ok (.if_icmp .ne 7, 3) := D_L_law_2.2.2.2.2.2.2.2.2.1
theorem e_L_law_170 : decode cL_law 170 = .ok (.iconst 4, 1) := D_L_law_2.2.2.2.2.2.2.2.2.2.1
theorem e_L_law_171 : decode cL_law 171 = .ok (.goto 7, 3) := D_L_law_2.2.2.2.2.2.2.2.2.2.2.1
theorem e_L_law_174 : decode cL_law 174 = .ok (.iload 8, 2) := D_L_law_2.2.2.2.2.2.2.2.2.2.2.2.1
theorem e_L_law_176 : decode cL_law 176 = .ok (.iconst 1, 1) := D_L_law_2.2.2.2.2.2.2.2.2.2.2.2.2.1
theorem e_L_law_177 : decode cL_law 177 = .ok (.iadd, 1) := D_L_law_2.2.2.2.2.2.2.2.2.2.2.2.2.2.1
theorem e_L_law_178 : decode cL_law 178 = .ok (.if_icmp .ne 31, 3) := D_L_law_2.2.2.2.2.2.2.2.2.2.2.2.2.2.2.1
theorem e_L_law_181 : decode cL_law 181 = .ok (.goto 24, 3) := D_L_law_2.2.2.2.2.2.2.2.2.2.2.2.2.2.2.2.1
theorem e_L_law_184 : decode cL_law 184 = .ok (.aload_n 1, 1) := D_L_law_2.2.2.2.2.2.2.2.2.2.2.2.2.2.2.2.2.1
theorem e_L_law_185 : decode cL_law 185 = .ok (.bipush 15, 2) := D_L_law_2.2.2.2.2.2.2.2.2.2.2.2.2.2.2.2.2.2.1
theorem e_L_law_187 : decode cL_law 187 = .ok (.invokevirtual 13, 3) := D_L_law_2.2.2.2.2.2.2.2.2.2.2.2.2.2.2.2.2.2.2.1
theorem e_L_law_190 : decode cL_law 190 = .ok (.iload 8, 2) := D_L_law_2.2.2.2.2.2.2.2.2.2.2.2.2.2.2.2.2.2.2.2.1
theorem e_L_law_192 : decode cL_law 192 = .ok (.if_icmp .ne 17, 3) := D_L_law_2.2.2.2.2.2.2.2.2.2.2.2.2.2.2.2.2.2.2.2.2.1
theorem e_L_law_195 : decode cL_law 195 = .ok (.aload_n 1, 1) := D_L_law_2.2.2.2.2.2.2.2.2.2.2.2.2.2.2.2.2.2.2.2.2.2.1
theorem e_L_law_196 : decode cL_law 196 = .ok (.invokestatic 42, 3) := D_L_law_2.2.2.2.2.2.2.2.2.2.2.2.2.2.2.2.2.2.2.2.2.2.2.1
theorem e_L_law_199 : decode cL_law 199 = .ok (.lload 6, 2) := D_L_law_2.2.2.2.2.2.2.2.2.2.2.2.2.2.2.2.2.2.2.2.2.2.2.2.1
theorem e_L_law_201 : decode cL_law 201 = .ok (.lcmp, 1) := D_L_law_2.2.2.2.2.2.2.2.2.2.2.2.2.2.2.2.2.2.2.2.2.2.2.2.2.1
theorem e_L_law_202 : decode cL_law 202 = .ok (.ifCond .ne 7, 3) := D_L_law_2.2.2.2.2.2.2.2.2.2.2.2.2.2.2.2.2.2.2.2.2.2.2.2.2.2.1
theorem e_L_law_205 : decode cL_law 205 = .ok (.iconst 1, 1) := D_L_law_2.2.2.2.2.2.2.2.2.2.2.2.2.2.2.2.2.2.2.2.2.2.2.2.2.2.2.1
theorem e_L_law_206 : decode cL_law 206 = .ok (.goto 4, 3) := D_L_law_2.2.2.2.2.2.2.2.2.2.2.2.2.2.2.2.2.2.2.2.2.2.2.2.2.2.2.2.1
theorem e_L_law_209 : decode cL_law 209 = .ok (.iconst 0, 1) := D_L_law_2.2.2.2.2.2.2.2.2.2.2.2.2.2.2.2.2.2.2.2.2.2.2.2.2.2.2.2.2.1
theorem e_L_law_210 : decode cL_law 210 = .ok (.istore_n 2, 1) := D_L_law_2.2.2.2.2.2.2.2.2.2.2.2.2.2.2.2.2.2.2.2.2.2.2.2.2.2.2.2.2.2.1
theorem e_L_law_211 : decode cL_law 211 = .ok (.iload_n 2, 1) := D_L_law_2.2.2.2.2.2.2.2.2.2.2.2.2.2.2.2.2.2.2.2.2.2.2.2.2.2.2.2.2.2.2.1
theorem e_L_law_212 : decode cL_law 212 = .ok (.ifCond .eq 53, 3) := D_L_law_2.2.2.2.2.2.2.2.2.2.2.2.2.2.2.2.2.2.2.2.2.2.2.2.2.2.2.2.2.2.2.2.1
theorem e_L_law_215 : decode cL_law 215 = .ok (.iload 10, 2) := D_L_law_2.2.2.2.2.2.2.2.2.2.2.2.2.2.2.2.2.2.2.2.2.2.2.2.2.2.2.2.2.2.2.2.2.1
theorem e_L_law_217 : decode cL_law 217 = .ok (.ifCond .lt 48, 3) := D_L_law_2.2.2.2.2.2.2.2.2.2.2.2.2.2.2.2.2.2.2.2.2.2.2.2.2.2.2.2.2.2.2.2.2.2.1
theorem e_L_law_220 : decode cL_law 220 = .ok (.iload 4, 2) := D_L_law_2.2.2.2.2.2.2.2.2.2.2.2.2.2.2.2.2.2.2.2.2.2.2.2.2.2.2.2.2.2.2.2.2.2.2.1
theorem e_L_law_222 : decode cL_law 222 = .ok (.bipush 25, 2) := D_L_law_2.2.2.2.2.2.2.2.2.2.2.2.2.2.2.2.2.2.2.2.2.2.2.2.2.2.2.2.2.2.2.2.2.2.2.2.1
theorem e_L_law_224 : decode cL_law 224 = .ok (.ishr, 1) := D_L_law_2.2.2.2.2.2.2.2.2.2.2.2.2.2.2.2.2.2.2.2.2.2.2.2.2.2.2.2.2.2.2.2.2.2.2.2.2.1
theorem e_L_law_225 : decode cL_law 225 = .ok (.iconst 3, 1) := D_L_law_2.2.2.2.2.2.2.2.2.2.2.2.2.2.2.2.2.2.2.2.2.2.2.2.2.2.2.2.2.2.2.2.2.2.2.2.2.2.1
theorem e_L_law_226 : decode cL_law 226 = .ok (.iand, 1) := D_L_law_2.2.2.2.2.2.2.2.2.2.2.2.2.2.2.2.2.2.2.2.2.2.2.2.2.2.2.2.2.2.2.2.2.2.2.2.2.2.2.1
theorem e_L_law_227 : decode cL_law 227 = .ok (.ifCond .ne 38, 3) := D_L_law_2.2.2.2.2.2.2.2.2.2.2.2.2.2.2.2.2.2.2.2.2.2.2.2.2.2.2.2.2.2.2.2.2.2.2.2.2.2.2.2.1
set_option maxRecDepth 100000 in
theorem D_L_law_3 : decode cL_law 230 = .ok (.aload_n 1, 1) ∧ decode cL_law 231 = .ok (.invokevirtual 89, 3) ∧ decode cL_law 234 = .ok (.iload 8, 2) ∧ decode cL_law 236 = .ok (.iconst 4, 1) ∧ decode cL_law 237 = .ok (.if_icmp .ne 7, 3) ∧ decode cL_law 240 = .ok (.iconst 3, 1) ∧ decode cL_law 241 = .ok (.goto 5, 3) ∧ decode cL_law 244 = .ok (.iload 8, 2) ∧ decode cL_law 246 = .ok (.if_icmp .ne 17, 3) ∧ decode cL_law 249 = .ok (.aload_n 1, 1) ∧ decode cL_law 250 = .ok (.invokestatic 42, 3) ∧ decode cL_law 253 = .ok (.lload 6, 2) ∧ decode cL_law 255 = .ok (.lcmp, 1) ∧ decode cL_law 256 = .ok (.ifCond .ne 7, 3) ∧ decode cL_law 259 = .ok (.iconst 1, 1) ∧ decode cL_law 260 = .ok (.goto 4, 3) ∧ decode cL_law 263 = .ok (.iconst 0, 1) ∧ decode cL_law 264 = .ok (.istore_n 2, 1) ∧ decode cL_law 265 = .ok (.iload_n 2, 1) ∧ decode cL_law 266 = .ok (.ifCond .eq 117, 3) ∧ decode cL_law 269 = .ok (.aload_n 1, 1) ∧ decode cL_law 270 = .ok (.invokestatic 92, 3) ∧ decode cL_law 273 = .ok (.ifCond .eq 110, 3) ∧ decode cL_law 276 = .ok (.aload_n 1, 1) ∧ decode cL_law 277 = .ok (.invokestatic 96, 3) ∧ decode cL_law 280 = .ok (.ifCond .eq 103, 3) ∧ decode cL_law 283 = .ok (.iload_n 3, 1) ∧ decode cL_law 284 = .ok (.iconst 5, 1) ∧ decode cL_law 285 = .ok (.irem, 1) ∧ decode cL_law 286 = .ok (.iconst 3, 1) ∧ decode cL_law 287 = .ok (.if_icmp .ne 20, 3) ∧ decode cL_law 290 = .ok (.aload_n 1, 1) ∧ decode cL_law 291 = .ok (.iload 5, 2) ∧ decode cL_law 293 = .ok (.iconst 4, 1) ∧ decode cL_law 294 = .ok (.irem, 1) ∧ decode cL_law 295 = .ok (.iload 5, 2) ∧ decode cL_law 297 = .ok (.iconst 4, 1) ∧ decode cL_law 298 = .ok (.idiv, 1) ∧ decode cL_law 299 = .ok (.iconst 4, 1) ∧ decode cL_law 300 = .ok (.irem, 1) ∧ True := dq_of (l := (230, .aload_n 1, 1) :: (231, .invokevirtual 89, 3) :: (234, .iload 8, 2) :: (236, .iconst 4, 1) :: (237, .if_icmp .ne 7, 3) :: (240, .iconst 3, 1) :: (241, .goto 5, 3) :: (244, .iload 8, 2) :: (246, .if_icmp .ne 17, 3) :: (249, .aload_n 1, 1) :: (250, .invokestatic 42, 3) :: (253, .lload 6, 2) :: (255, .lcmp, 1) :: (256, .ifCond .ne 7, 3) :: (259, .iconst 1, 1) :: (260, .goto 4, 3) :: (263, .iconst 0, 1) :: (264, .istore_n 2, 1) :: (265, .iload_n 2, 1) :: (266, .ifCond .eq 117, 3) :: (269, .aload_n 1, 1) :: (270, .invokestatic 92, 3) :: (273, .ifCond .eq 110, 3) :: (276, .aload_n 1, 1) :: (277, .invokestatic 96, 3) :: (280, .ifCond .eq 103, 3) :: (283, .iload_n 3, 1) :: (284, .iconst 5, 1) :: (285, .irem, 1) :: (286, .iconst 3, 1) :: (287, .if_icmp .ne 20, 3) :: (290, .aload_n 1, 1) :: (291, .iload 5, 2) :: (293, .iconst 4, 1) :: (294, .irem, 1) :: (295, .iload 5, 2) :: (297, .iconst 4, 1) :: (298, .idiv, 1) :: (299, .iconst 4, 1) :: (300, .irem, 1) :: []) (by decide +kernel)
theorem e_L_law_230 : decode cL_law 230 = .ok (.aload_n 1, 1) := D_L_law_3.1
theorem e_L_law_231 : decode cL_law 231 = .ok (.invokevirtual 89, 3) := D_L_law_3.2.1
theorem e_L_law_234 : decode cL_law 234 = .ok (.iload 8, 2) := D_L_law_3.2.2.1
theorem e_L_law_236 : decode cL_law 236 = .ok (.iconst 4, 1) := D_L_law_3.2.2.2.1
theorem e_L_law_237 : decode cL_law 237 = .ok (.if_icmp .ne 7, 3) := D_L_law_3.2.2.2.2.1
theorem e_L_law_240 : decode cL_law 240 = .ok (.iconst 3, 1) := D_L_law_3.2.2.2.2.2.1
theorem e_L_law_241 : decode cL_law 241 = .ok (.goto 5, 3) := D_L_law_3.2.2.2.2.2.2.1
theorem e_L_law_244 : decode cL_law 244 = .ok (.iload 8, 2) := D_L_law_3.2.2.2.2.2.2.2.1
theorem e_L_law_246 : decode cL_law 246 = .ok (.if_icmp .ne 17, 3) := D_L_law_3.2.2.2.2.2.2.2.2.1
theorem e_L_law_249 : decode cL_law 249 = .ok (.aload_n 1, 1) := D_L_law_3.2.2.2.2.2.2.2.2.2.1
theorem e_L_law_250 : decode cL_law 250 = .ok (.invokestatic 42, 3) := D_L_law_3.2.2.2.2.2.2.2.2.2.2.1
theorem e_L_law_253 : decode cL_law 253 = .ok (.lload 6, 2) := D_L_law_3.2.2.2.2.2.2.2.2.2.2.2.1
theorem e_L_law_255 : decode cL_law 255 = .ok (.lcmp, 1) := D_L_law_3.2.2.2.2.2.2.2.2.2.2.2.2.1
theorem e_L_law_256 : decode cL_law 256 = .ok (.ifCond .ne 7, 3) := D_L_law_3.2.2.2.2.2.2.2.2.2.2.2.2.2.1
theorem e_L_law_259 : decode cL_law 259 = .ok (.iconst 1, 1) := D_L_law_3.2.2.2.2.2.2.2.2.2.2.2.2.2.2.1
theorem e_L_law_260 : decode cL_law 260 = .ok (.goto 4, 3) := D_L_law_3.2.2.2.2.2.2.2.2.2.2.2.2.2.2.2.1
theorem e_L_law_263 : decode cL_law 263 = .ok (.iconst 0, 1) := D_L_law_3.2.2.2.2.2.2.2.2.2.2.2.2.2.2.2.2.1
theorem e_L_law_264 : decode cL_law 264 = .ok (.istore_n 2, 1) := D_L_law_3.2.2.2.2.2.2.2.2.2.2.2.2.2.2.2.2.2.1
theorem e_L_law_265 : decode cL_law 265 = .ok (.iload_n 2, 1) := D_L_law_3.2.2.2.2.2.2.2.2.2.2.2.2.2.2.2.2.2.2.1
theorem e_L_law_266 : decode cL_law 266 = .ok (.ifCond .eq 117, 3) := D_L_law_3.2.2.2.2.2.2.2.2.2.2.2.2.2.2.2.2.2.2.2.1
theorem e_L_law_269 : decode cL_law 269 = .ok (.aload_n 1, 1) := D_L_law_3.2.2.2.2.2.2.2.2.2.2.2.2.2.2.2.2.2.2.2.2.1
theorem e_L_law_270 : decode cL_law 270 = .ok (.invokestatic 92, 3) := D_L_law_3.2.2.2.2.2.2.2.2.2.2.2.2.2.2.2.2.2.2.2.2.2.1
theorem e_L_law_273 : decode cL_law 273 = .ok (.ifCond .eq 110, 3) := D_L_law_3.2.2.2.2.2.2.2.2.2.2.2.2.2.2.2.2.2.2.2.2.2.2.1
theorem e_L_law_276 : decode cL_law 276 = .ok (.aload_n 1, 1) := D_L_law_3.2.2.2.2.2.2.2.2.2.2.2.2.2.2.2.2.2.2.2.2.2.2.2.1
theorem e_L_law_277 : decode cL_law 277 = .ok (.invokestatic 96, 3) := D_L_law_3.2.2.2.2.2.2.2.2.2.2.2.2.2.2.2.2.2.2.2.2.2.2.2.2.1
theorem e_L_law_280 : decode cL_law 280 = .ok (.ifCond .eq 103, 3) := D_L_law_3.2.2.2.2.2.2.2.2.2.2.2.2.2.2.2.2.2.2.2.2.2.2.2.2.2.1
theorem e_L_law_283 : decode cL_law 283 = .ok (.iload_n 3, 1) := D_L_law_3.2.2.2.2.2.2.2.2.2.2.2.2.2.2.2.2.2.2.2.2.2.2.2.2.2.2.1
theorem e_L_law_284 : decode cL_law 284 = .ok (.iconst 5, 1) := D_L_law_3.2.2.2.2.2.2.2.2.2.2.2.2.2.2.2.2.2.2.2.2.2.2.2.2.2.2.2.1
theorem e_L_law_285 : decode cL_law 285 = .ok (.irem, 1) := D_L_law_3.2.2.2.2.2.2.2.2.2.2.2.2.2.2.2.2.2.2.2.2.2.2.2.2.2.2.2.2.1
theorem e_L_law_286 : decode cL_law 286 = .ok (.iconst 3, 1) := D_L_law_3.2.2.2.2.2.2.2.2.2.2.2.2.2.2.2.2.2.2.2.2.2.2.2.2.2.2.2.2.2.1
theorem e_L_law_287 : decode cL_law 287 = .ok (.if_icmp .ne 20, 3) := D_L_law_3.2.2.2.2.2.2.2.2.2.2.2.2.2.2.2.2.2.2.2.2.2.2.2.2.2.2.2.2.2.2.1
theorem e_L_law_290 : decode cL_law 290 = .ok (.aload_n 1, 1) := D_L_law_3.2.2.2.2.2.2.2.2.2.2.2.2.2.2.2.2.2.2.2.2.2.2.2.2.2.2.2.2.2.2.2.1
theorem e_L_law_291 : decode cL_law 291 = .ok (.iload 5, 2) := D_L_law_3.2.2.2.2.2.2.2.2.2.2.2.2.2.2.2.2.2.2.2.2.2.2.2.2.2.2.2.2.2.2.2.2.1
theorem e_L_law_293 : decode cL_law 293 = .ok (.iconst 4, 1) := D_L_law_3.2.2.2.2.2.2.2.2.2.2.2.2.2.2.2.2.2.2.2.2.2.2.2.2.2.2.2.2.2.2.2.2.2.1
theorem e_L_law_294 : decode cL_law 294 = .ok (.irem, 1) := D_L_law_3.2.2.2.2.2.2.2.2.2.2.2.2.2.2.2.2.2.2.2.2.2.2.2.2.2.2.2.2.2.2.2.2.2.2.1
theorem e_L_law_295 : decode cL_law 295 = .ok (.iload 5, 2) := D_L_law_3.2.2.2.2.2.2.2.2.2.2.2.2.2.2.2.2.2.2.2.2.2.2.2.2.2.2.2.2.2.2.2.2.2.2.2.1
theorem e_L_law_297 : decode cL_law 297 = .ok (.iconst 4, 1) := D_L_law_3.2.2.2.2.2.2.2.2.2.2.2.2.2.2.2.2.2.2.2.2.2.2.2.2.2.2.2.2.2.2.2.2.2.2.2.2.1
theorem e_L_law_298 : decode cL_law 298 = .ok (.idiv, 1) := D_L_law_3.2.2.2.2.2.2.2.2.2.2.2.2.2.2.2.2.2.2.2.2.2.2.2.2.2.2.2.2.2.2.2.2.2.2.2.2.2.1
theorem e_L_law_299 : decode cL_law 299 = .ok (.iconst 4, 1) := D_L_law_3.2.2.2.2.2.2.2.2.2.2.2.2.2.2.2.2.2.2.2.2.2.2.2.2.2.2.2.2.2.2.2.2.2.2.2.2.2.2.1
theorem e_L_law_300 : decode cL_law 300 = .ok (.irem, 1) := D_L_law_3.2.2.2.2.2.2.2.2.2.2.2.2.2.2.2.2.2.2.2.2.2.2.2.2.2.2.2.2.2.2.2.2.2.2.2.2.2.2.2.1
set_option maxRecDepth 100000 in
theorem D_L_law_4 : decode cL_law 301 = .ok (.invokestatic 119, 3) ∧ decode cL_law 304 = .ok (.ifCond .eq 79, 3) ∧ decode cL_law 307 = .ok (.iload_n 3, 1) ∧ decode cL_law 308 = .ok (.iconst 4, 1) ∧ decode cL_law 309 = .ok (.irem, 1) ∧ decode cL_law 310 = .ok (.iconst 2, 1) ∧ decode cL_law 311 = .ok (.if_icmp .ne 17, 3) ∧ decode cL_law 314 = .ok (.aload_n 1, 1) ∧ decode cL_law 315 = .ok (.iconst 1, 1) ∧ decode cL_law 316 = .ok (.iload 5, 2) ∧ decode cL_law 318 = .ok (.bipush 60, 2) ∧ decode cL_law 320 = .ok (.irem, 1) ∧ decode cL_law 321 = .ok (.iadd, 1) ∧ decode cL_law 322 = .ok (.invokestatic 123, 3) ∧ decode cL_law 325 = .ok (.ifCond .eq 58, 3) ∧ decode cL_law 328 = .ok (.iload_n 3, 1) ∧ decode cL_law 329 = .ok (.bipush 7, 2) ∧ decode cL_law 331 = .ok (.irem, 1) ∧ decode cL_law 332 = .ok (.iconst 5, 1) ∧ decode cL_law 333 = .ok (.if_icmp .ne 30, 3) ∧ decode cL_law 336 = .ok (.aload_n 1, 1) ∧ decode cL_law 337 = .ok (.iconst 0, 1) ∧ decode cL_law 338 = .ok (.invokevirtual 13, 3) ∧ decode cL_law 341 = .ok (.ifCond .eq 22, 3) ∧ decode cL_law 344 = .ok (.aload_n 1, 1) ∧ decode cL_law 345 = .ok (.aload_n 1, 1) ∧ decode cL_law 346 = .ok (.iload 5, 2) ∧ decode cL_law 348 = .ok (.aload_n 1, 1) ∧ decode cL_law 349 = .ok (.iconst 0, 1) ∧ decode cL_law 350 = .ok (.invokevirtual 13, 3) ∧ decode cL_law 353 = .ok (.irem, 1) ∧ decode cL_law 354 = .ok (.invokevirtual 22, 3) ∧ decode cL_law 357 = .ok (.invokestatic 127, 3) ∧ decode cL_law 360 = .ok (.ifCond .eq 23, 3) ∧ decode cL_law 363 = .ok (.iload_n 3, 1) ∧ decode cL_law 364 = .ok (.bipush 11, 2) ∧ decode cL_law 366 = .ok (.irem, 1) ∧ decode cL_law 367 = .ok (.bipush 7, 2) ∧ decode cL_law 369 = .ok (.if_icmp .ne 10, 3) ∧ decode cL_law 372 = .ok (.aload_n 1, 1) ∧ True := dq_of (l := (301, .invokestatic 119, 3) :: (304, .ifCond .eq 79, 3) :: (307, .iload_n 3, 1) :: (308, .iconst 4, 1) :: (309, .irem, 1) :: (310, .iconst 2, 1) :: (311, .if_icmp .ne 17, 3) :: (314, .aload_n 1, 1) :: (315, .iconst 1, 1) :: (316, .iload 5, 2) :: (318, .bipush 60, 2) :: (320, .irem, 1) :: (321, .iadd, 1) :: (322, .invokestatic 123, 3) :: (325, .ifCond .eq 58, 3) :: (328, .iload_n 3, 1) :: (329, .bipush 7, 2) :: (331, .irem, 1) :: (332, .iconst 5, 1) :: (333, .if_icmp .ne 30, 3) :: (336, .aload_n 1, 1) :: (337, .iconst 0, 1) :: (338, .invokevirtual 13, 3) :: (341, .ifCond .eq 22, 3) :: (344, .aload_n 1, 1) :: (345, .aload_n 1, 1) :: (346, .iload 5, 2) :: (348, .aload_n 1, 1) :: (349, .iconst 0, 1) :: (350, .invokevirtual 13, 3) :: (353, .irem, 1) :: (354, .invokevirtual 22, 3) :: (357, .invokestatic 127, 3) :: (360, .ifCond .eq 23, 3) :: (363, .iload_n 3, 1) :: (364, .bipush 11, 2) :: (366, .irem, 1) :: (367, .bipush 7, 2) :: (369, .if_icmp .ne 10, 3) :: (372, .aload_n 1, 1) :: []) (by decide +kernel)
theorem e_L_law_301 : decode cL_law 301 = .ok (.invokestatic 119, 3) := D_L_law_4.1
theorem e_L_law_304 : decode cL_law 304 = .ok (.ifCond .eq 79, 3) := D_L_law_4.2.1
theorem e_L_law_307 : decode cL_law 307 = .ok (.iload_n 3, 1) := D_L_law_4.2.2.1
theorem e_L_law_308 : decode cL_law 308 = .ok (.iconst 4, 1) := D_L_law_4.2.2.2.1
theorem e_L_law_309 : decode cL_law 309 = .ok (.irem, 1) := D_L_law_4.2.2.2.2.1
theorem e_L_law_310 : decode cL_law 310 = .ok (.iconst 2, 1) := D_L_law_4.2.2.2.2.2.1
theorem e_L_law_311 : decode cL_law 311 = .ok (.if_icmp .ne 17, 3) := D_L_law_4.2.2.2.2.2.2.1
theorem e_L_law_314 : decode cL_law 314 = .ok (.aload_n 1, 1) := D_L_law_4.2.2.2.2.2.2.2.1
theorem e_L_law_315 : decode cL_law 315 = .ok (.iconst 1, 1) := D_L_law_4.2.2.2.2.2.2.2.2.1
theorem e_L_law_316 : decode cL_law 316 = .ok (.iload 5, 2) := D_L_law_4.2.2.2.2.2.2.2.2.2.1
theorem e_L_law_318 : decode cL_law 318 = .ok (.bipush 60, 2) := D_L_law_4.2.2.2.2.2.2.2.2.2.2.1
theorem e_L_law_320 : decode cL_law 320 = .ok (.irem, 1) := D_L_law_4.2.2.2.2.2.2.2.2.2.2.2.1
theorem e_L_law_321 : decode cL_law 321 = .ok (.iadd, 1) := D_L_law_4.2.2.2.2.2.2.2.2.2.2.2.2.1
theorem e_L_law_322 : decode cL_law 322 = .ok (.invokestatic 123, 3) := D_L_law_4.2.2.2.2.2.2.2.2.2.2.2.2.2.1
theorem e_L_law_325 : decode cL_law 325 = .ok (.ifCond .eq 58, 3) := D_L_law_4.2.2.2.2.2.2.2.2.2.2.2.2.2.2.1
theorem e_L_law_328 : decode cL_law 328 = .ok (.iload_n 3, 1) := D_L_law_4.2.2.2.2.2.2.2.2.2.2.2.2.2.2.2.1
theorem e_L_law_329 : decode cL_law 329 = .ok (.bipush 7, 2) := D_L_law_4.2.2.2.2.2.2.2.2.2.2.2.2.2.2.2.2.1
theorem e_L_law_331 : decode cL_law 331 = .ok (.irem, 1) := D_L_law_4.2.2.2.2.2.2.2.2.2.2.2.2.2.2.2.2.2.1
theorem e_L_law_332 : decode cL_law 332 = .ok (.iconst 5, 1) := D_L_law_4.2.2.2.2.2.2.2.2.2.2.2.2.2.2.2.2.2.2.1
theorem e_L_law_333 : decode cL_law 333 = .ok (.if_icmp .ne 30, 3) := D_L_law_4.2.2.2.2.2.2.2.2.2.2.2.2.2.2.2.2.2.2.2.1
theorem e_L_law_336 : decode cL_law 336 = .ok (.aload_n 1, 1) := D_L_law_4.2.2.2.2.2.2.2.2.2.2.2.2.2.2.2.2.2.2.2.2.1
theorem e_L_law_337 : decode cL_law 337 = .ok (.iconst 0, 1) := D_L_law_4.2.2.2.2.2.2.2.2.2.2.2.2.2.2.2.2.2.2.2.2.2.1
theorem e_L_law_338 : decode cL_law 338 = .ok (.invokevirtual 13, 3) := D_L_law_4.2.2.2.2.2.2.2.2.2.2.2.2.2.2.2.2.2.2.2.2.2.2.1
theorem e_L_law_341 : decode cL_law 341 = .ok (.ifCond .eq 22, 3) := D_L_law_4.2.2.2.2.2.2.2.2.2.2.2.2.2.2.2.2.2.2.2.2.2.2.2.1
theorem e_L_law_344 : decode cL_law 344 = .ok (.aload_n 1, 1) := D_L_law_4.2.2.2.2.2.2.2.2.2.2.2.2.2.2.2.2.2.2.2.2.2.2.2.2.1
theorem e_L_law_345 : decode cL_law 345 = .ok (.aload_n 1, 1) := D_L_law_4.2.2.2.2.2.2.2.2.2.2.2.2.2.2.2.2.2.2.2.2.2.2.2.2.2.1
theorem e_L_law_346 : decode cL_law 346 = .ok (.iload 5, 2) := D_L_law_4.2.2.2.2.2.2.2.2.2.2.2.2.2.2.2.2.2.2.2.2.2.2.2.2.2.2.1
theorem e_L_law_348 : decode cL_law 348 = .ok (.aload_n 1, 1) := D_L_law_4.2.2.2.2.2.2.2.2.2.2.2.2.2.2.2.2.2.2.2.2.2.2.2.2.2.2.2.1
theorem e_L_law_349 : decode cL_law 349 = .ok (.iconst 0, 1) := D_L_law_4.2.2.2.2.2.2.2.2.2.2.2.2.2.2.2.2.2.2.2.2.2.2.2.2.2.2.2.2.1
theorem e_L_law_350 : decode cL_law 350 = .ok (.invokevirtual 13, 3) := D_L_law_4.2.2.2.2.2.2.2.2.2.2.2.2.2.2.2.2.2.2.2.2.2.2.2.2.2.2.2.2.2.1
theorem e_L_law_353 : decode cL_law 353 = .ok (.irem, 1) := D_L_law_4.2.2.2.2.2.2.2.2.2.2.2.2.2.2.2.2.2.2.2.2.2.2.2.2.2.2.2.2.2.2.1
theorem e_L_law_354 : decode cL_law 354 = .ok (.invokevirtual 22, 3) := D_L_law_4.2.2.2.2.2.2.2.2.2.2.2.2.2.2.2.2.2.2.2.2.2.2.2.2.2.2.2.2.2.2.2.1
theorem e_L_law_357 : decode cL_law 357 = .ok (.invokestatic 127, 3) := D_L_law_4.2.2.2.2.2.2.2.2.2.2.2.2.2.2.2.2.2.2.2.2.2.2.2.2.2.2.2.2.2.2.2.2.1
theorem e_L_law_360 : decode cL_law 360 = .ok (.ifCond .eq 23, 3) := D_L_law_4.2.2.2.2.2.2.2.2.2.2.2.2.2.2.2.2.2.2.2.2.2.2.2.2.2.2.2.2.2.2.2.2.2.1
theorem e_L_law_363 : decode cL_law 363 = .ok (.iload_n 3, 1) := D_L_law_4.2.2.2.2.2.2.2.2.2.2.2.2.2.2.2.2.2.2.2.2.2.2.2.2.2.2.2.2.2.2.2.2.2.2.1
theorem e_L_law_364 : decode cL_law 364 = .ok (.bipush 11, 2) := D_L_law_4.2.2.2.2.2.2.2.2.2.2.2.2.2.2.2.2.2.2.2.2.2.2.2.2.2.2.2.2.2.2.2.2.2.2.2.1
theorem e_L_law_366 : decode cL_law 366 = .ok (.irem, 1) := D_L_law_4.2.2.2.2.2.2.2.2.2.2.2.2.2.2.2.2.2.2.2.2.2.2.2.2.2.2.2.2.2.2.2.2.2.2.2.2.1
theorem e_L_law_367 : decode cL_law 367 = .ok (.bipush 7, 2) := D_L_law_4.2.2.2.2.2.2.2.2.2.2.2.2.2.2.2.2.2.2.2.2.2.2.2.2.2.2.2.2.2.2.2.2.2.2.2.2.2.1
theorem e_L_law_369 : decode cL_law 369 = .ok (.if_icmp .ne 10, 3) := D_L_law_4.2.2.2.2.2.2.2.2.2.2.2.2.2.2.2.2.2.2.2.2.2.2.2.2.2.2.2.2.2.2.2.2.2.2.2.2.2.2.1
theorem e_L_law_372 : decode cL_law 372 = .ok (.aload_n 1, 1) := D_L_law_4.2.2.2.2.2.2.2.2.2.2.2.2.2.2.2.2.2.2.2.2.2.2.2.2.2.2.2.2.2.2.2.2.2.2.2.2.2.2.2.1
set_option maxRecDepth 100000 in
theorem D_L_law_5 : decode cL_law 373 = .ok (.invokestatic 106, 3) ∧ decode cL_law 376 = .ok (.ifCond .eq 7, 3) ∧ decode cL_law 379 = .ok (.iconst 1, 1) ∧ decode cL_law 380 = .ok (.goto 4, 3) ∧ decode cL_law 383 = .ok (.iconst 0, 1) ∧ decode cL_law 384 = .ok (.istore_n 2, 1) ∧ decode cL_law 385 = .ok (.iinc 3 1, 3) ∧ decode cL_law 388 = .ok (.goto (-342), 3) ∧ decode cL_law 391 = .ok (.iload_n 2, 1) ∧ decode cL_law 392 = .ok (.ifCond .eq 21, 3) ∧ decode cL_law 395 = .ok (.aload_n 1, 1) ∧ decode cL_law 396 = .ok (.invokestatic 106, 3) ∧ decode cL_law 399 = .ok (.ifCond .eq 14, 3) ∧ decode cL_law 402 = .ok (.aload_n 1, 1) ∧ decode cL_law 403 = .ok (.invokestatic 92, 3) ∧ decode cL_law 406 = .ok (.ifCond .eq 7, 3) ∧ decode cL_law 409 = .ok (.iconst 1, 1) ∧ decode cL_law 410 = .ok (.goto 4, 3) ∧ decode cL_law 413 = .ok (.iconst 0, 1) ∧ decode cL_law 414 = .ok (.ireturn, 1) ∧ True := dq_of (l := (373, .invokestatic 106, 3) :: (376, .ifCond .eq 7, 3) :: (379, .iconst 1, 1) :: (380, .goto 4, 3) :: (383, .iconst 0, 1) :: (384, .istore_n 2, 1) :: (385, .iinc 3 1, 3) :: (388, .goto (-342), 3) :: (391, .iload_n 2, 1) :: (392, .ifCond .eq 21, 3) :: (395, .aload_n 1, 1) :: (396, .invokestatic 106, 3) :: (399, .ifCond .eq 14, 3) :: (402, .aload_n 1, 1) :: (403, .invokestatic 92, 3) :: (406, .ifCond .eq 7, 3) :: (409, .iconst 1, 1) :: (410, .goto 4, 3) :: (413, .iconst 0, 1) :: (414, .ireturn, 1) :: []) (by decide +kernel)
theorem e_L_law_373 : decode cL_law 373 = .ok (.invokestatic 106, 3) := D_L_law_5.1
theorem e_L_law_376 : decode cL_law 376 = .ok (.ifCond .eq 7, 3) := D_L_law_5.2.1
theorem e_L_law_379 : decode cL_law 379 = .ok (.iconst 1, 1) := D_L_law_5.2.2.1
theorem e_L_law_380 : decode cL_law 380 = .ok (.goto 4, 3) := D_L_law_5.2.2.2.1
theorem e_L_law_383 : decode cL_law 383 = .ok (.iconst 0, 1) := D_L_law_5.2.2.2.2.1
theorem e_L_law_384 : decode cL_law 384 = .ok (.istore_n 2, 1) := D_L_law_5.2.2.2.2.2.1
theorem e_L_law_385 : decode cL_law 385 = .ok (.iinc 3 1, 3) := D_L_law_5.2.2.2.2.2.2.1
theorem e_L_law_388 : decode cL_law 388 = .ok (.goto (-342), 3) := D_L_law_5.2.2.2.2.2.2.2.1
theorem e_L_law_391 : decode cL_law 391 = .ok (.iload_n 2, 1) := D_L_law_5.2.2.2.2.2.2.2.2.1
theorem e_L_law_392 : decode cL_law 392 = .ok (.ifCond .eq 21, 3) := D_L_law_5.2.2.2.2.2.2.2.2.2.1
theorem e_L_law_395 : decode cL_law 395 = .ok (.aload_n 1, 1) := D_L_law_5.2.2.2.2.2.2.2.2.2.2.1
theorem e_L_law_396 : decode cL_law 396 = .ok (.invokestatic 106, 3) := D_L_law_5.2.2.2.2.2.2.2.2.2.2.2.1
theorem e_L_law_399 : decode cL_law 399 = .ok (.ifCond .eq 14, 3) := D_L_law_5.2.2.2.2.2.2.2.2.2.2.2.2.1
theorem e_L_law_402 : decode cL_law 402 = .ok (.aload_n 1, 1) := D_L_law_5.2.2.2.2.2.2.2.2.2.2.2.2.2.1
theorem e_L_law_403 : decode cL_law 403 = .ok (.invokestatic 92, 3) := D_L_law_5.2.2.2.2.2.2.2.2.2.2.2.2.2.2.1
theorem e_L_law_406 : decode cL_law 406 = .ok (.ifCond .eq 7, 3) := D_L_law_5.2.2.2.2.2.2.2.2.2.2.2.2.2.2.2.1
theorem e_L_law_409 : decode cL_law 409 = .ok (.iconst 1, 1) := D_L_law_5.2.2.2.2.2.2.2.2.2.2.2.2.2.2.2.2.1
theorem e_L_law_410 : decode cL_law 410 = .ok (.goto 4, 3) := D_L_law_5.2.2.2.2.2.2.2.2.2.2.2.2.2.2.2.2.2.1
theorem e_L_law_413 : decode cL_law 413 = .ok (.iconst 0, 1) := D_L_law_5.2.2.2.2.2.2.2.2.2.2.2.2.2.2.2.2.2.2.1
theorem e_L_law_414 : decode cL_law 414 = .ok (.ireturn, 1) := D_L_law_5.2.2.2.2.2.2.2.2.2.2.2.2.2.2.2.2.2.2.2.1
