set_option maxRecDepth 100000 in
theorem D_L_law_0 : decode cL_law 0 = .ok (.new 7, 3) ∧ decode cL_law 3 = .ok (.dup, 1) ∧ decode cL_law 4 = .ok (.invokespecial 9, 3) ∧ decode cL_law 7 = .ok (.astore_n 1, 1) ∧ decode cL_law 8 = .ok (.new 10, 3) ∧ decode cL_law 11 = .ok (.dup, 1) ∧ decode cL_law 12 = .ok (.invokespecial 12, 3) ∧ decode cL_law 15 = .ok (.astore_n 2, 1) ∧ decode cL_law 16 = .ok (.iconst 0, 1) ∧ decode cL_law 17 = .ok (.istore_n 3, 1) ∧ decode cL_law 18 = .ok (.iload_n 3, 1) ∧ decode cL_law 19 = .ok (.aload_n 0, 1) ∧ decode cL_law 20 = .ok (.arraylength, 1) ∧ decode cL_law 21 = .ok (.bipush 6, 2) ∧ decode cL_law 23 = .ok (.isub, 1) ∧ decode cL_law 24 = .ok (.if_icmp .gt 785, 3) ∧ decode cL_law 27 = .ok (.aload_n 0, 1) ∧ decode cL_law 28 = .ok (.iload_n 3, 1) ∧ decode cL_law 29 = .ok (.iaload, 1) ∧ decode cL_law 30 = .ok (.bipush 31, 2) ∧ decode cL_law 32 = .ok (.iand, 1) ∧ decode cL_law 33 = .ok (.tableswitch 770 0 24 #[115, 148, 191, 224, 247, 260, 293, 356, 369, 402, 425, 458, 491, 514, 537, 550, 573, 596, 629, 662, 685, 698, 721, 734, 757], 115) ∧ decode cL_law 148 = .ok (.aload_n 1, 1) ∧ decode cL_law 149 = .ok (.aload_n 0, 1) ∧ decode cL_law 150 = .ok (.iload_n 3, 1) ∧ decode cL_law 151 = .ok (.iconst 1, 1) ∧ decode cL_law 152 = .ok (.iadd, 1) ∧ decode cL_law 153 = .ok (.iaload, 1) ∧ decode cL_law 154 = .ok (.aload_n 0, 1) ∧ decode cL_law 155 = .ok (.iload_n 3, 1) ∧ decode cL_law 156 = .ok (.iconst 2, 1) ∧ decode cL_law 157 = .ok (.iadd, 1) ∧ decode cL_law 158 = .ok (.iaload, 1) ∧ decode cL_law 159 = .ok (.invokevirtual 13, 3) ∧ decode cL_law 162 = .ok (.aload_n 2, 1) ∧ decode cL_law 163 = .ok (.aload_n 0, 1) ∧ decode cL_law 164 = .ok (.iload_n 3, 1) ∧ decode cL_law 165 = .ok (.iconst 1, 1) ∧ decode cL_law 166 = .ok (.iadd, 1) ∧ decode cL_law 167 = .ok (.iaload, 1) ∧ True := dq_of (l := (0, .new 7, 3) :: (3, .dup, 1) :: (4, .invokespecial 9, 3) :: (7, .astore_n 1, 1) :: (8, .new 10, 3) :: (11, .dup, 1) :: (12, .invokespecial 12, 3) :: (15, .astore_n 2, 1) :: (16, .iconst 0, 1) :: (17, .istore_n 3, 1) :: (18, .iload_n 3, 1) :: (19, .aload_n 0, 1) :: (20, .arraylength, 1) :: (21, .bipush 6, 2) :: (23, .isub, 1) :: (24, .if_icmp .gt 785, 3) :: (27, .aload_n 0, 1) :: (28, .iload_n 3, 1) :: (29, .iaload, 1) :: (30, .bipush 31, 2) :: (32, .iand, 1) :: (33, .tableswitch 770 0 24 #[115, 148, 191, 224, 247, 260, 293, 356, 369, 402, 425, 458, 491, 514, 537, 550, 573, 596, 629, 662, 685, 698, 721, 734, 757], 115) :: (148, .aload_n 1, 1) :: (149, .aload_n 0, 1) :: (150, .iload_n 3, 1) :: (151, .iconst 1, 1) :: (152, .iadd, 1) :: (153, .iaload, 1) :: (154, .aload_n 0, 1) :: (155, .iload_n 3, 1) :: (156, .iconst 2, 1) :: (157, .iadd, 1) :: (158, .iaload, 1) :: (159, .invokevirtual 13, 3) :: (162, .aload_n 2, 1) :: (163, .aload_n 0, 1) :: (164, .iload_n 3, 1) :: (165, .iconst 1, 1) :: (166, .iadd, 1) :: (167, .iaload, 1) :: []) (by decide +kernel)
theorem e_L_law_0 : decode cL_law 0 = .ok (.new 7, 3) := D_L_law_0.1
theorem e_L_law_3 : decode cL_law 3 = .ok (.dup, 1) := D_L_law_0.2.1
theorem e_L_law_4 : decode cL_law 4 = .ok (.invokespecial 9, 3) := D_L_law_0.2.2.1
theorem e_L_law_7 : decode cL_law 7 = .ok (.astore_n 1, 1) := D_L_law_0.2.2.2.1
theorem e_L_law_8 : decode cL_law 8 = .ok (.new 10, 3) := D_L_law_0.2.2.2.2.1
theorem e_L_law_11 : decode cL_law 11 = .ok (.dup, 1) := D_L_law_0.2.2.2.2.2.1
theorem e_L_law_12 : decode cL_law 12 = .ok (.invokespecial 12, 3) := D_L_law_0.2.2.2.2.2.2.1
theorem e_L_law_15 : decode cL_law 15 = .ok (.astore_n 2, 1) := D_L_law_0.2.2.2.2.2.2.2.1
theorem e_L_law_16 : decode cL_law 16 = .ok (.iconst 0, 1) := D_L_law_0.2.2.2.2.2.2.2.2.1
theorem e_L_law_17 : decode cL_law 17 = .ok (.istore_n 3, 1) := D_L_law_0.2.2.2.2.2.2.2.2.2.1
theorem e_L_law_18 : decode cL_law 18 = .ok (.iload_n 3, 1) := D_L_law_0.2.2.2.2.2.2.2.2.2.2.1
theorem e_L_law_19 : decode cL_law 19 = .ok (.aload_n 0, 1) := D_L_law_0.2.2.2.2.2.2.2.2.2.2.2.1
theorem e_L_law_20 : decode cL_law 20 = .ok (.arraylength, 1) := D_L_law_0.2.2.2.2.2.2.2.2.2.2.2.2.1
theorem e_L_law_21 : decode cL_law 21 = .ok (.bipush 6, 2) := D_L_law_0.2.2.2.2.2.2.2.2.2.2.2.2.2.1
theorem e_L_law_23 : decode cL_law 23 = .ok (.isub, 1) := D_L_law_0.2.2.2.2.2.2.2.2.2.2.2.2.2.2.1
theorem e_L_law_24 : decode cL_law 24 = .ok (.if_icmp .gt 785, 3) := D_L_law_0.2.2.2.2.2.2.2.2.2.2.2.2.2.2.2.1
theorem e_L_law_27 : decode cL_law 27 = .ok (.aload_n 0, 1) := D_L_law_0.2.2.2.2.2.2.2.2.2.2.2.2.2.2.2.2.1
theorem e_L_law_28 : decode cL_law 28 = .ok (.iload_n 3, 1) := D_L_law_0.2.2.2.2.2.2.2.2.2.2.2.2.2.2.2.2.2.1
theorem e_L_law_29 : decode cL_law 29 = .ok (.iaload, 1) := D_L_law_0.2.2.2.2.2.2.2.2.2.2.2.2.2.2.2.2.2.2.1
theorem e_L_law_30 : decode cL_law 30 = .ok (.bipush 31, 2) := D_L_law_0.2.2.2.2.2.2.2.2.2.2.2.2.2.2.2.2.2.2.2.1
theorem e_L_law_32 : decode cL_law 32 = .ok (.iand, 1) := D_L_law_0.2.2.2.2.2.2.2.2.2.2.2.2.2.2.2.2.2.2.2.2.1
theorem e_L_law_33 : decode cL_law 33 = .ok (.tableswitch 770 0 24 #[115, 148, 191, 224, 247, 260, 293, 356, 369, 402, 425, 458, 491, 514, 537, 550, 573, 596, 629, 662, 685, 698, 721, 734, 757], 115) := D_L_law_0.2.2.2.2.2.2.2.2.2.2.2.2.2.2.2.2.2.2.2.2.2.1
theorem e_L_law_148 : decode cL_law 148 = .ok (.aload_n 1, 1) := D_L_law_0.2.2.2.2.2.2.2.2.2.2.2.2.2.2.2.2.2.2.2.2.2.2.1
theorem e_L_law_149 : decode cL_law 149 = .ok (.aload_n 0, 1) := D_L_law_0.2.2.2.2.2.2.2.2.2.2.2.2.2.2.2.2.2.2.2.2.2.2.2.1
theorem e_L_law_150 : decode cL_law 150 = .ok (.iload_n 3, 1) := D_L_law_0.2.2.2.2.2.2.2.2.2.2.2.2.2.2.2.2.2.2.2.2.2.2.2.2.1
theorem e_L_law_151 : decode cL_law 151 = .ok (.iconst 1, 1) := D_L_law_0.2.2.2.2.2.2.2.2.2.2.2.2.2.2.2.2.2.2.2.2.2.2.2.2.2.1
theorem e_L_law_152 : decode cL_law 152 = .ok (.iadd, 1) := D_L_law_0.2.2.2.2.2.2.2.2.2.2.2.2.2.2.2.2.2.2.2.2.2.2.2.2.2.2.1
theorem e_L_law_153 : decode cL_law 153 = .ok (.iaload, 1) := D_L_law_0.2.2.2.2.2.2.2.2.2.2.2.2.2.2.2.2.2.2.2.2.2.2.2.2.2.2.2.1
theorem e_L_law_154 : decode cL_law 154 = .ok (.aload_n 0, 1) := D_L_law_0.2.2.2.2.2.2.2.2.2.2.2.2.2.2.2.2.2.2.2.2.2.2.2.2.2.2.2.2.1
theorem e_L_law_155 : decode cL_law 155 = .ok (.iload_n 3, 1) := D_L_law_0.2.2.2.2.2.2.2.2.2.2.2.2.2.2.2.2.2.2.2.2.2.2.2.2.2.2.2.2.2.1
theorem e_L_law_156 : decode cL_law 156 = .ok (.iconst 2, 1) := D_L_law_0.2.2.2.2.2.2.2.2.2.2.2.2.2.2.2.2.2.2.2.2.2.2.2.2.2.2.2.2.2.2.1
theorem e_L_law_157 : decode cL_law 157 = .ok (.iadd, 1) := D_L_law_0.2.2.2.2.2.2.2.2.2.2.2.2.2.2.2.2.2.2.2.2.2.2.2.2.2.2.2.2.2.2.2.1
theorem e_L_law_158 : decode cL_law 158 = .ok (.iaload, 1) := D_L_law_0.2.2.2.2.2.2.2.2.2.2.2.2.2.2.2.2.2.2.2.2.2.2.2.2.2.2.2.2.2.2.2.2.1
theorem e_L_law_159 : decode cL_law 159 = .ok (.invokevirtual 13, 3) := D_L_law_0.2.2.2.2.2.2.2.2.2.2.2.2.2.2.2.2.2.2.2.2.2.2.2.2.2.2.2.2.2.2.2.2.2.1
theorem e_L_law_162 : decode cL_law 162 = .ok (.aload_n 2, 1) := D_L_law_0.2.2.2.2.2.2.2.2.2.2.2.2.2.2.2.2.2.2.2.2.2.2.2.2.2.2.2.2.2.2.2.2.2.2.1
theorem e_L_law_163 : decode cL_law 163 = .ok (.aload_n 0, 1) := D_L_law_0.2.2.2.2.2.2.2.2.2.2.2.2.2.2.2.2.2.2.2.2.2.2.2.2.2.2.2.2.2.2.2.2.2.2.2.1
theorem e_L_law_164 : decode cL_law 164 = .ok (.iload_n 3, 1) := D_L_law_0.2.2.2.2.2.2.2.2.2.2.2.2.2.2.2.2.2.2.2.2.2.2.2.2.2.2.2.2.2.2.2.2.2.2.2.2.1
theorem e_L_law_165 : decode cL_law 165 = .ok (.iconst 1, 1) := D_L_law_0.2.2.2.2.2.2.2.2.2.2.2.2.2.2.2.2.2.2.2.2.2.2.2.2.2.2.2.2.2.2.2.2.2.2.2.2.2.1
theorem e_L_law_166 : decode cL_law 166 = .ok (.iadd, 1) := D_L_law_0.2.2.2.2.2.2.2.2.2.2.2.2.2.2.2.2.2.2.2.2.2.2.2.2.2.2.2.2.2.2.2.2.2.2.2.2.2.2.1
theorem e_L_law_167 : decode cL_law 167 = .ok (.iaload, 1) := D_L_law_0.2.2.2.2.2.2.2.2.2.2.2.2.2.2.2.2.2.2.2.2.2.2.2.2.2.2.2.2.2.2.2.2.2.2.2.2.2.2.2.1
set_option maxRecDepth 100000 in
theorem D_L_law_1 : decode cL_law 168 = .ok (.aload_n 0, 1) ∧ decode cL_law 169 = .ok (.iload_n 3, 1) ∧ decode cL_law 170 = .ok (.iconst 2, 1) ∧ decode cL_law 171 = .ok (.iadd, 1) ∧ decode cL_law 172 = .ok (.iaload, 1) ∧ decode cL_law 173 = .ok (.invokevirtual 17, 3) ∧ decode cL_law 176 = .ok (.if_icmp .eq 627, 3) ∧ decode cL_law 179 = .ok (.iconst 0, 1) ∧ decode cL_law 180 = .ok (.ireturn, 1) ∧ decode cL_law 181 = .ok (.aload_n 1, 1) ∧ decode cL_law 182 = .ok (.aload_n 0, 1) ∧ decode cL_law 183 = .ok (.iload_n 3, 1) ∧ decode cL_law 184 = .ok (.iconst 1, 1) ∧ decode cL_law 185 = .ok (.iadd, 1) ∧ decode cL_law 186 = .ok (.iaload, 1) ∧ decode cL_law 187 = .ok (.aload_n 0, 1) ∧ decode cL_law 188 = .ok (.iload_n 3, 1) ∧ decode cL_law 189 = .ok (.iconst 2, 1) ∧ decode cL_law 190 = .ok (.iadd, 1) ∧ decode cL_law 191 = .ok (.iaload, 1) ∧ decode cL_law 192 = .ok (.aload_n 0, 1) ∧ decode cL_law 193 = .ok (.iload_n 3, 1) ∧ decode cL_law 194 = .ok (.iconst 3, 1) ∧ decode cL_law 195 = .ok (.iadd, 1) ∧ decode cL_law 196 = .ok (.iaload, 1) ∧ decode cL_law 197 = .ok (.invokevirtual 18, 3) ∧ decode cL_law 200 = .ok (.aload_n 2, 1) ∧ decode cL_law 201 = .ok (.aload_n 0, 1) ∧ decode cL_law 202 = .ok (.iload_n 3, 1) ∧ decode cL_law 203 = .ok (.iconst 1, 1) ∧ decode cL_law 204 = .ok (.iadd, 1) ∧ decode cL_law 205 = .ok (.iaload, 1) ∧ decode cL_law 206 = .ok (.aload_n 0, 1) ∧ decode cL_law 207 = .ok (.iload_n 3, 1) ∧ decode cL_law 208 = .ok (.iconst 2, 1) ∧ decode cL_law 209 = .ok (.iadd, 1) ∧ decode cL_law 210 = .ok (.iaload, 1) ∧ decode cL_law 211 = .ok (.aload_n 0, 1) ∧ decode cL_law 212 = .ok (.iload_n 3, 1) ∧ decode cL_law 213 = .ok (.iconst 3, 1) ∧ True := dq_of (l := (168, .aload_n 0, 1) :: (169, .iload_n 3, 1) :: (170, .iconst 2, 1) :: (171, .iadd, 1) :: (172, .iaload, 1) :: (173, .invokevirtual 17, 3) :: (176, .if_icmp .eq 627, 3) :: (179, .iconst 0, 1) :: (180, .ireturn, 1) :: (181, .aload_n 1, 1) :: (182, .aload_n 0, 1) :: (183, .iload_n 3, 1) :: (184, .iconst 1, 1) :: (185, .iadd, 1) :: (186, .iaload, 1) :: (187, .aload_n 0, 1) :: (188, .iload_n 3, 1) :: (189, .iconst 2, 1) :: (190, .iadd, 1) :: (191, .iaload, 1) :: (192, .aload_n 0, 1) :: (193, .iload_n 3, 1) :: (194, .iconst 3, 1) :: (195, .iadd, 1) :: (196, .iaload, 1) :: (197, .invokevirtual 18, 3) :: (200, .aload_n 2, 1) :: (201, .aload_n 0, 1) :: (202, .iload_n 3, 1) :: (203, .iconst 1, 1) :: (204, .iadd, 1) :: (205, .iaload, 1) :: (206, .aload_n 0, 1) :: (207, .iload_n 3, 1) :: (208, .iconst 2, 1) :: (209, .iadd, 1) :: (210, .iaload, 1) :: (211, .aload_n 0, 1) :: (212, .iload_n 3, 1) :: (213, .iconst 3, 1) :: []) (by decide +kernel)
theorem e_L_law_168 : decode cL_law 168 = .ok (.aload_n 0, 1) := D_L_law_1.1
theorem e_L_law_169 : decode cL_law 169 = .ok (.iload_n 3, 1) := D_L_law_1.2.1
theorem e_L_law_170 : decode cL_law 170 = .ok (.iconst 2, 1) := D_L_law_1.2.2.1
theorem e_L_law_171 : decode cL_law 171 = .ok (.iadd, 1) := D_L_law_1.2.2.2.1
theorem e_L_law_172 : decode cL_law 172 = .ok (.iaload, 1) := D_L_law_1.2.2.2.2.1
theorem e_L_law_173 : decode cL_law 173 = .ok (.invokevirtual 17, 3) := D_L_law_1.2.2.2.2.2.1
theorem e_L_law_176 : decode cL_law 176 = .ok (.if_icmp .eq 627, 3) := D_L_law_1.2.2.2.2.2.2.1
theorem e_L_law_179 : decode cL_law 179 = .ok (.iconst 0, 1) := D_L_law_1.2.2.2.2.2.2.2.1
theorem e_L_law_180 : decode cL_law 180 = .ok (.ireturn, 1) := D_L_law_1.2.2.2.2.2.2.2.2.1
theorem e_L_law_181 : decode cL_law 181 = .ok (.aload_n 1, 1) := D_L_law_1.2.2.2.2.2.2.2.2.2.1
theorem e_L_law_182 : decode cL_law 182 = .ok (.aload_n 0, 1) := D_L_law_1.2.2.2.2.2.2.2.2.2.2.1
theorem e_L_law_183 : decode cL_law 183 = .ok (.iload_n 3, 1) := D_L_law_1.2.2.2.2.2.2.2.2.2.2.2.1
theorem e_L_law_184 : decode cL_law 184 = .ok (.iconst 1, 1) := D_L_law_1.2.2.2.2.2.2.2.2.2.2.2.2.1
theorem e_L_law_185 : decode cL_law 185 = .ok (.iadd, 1) := D_L_law_1.2.2.2.2.2.2.2.2.2.2.2.2.2.1
theorem e_L_law_186 : decode cL_law 186 = .ok (.iaload, 1) := D_L_law_1.2.2.2.2.2.2.2.2.2.2.2.2.2.2.1
theorem e_L_law_187 : decode cL_law 187 = .ok (.aload_n 0, 1) := D_L_law_1.2.2.2.2.2.2.2.2.2.2.2.2.2.2.2.1
theorem e_L_law_188 : decode cL_law 188 = .ok (.iload_n 3, 1) := D_L_law_1.2.2.2.2.2.2.2.2.2.2.2.2.2.2.2.2.1
theorem e_L_law_189 : decode cL_law 189 = .ok (.iconst 2, 1) := D_L_law_1.2.2.2.2.2.2.2.2.2.2.2.2.2.2.2.2.2.1
theorem e_L_law_190 : decode cL_law 190 = .ok (.iadd, 1) := D_L_law_1.2.2.2.2.2.2.2.2.2.2.2.2.2.2.2.2.2.2.1
theorem e_L_law_191 : decode cL_law 191 = .ok (.iaload, 1) := D_L_law_1.2.2.2.2.2.2.2.2.2.2.2.2.2.2.2.2.2.2.2.1
theorem e_L_law_192 : decode cL_law 192 = .ok (.aload_n 0, 1) := D_L_law_1.2.2.2.2.2.2.2.2.2.2.2.2.2.2.2.2.2.2.2.2.1
theorem e_L_law_193 : decode cL_law 193 = .ok (.iload_n 3, 1) := D_L_law_1.2.2.2.2.2.2.2.2.2.2.2.2.2.2.2.2.2.2.2.2.2.1
theorem e_L_law_194 : decode cL_law 194 = .ok (.iconst 3, 1) := D_L_law_1.2.2.2.2.2.2.2.2.2.2.2.2.2.2.2.2.2.2.2.2.2.2.1
theorem e_L_law_195 : decode cL_law 195 = .ok (.iadd, 1) := D_L_law_1.2.2.2.2.2.2.2.2.2.2.2.2.2.2.2.2.2.2.2.2.2.2.2.1
theorem e_L_law_196 : decode cL_law 196 = .ok (.iaload, 1) := D_L_law_1.2.2.2.2.2.2.2.2.2.2.2.2.2.2.2.2.2.2.2.2.2.2.2.2.1
theorem e_L_law_197 : decode cL_law 197 = .ok (.invokevirtual 18, 3) := D_L_law_1.2.2.2.2.2.2.2.2.2.2.2.2.2.2.2.2.2.2.2.2.2.2.2.2.2.1
theorem e_L_law_200 : decode cL_law 200 = .ok (.aload_n 2, 1) := D_L_law_1.2.2.2.2.2.2.2.2.2.2.2.2.2.2.2.2.2.2.2.2.2.2.2.2.2.2.1
theorem e_L_law_201 : decode cL_law 201 = .ok (.aload_n 0, 1) := D_L_law_1.2.2.2.2.2.2.2.2.2.2.2.2.2.2.2.2.2.2.2.2.2.2.2.2.2.2.2.1
theorem e_L_law_202 : decode cL_law 202 = .ok (.iload_n 3, 1) := D_L_law_1.2.2.2.2.2.2.2.2.2.2.2.2.2.2.2.2.2.2.2.2.2.2.2.2.2.2.2.2.1
theorem e_L_law_203 : decode cL_law 203 = .ok (.iconst 1, 1) := D_L_law_1.2.2.2.2.2.2.2.2.2.2.2.2.2.2.2.2.2.2.2.2.2.2.2.2.2.2.2.2.2.1
theorem e_L_law_204 : decode cL_law 204 = .ok (.iadd, 1) := D_L_law_1.2.2.2.2.2.2.2.2.2.2.2.2.2.2.2.2.2.2.2.2.2.2.2.2.2.2.2.2.2.2.1
theorem e_L_law_205 : decode cL_law 205 = .ok (.iaload, 1) := D_L_law_1.2.2.2.2.2.2.2.2.2.2.2.2.2.2.2.2.2.2.2.2.2.2.2.2.2.2.2.2.2.2.2.1
theorem e_L_law_206 : decode cL_law 206 = .ok (.aload_n 0, 1) := D_L_law_1.2.2.2.2.2.2.2.2.2.2.2.2.2.2.2.2.2.2.2.2.2.2.2.2.2.2.2.2.2.2.2.2.1
theorem e_L_law_207 : decode cL_law 207 = .ok (.iload_n 3, 1) := D_L_law_1.2.2.2.2.2.2.2.2.2.2.2.2.2.2.2.2.2.2.2.2.2.2.2.2.2.2.2.2.2.2.2.2.2.1
theorem e_L_law_208 : decode cL_law 208 = .ok (.iconst 2, 1) := D_L_law_1.2.2.2.2.2.2.2.2.2.2.2.2.2.2.2.2.2.2.2.2.2.2.2.2.2.2.2.2.2.2.2.2.2.2.1
theorem e_L_law_209 : decode cL_law 209 = .ok (.iadd, 1) := D_L_law_1.2.2.2.2.2.2.2.2.2.2.2.2.2.2.2.2.2.2.2.2.2.2.2.2.2.2.2.2.2.2.2.2.2.2.2.1
theorem e_L_law_210 : decode cL_law 210 = .ok (.iaload, 1) := D_L_law_1.2.2.2.2.2.2.2.2.2.2.2.2.2.2.2.2.2.2.2.2.2.2.2.2.2.2.2.2.2.2.2.2.2.2.2.2.1
theorem e_L_law_211 : decode cL_law 211 = .ok (.aload_n 0, 1) := D_L_law_1.2.2.2.2.2.2.2.2.2.2.2.2.2.2.2.2.2.2.2.2.2.2.2.2.2.2.2.2.2.2.2.2.2.2.2.2.2.1
theorem e_L_law_212 : decode cL_law 212 = .ok (.iload_n 3, 1) := D_L_law_1.2.2.2.2.2.2.2.2.2.2.2.2.2.2.2.2.2.2.2.2.2.2.2.2.2.2.2.2.2.2.2.2.2.2.2.2.2.2.1
theorem e_L_law_213 : decode cL_law 213 = .ok (.iconst 3, 1) := D_L_law_1.2.2.2.2.2.2.2.2.2.2.2.2.2.2.2.2.2.2.2.2.2.2.2.2.2.2.2.2.2.2.2.2.2.2.2.2.2.2.2.1
set_option maxRecDepth 100000 in
theorem D_L_law_2 : decode cL_law 214 = .ok (.iadd, 1) ∧ decode cL_law 215 = .ok (.iaload, 1) ∧ decode cL_law 216 = .ok (.invokevirtual 22, 3) ∧ decode cL_law 219 = .ok (.if_icmp .eq 584, 3) ∧ decode cL_law 222 = .ok (.iconst 0, 1) ∧ decode cL_law 223 = .ok (.ireturn, 1) ∧ decode cL_law 224 = .ok (.aload_n 1, 1) ∧ decode cL_law 225 = .ok (.aload_n 0, 1) ∧ decode cL_law 226 = .ok (.iload_n 3, 1) ∧ decode cL_law 227 = .ok (.iconst 1, 1) ∧ decode cL_law 228 = .ok (.iadd, 1) ∧ decode cL_law 229 = .ok (.iaload, 1) ∧ decode cL_law 230 = .ok (.aload_n 0, 1) ∧ decode cL_law 231 = .ok (.iload_n 3, 1) ∧ decode cL_law 232 = .ok (.iconst 2, 1) ∧ decode cL_law 233 = .ok (.iadd, 1) ∧ decode cL_law 234 = .ok (.iaload, 1) ∧ decode cL_law 235 = .ok (.invokevirtual 23, 3) ∧ decode cL_law 238 = .ok (.aload_n 2, 1) ∧ decode cL_law 239 = .ok (.aload_n 0, 1) ∧ decode cL_law 240 = .ok (.iload_n 3, 1) ∧ decode cL_law 241 = .ok (.iconst 1, 1) ∧ decode cL_law 242 = .ok (.iadd, 1) ∧ decode cL_law 243 = .ok (.iaload, 1) ∧ decode cL_law 244 = .ok (.aload_n 0, 1) ∧ decode cL_law 245 = .ok (.iload_n 3, 1) ∧ decode cL_law 246 = .ok (.iconst 2, 1) ∧ decode cL_law 247 = .ok (.iadd, 1) ∧ decode cL_law 248 = .ok (.iaload, 1) ∧ decode cL_law 249 = .ok (.invokevirtual 26, 3) ∧ decode cL_law 252 = .ok (.if_icmp .eq 551, 3) ∧ decode cL_law 255 = .ok (.iconst 0, 1) ∧ decode cL_law 256 = .ok (.ireturn, 1) ∧ decode cL_law 257 = .ok (.aload_n 1, 1) ∧ decode cL_law 258 = .ok (.aload_n 0, 1) ∧ decode cL_law 259 = .ok (.iload_n 3, 1) ∧ decode cL_law 260 = .ok (.iconst 1, 1) ∧ decode cL_law 261 = .ok (.iadd, 1) ∧ decode cL_law 262 = .ok (.iaload, 1) ∧ decode cL_law 263 = .ok (.invokevirtual 27, 3) ∧ True := dq_of (l := (214, .iadd, 1) :: (215, .iaload, 1) :: (216, .invokevirtual 22, 3) :: (219, .if_icmp .eq 584, 3) :: (222, .iconst 0, 1) :: (223, .ireturn, 1) :: (224, .aload_n 1, 1) :: (225, .aload_n 0, 1) :: (226, .iload_n 3, 1) :: (227, .iconst 1, 1) :: (228, .iadd, 1) :: (229, .iaload, 1) :: (230, .aload_n 0, 1) :: (231, .iload_n 3, 1) :: (232, .iconst 2, 1) :: (233, .iadd, 1) :: (234, .iaload, 1) :: (235, .invokevirtual 23, 3) :: (238, .aload_n 2, 1) :: (239, .aload_n 0, 1) :: (240, .iload_n 3, 1) :: (241, .iconst 1, 1) :: (242, .iadd, 1) :: (243, .iaload, 1) :: (244, .aload_n 0, 1) :: (245, .iload_n 3, 1) :: (246, .iconst 2, 1) :: (247, .iadd, 1) :: (248, .iaload, 1) :: (249, .invokevirtual 26, 3) :: (252, .if_icmp .eq 551, 3) :: (255, .iconst 0, 1) :: (256, .ireturn, 1) :: (257, .aload_n 1, 1) :: (258, .aload_n 0, 1) :: (259, .iload_n 3, 1) :: (260, .iconst 1, 1) :: (261, .iadd, 1) :: (262, .iaload, 1) :: (263, .invokevirtual 27, 3) :: []) (by decide +kernel)
theorem e_L_law_214 : decode cL_law 214 = .ok (.iadd, 1) := D_L_law_2.1
theorem e_L_law_215 : decode cL_law 215 = .ok (.iaload, 1) := D_L_law_2.2.1
theorem e_L_law_216 : decode cL_law 216 = .ok (.invokevirtual 22, 3) := D_L_law_2.2.2.1
theorem e_L_law_219 : decode cL_law 219 = .ok (.if_icmp .eq 584, 3) := D_L_law_2.2.2.2.1
theorem e_L_law_222 : decode cL_law 222 = .ok (.iconst 0, 1) := D_L_law_2.2.2.2.2.1
theorem e_L_law_223 : decode cL_law 223 = .ok (.ireturn, 1) := D_L_law_2.2.2.2.2.2.1
theorem e_L_law_224 : decode cL_law 224 = .ok (.aload_n 1, 1) := D_L_law_2.2.2.2.2.2.2.1
theorem e_L_law_225 : decode cL_law 225 = .ok (.aload_n 0, 1) := D_L_law_2.2.2.2.2.2.2.2.1
theorem e_L_law_226 : decode cL_law 226 = .ok (.iload_n 3, 1) := D_L_law_2.2.2.2.2.2.2.2.2.1
theorem e_L_law_227 : decode cL_law 227 = .ok (.iconst 1, 1) := D_L_law_2.2.2.2.2.2.2.2.2.2.1
theorem e_L_law_228 : decode cL_law 228 = .ok (.iadd, 1) := D_L_law_2.2.2.2.2.2.2.2.2.2.2.1
theorem e_L_law_229 : decode cL_law 229 = .ok (.iaload, 1) := D_L_law_2.2.2.2.2.2.2.2.2.2.2.2.1
theorem e_L_law_230 : decode cL_law 230 = .ok (.aload_n 0, 1) := D_L_law_2.2.2.2.2.2.2.2.2.2.2.2.2.1
theorem e_L_law_231 : decode cL_law 231 = .ok (.iload_n 3, 1) := D_L_law_2.2.2.2.2.2.2.2.2.2.2.2.2.2.1
theorem e_L_law_232 : decode cL_law 232 = .ok (.iconst 2, 1) := D_L_law_2.2.2.2.2.2.2.2.2.2.2.2.2.2.2.1
theorem e_L_law_233 : decode cL_law 233 = .ok (.iadd, 1) := D_L_law_2.2.2.2.2.2.2.2.2.2.2.2.2.2.2.2.1
theorem e_L_law_234 : decode cL_law 234 = .ok (.iaload, 1) := D_L_law_2.2.2.2.2.2.2.2.2.2.2.2.2.2.2.2.2.1
theorem e_L_law_235 : decode cL_law 235 = .ok (.invokevirtual 23, 3) := D_L_law_2.2.2.2.2.2.2.2.2.2.2.2.2.2.2.2.2.2.1
theorem e_L_law_238 : decode cL_law 238 = .ok (.aload_n 2, 1) := D_L_law_2.2.2.2.2.2.2.2.2.2.2.2.2.2.2.2.2.2.2.1
theorem e_L_law_239 : decode cL_law 239 = .ok (.aload_n 0, 1) := D_L_law_2.2.2.2.2.2.2.2.2.2.2.2.2.2.2.2.2.2.2.2.1
theorem e_L_law_240 : decode cL_law 240 = .ok (.iload_n 3, 1) := D_L_law_2.2.2.2.2.2.2.2.2.2.2.2.2.2.2.2.2.2.2.2.2.1
theorem e_L_law_241 : decode cL_law 241 = .ok (.iconst 1, 1) := D_L_law_2.2.2.2.2.2.2.2.2.2.2.2.2.2.2.2.2.2.2.2.2.2.1
theorem e_L_law_242 : decode cL_law 242 = .ok (.iadd, 1) := D_L_law_2.2.2.2.2.2.2.2.2.2.2.2.2.2.2.2.2.2.2.2.2.2.2.1
theorem e_L_law_243 : decode cL_law 243 = .ok (.iaload, 1) := D_L_law_2.2.2.2.2.2.2.2.2.2.2.2.2.2.2.2.2.2.2.2.2.2.2.2.1
theorem e_L_law_244 : decode cL_law 244 = .ok (.aload_n 0, 1) := D_L_law_2.2.2.2.2.2.2.2.2.2.2.2.2.2.2.2.2.2.2.2.2.2.2.2.2.1
theorem e_L_law_245 : decode cL_law 245 = .ok (.iload_n 3, 1) := D_L_law_2.2.2.2.2.2.2.2.2.2.2.2.2.2.2.2.2.2.2.2.2.2.2.2.2.2.1
theorem e_L_law_246 : decode cL_law 246 = .ok (.iconst 2, 1) := D_L_law_2.2.2.2.2.2.2.2.2.2.2.2.2.2.2.2.2.2.2.2.2.2.2.2.2.2.2.1
theorem e_L_law_247 : decode cL_law 247 = .ok (.iadd, 1) := D_L_law_2.2.2.2.2.2.2.2.2.2.2.2.2.2.2.2.2.2.2.2.2.2.2.2.2.2.2.2.1
theorem e_L_law_248 : decode cL_law 248 = .ok (.iaload, 1) := D_L_law_2.2.2.2.2.2.2.2.2.2.2.2.2.2.2.2.2.2.2.2.2.2.2.2.2.2.2.2.2.1
theorem e_L_law_249 : decode cL_law 249 = .ok (.invokevirtual 26, 3) := D_L_law_2.2.2.2.2.2.2.2.2.2.2.2.2.2.2.2.2.2.2.2.2.2.2.2.2.2.2.2.2.2.1
theorem e_L_law_252 : decode cL_law 252 = .ok (.if_icmp .eq 551, 3) := D_L_law_2.2.2.2.2.2.2.2.2.2.2.2.2.2.2.2.2.2.2.2.2.2.2.2.2.2.2.2.2.2.2.1
theorem e_L_law_255 : decode cL_law 255 = .ok (.iconst 0, 1) := D_L_law_2.2.2.2.2.2.2.2.2.2.2.2.2.2.2.2.2.2.2.2.2.2.2.2.2.2.2.2.2.2.2.2.1
theorem e_L_law_256 : decode cL_law 256 = .ok (.ireturn, 1) := D_L_law_2.2.2.2.2.2.2.2.2.2.2.2.2.2.2.2.2.2.2.2.2.2.2.2.2.2.2.2.2.2.2.2.2.1
theorem e_L_law_257 : decode cL_law 257 = .ok (.aload_n 1, 1) := D_L_law_2.2.2.2.2.2.2.2.2.2.2.2.2.2.2.2.2.2.2.2.2.2.2.2.2.2.2.2.2.2.2.2.2.2.1
theorem e_L_law_258 : decode cL_law 258 = .ok (.aload_n 0, 1) := D_L_law_2.2.2.2.2.2.2.2.2.2.2.2.2.2.2.2.2.2.2.2.2.2.2.2.2.2.2.2.2.2.2.2.2.2.2.1
theorem e_L_law_259 : decode cL_law 259 = .ok (.iload_n 3, 1) := D_L_law_2.2.2.2.2.2.2.2.2.2.2.2.2.2.2.2.2.2.2.2.2.2.2.2.2.2.2.2.2.2.2.2.2.2.2.2.1
theorem e_L_law_260 : decode cL_law 260 = .ok (.iconst 1, 1) := D_L_law_2.2.2.2.2.2.2.2.2.2.2.2.2.2.2.2.2.2.2.2.2.2.2.2.2.2.2.2.2.2.2.2.2.2.2.2.2.1
theorem e_L_law_261 : decode cL_law 261 = .ok (.iadd, 1) := D_L_law_2.2.2.2.2.2.2.2.2.2.2.2.2.2.2.2.2.2.2.2.2.2.2.2.2.2.2.2.2.2.2.2.2.2.2.2.2.2.1
theorem e_L_law_262 : decode cL_law 262 = .ok (.iaload, 1) := D_L_law_2.2.2.2.2.2.2.2.2.2.2.2.2.2.2.2.2.2.2.2.2.2.2.2.2.2.2.2.2.2.2.2.2.2.2.2.2.2.2.1
theorem e_L_law_263 : decode cL_law 263 = .ok (.invokevirtual 27, 3) := D_L_law_2.2.2.2.2.2.2.2.2.2.2.2.2.2.2.2.2.2.2.2.2.2.2.2.2.2.2.2.2.2.2.2.2.2.2.2.2.2.2.2.1
set_option maxRecDepth 100000 in
theorem D_L_law_3 : decode cL_law 266 = .ok (.aload_n 2, 1) ∧ decode cL_law 267 = .ok (.aload_n 0, 1) ∧ decode cL_law 268 = .ok (.iload_n 3, 1) ∧ decode cL_law 269 = .ok (.iconst 1, 1) ∧ decode cL_law 270 = .ok (.iadd, 1) ∧ decode cL_law 271 = .ok (.iaload, 1) ∧ decode cL_law 272 = .ok (.invokevirtual 31, 3) ∧ decode cL_law 275 = .ok (.if_icmp .eq 528, 3) ∧ decode cL_law 278 = .ok (.iconst 0, 1) ∧ decode cL_law 279 = .ok (.ireturn, 1) ∧ decode cL_law 280 = .ok (.aload_n 1, 1) ∧ decode cL_law 281 = .ok (.invokevirtual 32, 3) ∧ decode cL_law 284 = .ok (.aload_n 2, 1) ∧ decode cL_law 285 = .ok (.invokevirtual 36, 3) ∧ decode cL_law 288 = .ok (.if_icmp .eq 515, 3) ∧ decode cL_law 291 = .ok (.iconst 0, 1) ∧ decode cL_law 292 = .ok (.ireturn, 1) ∧ decode cL_law 293 = .ok (.aload_n 1, 1) ∧ decode cL_law 294 = .ok (.aload_n 0, 1) ∧ decode cL_law 295 = .ok (.iload_n 3, 1) ∧ decode cL_law 296 = .ok (.iconst 1, 1) ∧ decode cL_law 297 = .ok (.iadd, 1) ∧ decode cL_law 298 = .ok (.iaload, 1) ∧ decode cL_law 299 = .ok (.aload_n 0, 1) ∧ decode cL_law 300 = .ok (.iload_n 3, 1) ∧ decode cL_law 301 = .ok (.iconst 2, 1) ∧ decode cL_law 302 = .ok (.iadd, 1) ∧ decode cL_law 303 = .ok (.iaload, 1) ∧ decode cL_law 304 = .ok (.invokevirtual 37, 3) ∧ decode cL_law 307 = .ok (.aload_n 2, 1) ∧ decode cL_law 308 = .ok (.aload_n 0, 1) ∧ decode cL_law 309 = .ok (.iload_n 3, 1) ∧ decode cL_law 310 = .ok (.iconst 1, 1) ∧ decode cL_law 311 = .ok (.iadd, 1) ∧ decode cL_law 312 = .ok (.iaload, 1) ∧ decode cL_law 313 = .ok (.aload_n 0, 1) ∧ decode cL_law 314 = .ok (.iload_n 3, 1) ∧ decode cL_law 315 = .ok (.iconst 2, 1) ∧ decode cL_law 316 = .ok (.iadd, 1) ∧ decode cL_law 317 = .ok (.iaload, 1) ∧ True := dq_of (l := (266, .aload_n 2, 1) :: (267, .aload_n 0, 1) :: (268, .iload_n 3, 1) :: (269, .iconst 1, 1) :: (270, .iadd, 1) :: (271, .iaload, 1) :: (272, .invokevirtual 31, 3) :: (275, .if_icmp .eq 528, 3) :: (278, .iconst 0, 1) :: (279, .ireturn, 1) :: (280, .aload_n 1, 1) :: (281, .invokevirtual 32, 3) :: (284, .aload_n 2, 1) :: (285, .invokevirtual 36, 3) :: (288, .if_icmp .eq 515, 3) :: (291, .iconst 0, 1) :: (292, .ireturn, 1) :: (293, .aload_n 1, 1) :: (294, .aload_n 0, 1) :: (295, .iload_n 3, 1) :: (296, .iconst 1, 1) :: (297, .iadd, 1) :: (298, .iaload, 1) :: (299, .aload_n 0, 1) :: (300, .iload_n 3, 1) :: (301, .iconst 2, 1) :: (302, .iadd, 1) :: (303, .iaload, 1) :: (304, .invokevirtual 37, 3) :: (307, .aload_n 2, 1) :: (308, .aload_n 0, 1) :: (309, .iload_n 3, 1) :: (310, .iconst 1, 1) :: (311, .iadd, 1) :: (312, .iaload, 1) :: (313, .aload_n 0, 1) :: (314, .iload_n 3, 1) :: (315, .iconst 2, 1) :: (316, .iadd, 1) :: (317, .iaload, 1) :: []) (by decide +kernel)
theorem e_L_law_266 : decode cL_law 266 = .ok (.aload_n 2, 1) := D_L_law_3.1
theorem e_L_law_267 : decode cL_law 267 = .ok (.aload_n 0, 1) := D_L_law_3.2.1
theorem e_L_law_268 : decode cL_law 268 = .ok (.iload_n 3, 1) := D_L_law_3.2.2.1
theorem e_L_law_269 : decode cL_law 269 = .ok (.iconst 1, 1) := D_L_law_3.2.2.2.1
theorem e_L_law_270 : decode cL_law 270 = .ok (.iadd, 1) := D_L_law_3.2.2.2.2.1
theorem e_L_law_271 : decode cL_law 271 = .ok (.iaload, 1) := D_L_law_3.2.2.2.2.2.1
theorem e_L_law_272 : decode cL_law 272 = .ok (.invokevirtual 31, 3) := D_L_law_3.2.2.2.2.2.2.1
theorem e_L_law_275 : decode cL_law 275 = .ok (.if_icmp .eq 528, 3) := D_L_law_3.2.2.2.2.2.2.2.1
theorem e_L_law_278 : decode cL_law 278 = .ok (.iconst 0, 1) := D_L_law_3.2.2.2.2.2.2.2.2.1
theorem e_L_law_279 : decode cL_law 279 = .ok (.ireturn, 1) := D_L_law_3.2.2.2.2.2.2.2.2.2.1
theorem e_L_law_280 : decode cL_law 280 = .ok (.aload_n 1, 1) := D_L_law_3.2.2.2.2.2.2.2.2.2.2.1
theorem e_L_law_281 : decode cL_law 281 = .ok (.invokevirtual 32, 3) := D_L_law_3.2.2.2.2.2.2.2.2.2.2.2.1
theorem e_L_law_284 : decode cL_law 284 = .ok (.aload_n 2, 1) := D_L_law_3.2.2.2.2.2.2.2.2.2.2.2.2.1
theorem e_L_law_285 : decode cL_law 285 = .ok (.invokevirtual 36, 3) := D_L_law_3.2.2.2.2.2.2.2.2.2.2.2.2.2.1
theorem e_L_law_288 : decode cL_law 288 = .ok (.if_icmp .eq 515, 3) := D_L_law_3.2.2.2.2.2.2.2.2.2.2.2.2.2.2.1
theorem e_L_law_291 : decode cL_law 291 = .ok (.iconst 0, 1) := D_L_law_3.2.2.2.2.2.2.2.2.2.2.2.2.2.2.2.1
theorem e_L_law_292 : decode cL_law 292 = .ok (.ireturn, 1) := D_L_law_3.2.2.2.2.2.2.2.2.2.2.2.2.2.2.2.2.1
theorem e_L_law_293 : decode cL_law 293 = .ok (.aload_n 1, 1) := D_L_law_3.2.2.2.2.2.2.2.2.2.2.2.2.2.2.2.2.2.1
theorem e_L_law_294 : decode cL_law 294 = .ok (.aload_n 0, 1) := D_L_law_3.2.2.2.2.2.2.2.2.2.2.2.2.2.2.2.2.2.2.1
theorem e_L_law_295 : decode cL_law 295 = .ok (.iload_n 3, 1) := D_L_law_3.2.2.2.2.2.2.2.2.2.2.2.2.2.2.2.2.2.2.2.1
theorem e_L_law_296 : decode cL_law 296 = .ok (.iconst 1, 1) := D_L_law_3.2.2.2.2.2.2.2.2.2.2.2.2.2.2.2.2.2.2.2.2.1
theorem e_L_law_297 : decode cL_law 297 = .ok (.iadd, 1) := D_L_law_3.2.2.2.2.2.2.2.2.2.2.2.2.2.2.2.2.2.2.2.2.2.1
theorem e_L_law_298 : decode cL_law 298 = .ok (.iaload, 1) := D_L_law_3.2.2.2.2.2.2.2.2.2.2.2.2.2.2.2.2.2.2.2.2.2.2.1
theorem e_L_law_299 : decode cL_law 299 = .ok (.aload_n 0, 1) := D_L_law_3.2.2.2.2.2.2.2.2.2.2.2.2.2.2.2.2.2.2.2.2.2.2.2.1
theorem e_L_law_300 : decode cL_law 300 = .ok (.iload_n 3, 1) := D_L_law_3.2.2.2.2.2.2.2.2.2.2.2.2.2.2.2.2.2.2.2.2.2.2.2.2.1
theorem e_L_law_301 : decode cL_law 301 = .ok (.iconst 2, 1) := D_L_law_3.2.2.2.2.2.2.2.2.2.2.2.2.2.2.2.2.2.2.2.2.2.2.2.2.2.1
theorem e_L_law_302 : decode cL_law 302 = .ok (.iadd, 1) := D_L_law_3.2.2.2.2.2.2.2.2.2.2.2.2.2.2.2.2.2.2.2.2.2.2.2.2.2.2.1
theorem e_L_law_303 : decode cL_law 303 = .ok (.iaload, 1) := D_L_law_3.2.2.2.2.2.2.2.2.2.2.2.2.2.2.2.2.2.2.2.2.2.2.2.2.2.2.2.1
theorem e_L_law_304 : decode cL_law 304 = .ok (.invokevirtual 37, 3) := D_L_law_3.2.2.2.2.2.2.2.2.2.2.2.2.2.2.2.2.2.2.2.2.2.2.2.2.2.2.2.2.1
theorem e_L_law_307 : decode cL_law 307 = .ok (.aload_n 2, 1) := D_L_law_3.2.2.2.2.2.2.2.2.2.2.2.2.2.2.2.2.2.2.2.2.2.2.2.2.2.2.2.2.2.1
theorem e_L_law_308 : decode cL_law 308 = .ok (.aload_n 0, 1) := D_L_law_3.2.2.2.2.2.2.2.2.2.2.2.2.2.2.2.2.2.2.2.2.2.2.2.2.2.2.2.2.2.2.1
theorem e_L_law_309 : decode cL_law 309 = .ok (.iload_n 3, 1) := D_L_law_3.2.2.2.2.2.2.2.2.2.2.2.2.2.2.2.2.2.2.2.2.2.2.2.2.2.2.2.2.2.2.2.1
theorem e_L_law_310 : decode cL_law 310 = .ok (.iconst 1, 1) := D_L_law_3.2.2.2.2.2.2.2.2.2.2.2.2.2.2.2.2.2.2.2.2.2.2.2.2.2.2.2.2.2.2.2.2.1
theorem e_L_law_311 : decode cL_law 311 = .ok (.iadd, 1) := D_L_law_3.2.2.2.2.2.2.2.2.2.2.2.2.2.2.2.2.2.2.2.2.2.2.2.2.2.2.2.2.2.2.2.2.2.1
theorem e_L_law_312 : decode cL_law 312 = .ok (.iaload, 1) := D_L_law_3.2.2.2.2.2.2.2.2.2.2.2.2.2.2.2.2.2.2.2.2.2.2.2.2.2.2.2.2.2.2.2.2.2.2.1
theorem e_L_law_313 : decode cL_law 313 = .ok (.aload_n 0, 1) := D_L_law_3.2.2.2.2.2.2.2.2.2.2.2.2.2.2.2.2.2.2.2.2.2.2.2.2.2.2.2.2.2.2.2.2.2.2.2.1
theorem e_L_law_314 : decode cL_law 314 = .ok (.iload_n 3, 1) := D_L_law_3.2.2.2.2.2.2.2.2.2.2.2.2.2.2.2.2.2.2.2.2.2.2.2.2.2.2.2.2.2.2.2.2.2.2.2.2.1
theorem e_L_law_315 : decode cL_law 315 = .ok (.iconst 2, 1) := D_L_law_3.2.2.2.2.2.2.2.2.2.2.2.2.2.2.2.2.2.2.2.2.2.2.2.2.2.2.2.2.2.2.2.2.2.2.2.2.2.1
theorem e_L_law_316 : decode cL_law 316 = .ok (.iadd, 1) := D_L_law_3.2.2.2.2.2.2.2.2.2.2.2.2.2.2.2.2.2.2.2.2.2.2.2.2.2.2.2.2.2.2.2.2.2.2.2.2.2.2.1
theorem e_L_law_317 : decode cL_law 317 = .ok (.iaload, 1) := D_L_law_3.2.2.2.2.2.2.2.2.2.2.2.2.2.2.2.2.2.2.2.2.2.2.2.2.2.2.2.2.2.2.2.2.2.2.2.2.2.2.2.1
set_option maxRecDepth 100000 in
theorem D_L_law_4 : decode cL_law 318 = .ok (.invokevirtual 40, 3) ∧ decode cL_law 321 = .ok (.if_icmp .eq 482, 3) ∧ decode cL_law 324 = .ok (.iconst 0, 1) ∧ decode cL_law 325 = .ok (.ireturn, 1) ∧ decode cL_law 326 = .ok (.aload_n 1, 1) ∧ decode cL_law 327 = .ok (.aload_n 0, 1) ∧ decode cL_law 328 = .ok (.iload_n 3, 1) ∧ decode cL_law 329 = .ok (.iconst 1, 1) ∧ decode cL_law 330 = .ok (.iadd, 1) ∧ decode cL_law 331 = .ok (.iaload, 1) ∧ decode cL_law 332 = .ok (.aload_n 0, 1) ∧ decode cL_law 333 = .ok (.iload_n 3, 1) ∧ decode cL_law 334 = .ok (.iconst 2, 1) ∧ decode cL_law 335 = .ok (.iadd, 1) ∧ decode cL_law 336 = .ok (.iaload, 1) ∧ decode cL_law 337 = .ok (.aload_n 0, 1) ∧ decode cL_law 338 = .ok (.iload_n 3, 1) ∧ decode cL_law 339 = .ok (.iconst 3, 1) ∧ decode cL_law 340 = .ok (.iadd, 1) ∧ decode cL_law 341 = .ok (.iaload, 1) ∧ decode cL_law 342 = .ok (.aload_n 0, 1) ∧ decode cL_law 343 = .ok (.iload_n 3, 1) ∧ decode cL_law 344 = .ok (.iconst 4, 1) ∧ decode cL_law 345 = .ok (.iadd, 1) ∧ decode cL_law 346 = .ok (.iaload, 1) ∧ decode cL_law 347 = .ok (.aload_n 0, 1) ∧ decode cL_law 348 = .ok (.iload_n 3, 1) ∧ decode cL_law 349 = .ok (.iconst 5, 1) ∧ decode cL_law 350 = .ok (.iadd, 1) ∧ decode cL_law 351 = .ok (.iaload, 1) ∧ decode cL_law 352 = .ok (.invokevirtual 41, 3) ∧ decode cL_law 355 = .ok (.aload_n 2, 1) ∧ decode cL_law 356 = .ok (.aload_n 0, 1) ∧ decode cL_law 357 = .ok (.iload_n 3, 1) ∧ decode cL_law 358 = .ok (.iconst 1, 1) ∧ decode cL_law 359 = .ok (.iadd, 1) ∧ decode cL_law 360 = .ok (.iaload, 1) ∧ decode cL_law 361 = .ok (.aload_n 0, 1) ∧ decode cL_law 362 = .ok (.iload_n 3, 1) ∧ decode cL_law 363 = .ok (.iconst 2, 1) ∧ True := dq_of (l := (318, .invokevirtual 40, 3) :: (321, .if_icmp .eq 482, 3) :: (324, .iconst 0, 1) :: (325, .ireturn, 1) :: (326, .aload_n 1, 1) :: (327, .aload_n 0, 1) :: (328, .iload_n 3, 1) :: (329, .iconst 1, 1) :: (330, .iadd, 1) :: (331, .iaload, 1) :: (332, .aload_n 0, 1) :: (333, .iload_n 3, 1) :: (334, .iconst 2, 1) :: (335, .iadd, 1) :: (336, .iaload, 1) :: (337, .aload_n 0, 1) :: (338, .iload_n 3, 1) :: (339, .iconst 3, 1) :: (340, .iadd, 1) :: (341, .iaload, 1) :: (342, .aload_n 0, 1) :: (343, .iload_n 3, 1) :: (344, .iconst 4, 1) :: (345, .iadd, 1) :: (346, .iaload, 1) :: (347, .aload_n 0, 1) :: (348, .iload_n 3, 1) :: (349, .iconst 5, 1) :: (350, .iadd, 1) :: (351, .iaload, 1) :: (352, .invokevirtual 41, 3) :: (355, .aload_n 2, 1) :: (356, .aload_n 0, 1) :: (357, .iload_n 3, 1) :: (358, .iconst 1, 1) :: (359, .iadd, 1) :: (360, .iaload, 1) :: (361, .aload_n 0, 1) :: (362, .iload_n 3, 1) :: (363, .iconst 2, 1) :: []) (by decide +kernel)
theorem e_L_law_318 : decode cL_law 318 = .ok (.invokevirtual 40, 3) := D_L_law_4.1
theorem e_L_law_321 : decode cL_law 321 = .ok (.if_icmp .eq 482, 3) := D_L_law_4.2.1
theorem e_L_law_324 : decode cL_law 324 = .ok (.iconst 0, 1) := D_L_law_4.2.2.1
theorem e_L_law_325 : decode cL_law 325 = .ok (.ireturn, 1) := D_L_law_4.2.2.2.1
theorem e_L_law_326 : decode cL_law 326 = .ok (.aload_n 1, 1) := D_L_law_4.2.2.2.2.1
theorem e_L_law_327 : decode cL_law 327 = .ok (.aload_n 0, 1) := D_L_law_4.2.2.2.2.2.1
theorem e_L_law_328 : decode cL_law 328 = .ok (.iload_n 3, 1) := D_L_law_4.2.2.2.2.2.2.1
theorem e_L_law_329 : decode cL_law 329 = .ok (.iconst 1, 1) := D_L_law_4.2.2.2.2.2.2.2.1
theorem e_L_law_330 : decode cL_law 330 = .ok (.iadd, 1) := D_L_law_4.2.2.2.2.2.2.2.2.1
theorem e_L_law_331 : decode cL_law 331 = .ok (.iaload, 1) := D_L_law_4.2.2.2.2.2.2.2.2.2.1
theorem e_L_law_332 : decode cL_law 332 = .ok (.aload_n 0, 1) := D_L_law_4.2.2.2.2.2.2.2.2.2.2.1
theorem e_L_law_333 : decode cL_law 333 = .ok (.iload_n 3, 1) := D_L_law_4.2.2.2.2.2.2.2.2.2.2.2.1
theorem e_L_law_334 : decode cL_law 334 = .ok (.iconst 2, 1) := D_L_law_4.2.2.2.2.2.2.2.2.2.2.2.2.1
theorem e_L_law_335 : decode cL_law 335 = .ok (.iadd, 1) := D_L_law_4.2.2.2.2.2.2.2.2.2.2.2.2.2.1
theorem e_L_law_336 : decode cL_law 336 = .ok (.iaload, 1) := D_L_law_4.2.2.2.2.2.2.2.2.2.2.2.2.2.2.1
theorem e_L_law_337 : decode cL_law 337 = .ok (.aload_n 0, 1) := D_L_law_4.2.2.2.2.2.2.2.2.2.2.2.2.2.2.2.1
theorem e_L_law_338 : decode cL_law 338 = .ok (.iload_n 3, 1) := D_L_law_4.2.2.2.2.2.2.2.2.2.2.2.2.2.2.2.2.1
theorem e_L_law_339 : decode cL_law 339 = .ok (.iconst 3, 1) := D_L_law_4.2.2.2.2.2.2.2.2.2.2.2.2.2.2.2.2.2.1
theorem e_L_law_340 : decode cL_law 340 = .ok (.iadd, 1) := D_L_law_4.2.2.2.2.2.2.2.2.2.2.2.2.2.2.2.2.2.2.1
theorem e_L_law_341 : decode cL_law 341 = .ok (.iaload, 1) := D_L_law_4.2.2.2.2.2.2.2.2.2.2.2.2.2.2.2.2.2.2.2.1
theorem e_L_law_342 : decode cL_law 342 = .ok (.aload_n 0, 1) := D_L_law_4.2.2.2.2.2.2.2.2.2.2.2.2.2.2.2.2.2.2.2.2.1
theorem e_L_law_343 : decode cL_law 343 = .ok (.iload_n 3, 1) := D_L_law_4.2.2.2.2.2.2.2.2.2.2.2.2.2.2.2.2.2.2.2.2.2.1
theorem e_L_law_344 : decode cL_law 344 = .ok (.iconst 4, 1) := D_L_law_4.2.2.2.2.2.2.2.2.2.2.2.2.2.2.2.2.2.2.2.2.2.2.1
theorem e_L_law_345 : decode cL_law 345 = .ok (.iadd, 1) := D_L_law_4.2.2.2.2.2.2.2.2.2.2.2.2.2.2.2.2.2.2.2.2.2.2.2.1
theorem e_L_law_346 : decode cL_law 346 = .ok (.iaload, 1) := D_L_law_4.2.2.2.2.2.2.2.2.2.2.2.2.2.2.2.2.2.2.2.2.2.2.2.2.1
theorem e_L_law_347 : decode cL_law 347 = .ok (.aload_n 0, 1) := D_L_law_4.2.2.2.2.2.2.2.2.2.2.2.2.2.2.2.2.2.2.2.2.2.2.2.2.2.1
theorem e_L_law_348 : decode cL_law 348 = .ok (.iload_n 3, 1) := D_L_law_4.2.2.2.2.2.2.2.2.2.2.2.2.2.2.2.2.2.2.2.2.2.2.2.2.2.2.1
theorem e_L_law_349 : decode cL_law 349 = .ok (.iconst 5, 1) := D_L_law_4.2.2.2.2.2.2.2.2.2.2.2.2.2.2.2.2.2.2.2.2.2.2.2.2.2.2.2.1
theorem e_L_law_350 : decode cL_law 350 = .ok (.iadd, 1) := D_L_law_4.2.2.2.2.2.2.2.2.2.2.2.2.2.2.2.2.2.2.2.2.2.2.2.2.2.2.2.2.1
theorem e_L_law_351 : decode cL_law 351 = .ok (.iaload, 1) := D_L_law_4.2.2.2.2.2.2.2.2.2.2.2.2.2.2.2.2.2.2.2.2.2.2.2.2.2.2.2.2.2.1
theorem e_L_law_352 : decode cL_law 352 = .ok (.invokevirtual 41, 3) := D_L_law_4.2.2.2.2.2.2.2.2.2.2.2.2.2.2.2.2.2.2.2.2.2.2.2.2.2.2.2.2.2.2.1
theorem e_L_law_355 : decode cL_law 355 = .ok (.aload_n 2, 1) := D_L_law_4.2.2.2.2.2.2.2.2.2.2.2.2.2.2.2.2.2.2.2.2.2.2.2.2.2.2.2.2.2.2.2.1
theorem e_L_law_356 : decode cL_law 356 = .ok (.aload_n 0, 1) := D_L_law_4.2.2.2.2.2.2.2.2.2.2.2.2.2.2.2.2.2.2.2.2.2.2.2.2.2.2.2.2.2.2.2.2.1
theorem e_L_law_357 : decode cL_law 357 = .ok (.iload_n 3, 1) := D_L_law_4.2.2.2.2.2.2.2.2.2.2.2.2.2.2.2.2.2.2.2.2.2.2.2.2.2.2.2.2.2.2.2.2.2.1
theorem e_L_law_358 : decode cL_law 358 = .ok (.iconst 1, 1) := D_L_law_4.2.2.2.2.2.2.2.2.2.2.2.2.2.2.2.2.2.2.2.2.2.2.2.2.2.2.2.2.2.2.2.2.2.2.1
theorem e_L_law_359 : decode cL_law 359 = .ok (.iadd, 1) := D_L_law_4.2.2.2.2.2.2.2.2.2.2.2.2.2.2.2.2.2.2.2.2.2.2.2.2.2.2.2.2.2.2.2.2.2.2.2.1
theorem e_L_law_360 : decode cL_law 360 = .ok (.iaload, 1) := D_L_law_4.2.2.2.2.2.2.2.2.2.2.2.2.2.2.2.2.2.2.2.2.2.2.2.2.2.2.2.2.2.2.2.2.2.2.2.2.1
theorem e_L_law_361 : decode cL_law 361 = .ok (.aload_n 0, 1) := D_L_law_4.2.2.2.2.2.2.2.2.2.2.2.2.2.2.2.2.2.2.2.2.2.2.2.2.2.2.2.2.2.2.2.2.2.2.2.2.2.1
theorem e_L_law_362 : decode cL_law 362 = .ok (.iload_n 3, 1) := D_L_law_4.2.2.2.2.2.2.2.2.2.2.2.2.2.2.2.2.2.2.2.2.2.2.2.2.2.2.2.2.2.2.2.2.2.2.2.2.2.2.1
theorem e_L_law_363 : decode cL_law 363 = .ok (.iconst 2, 1) := D_L_law_4.2.2.2.2.2.2.2.2.2.2.2.2.2.2.2.2.2.2.2.2.2.2.2.2.2.2.2.2.2.2.2.2.2.2.2.2.2.2.2.1
set_option maxRecDepth 100000 in
theorem D_L_law_5 : decode cL_law 364 = .ok (.iadd, 1) ∧ decode cL_law 365 = .ok (.iaload, 1) ∧ decode cL_law 366 = .ok (.aload_n 0, 1) ∧ decode cL_law 367 = .ok (.iload_n 3, 1) ∧ decode cL_law 368 = .ok (.iconst 3, 1) ∧ decode cL_law 369 = .ok (.iadd, 1) ∧ decode cL_law 370 = .ok (.iaload, 1) ∧ decode cL_law 371 = .ok (.aload_n 0, 1) ∧ decode cL_law 372 = .ok (.iload_n 3, 1) ∧ decode cL_law 373 = .ok (.iconst 4, 1) ∧ decode cL_law 374 = .ok (.iadd, 1) ∧ decode cL_law 375 = .ok (.iaload, 1) ∧ decode cL_law 376 = .ok (.aload_n 0, 1) ∧ decode cL_law 377 = .ok (.iload_n 3, 1) ∧ decode cL_law 378 = .ok (.iconst 5, 1) ∧ decode cL_law 379 = .ok (.iadd, 1) ∧ decode cL_law 380 = .ok (.iaload, 1) ∧ decode cL_law 381 = .ok (.invokevirtual 45, 3) ∧ decode cL_law 384 = .ok (.if_icmp .eq 419, 3) ∧ decode cL_law 387 = .ok (.iconst 0, 1) ∧ decode cL_law 388 = .ok (.ireturn, 1) ∧ decode cL_law 389 = .ok (.aload_n 1, 1) ∧ decode cL_law 390 = .ok (.invokevirtual 46, 3) ∧ decode cL_law 393 = .ok (.aload_n 2, 1) ∧ decode cL_law 394 = .ok (.invokevirtual 49, 3) ∧ decode cL_law 397 = .ok (.if_icmp .eq 406, 3) ∧ decode cL_law 400 = .ok (.iconst 0, 1) ∧ decode cL_law 401 = .ok (.ireturn, 1) ∧ decode cL_law 402 = .ok (.aload_n 1, 1) ∧ decode cL_law 403 = .ok (.aload_n 0, 1) ∧ decode cL_law 404 = .ok (.iload_n 3, 1) ∧ decode cL_law 405 = .ok (.iconst 1, 1) ∧ decode cL_law 406 = .ok (.iadd, 1) ∧ decode cL_law 407 = .ok (.iaload, 1) ∧ decode cL_law 408 = .ok (.aload_n 0, 1) ∧ decode cL_law 409 = .ok (.iload_n 3, 1) ∧ decode cL_law 410 = .ok (.iconst 2, 1) ∧ decode cL_law 411 = .ok (.iadd, 1) ∧ decode cL_law 412 = .ok (.iaload, 1) ∧ decode cL_law 413 = .ok (.invokevirtual 50, 3) ∧ True := dq_of (l := (364, .iadd, 1) :: (365, .iaload, 1) :: (366, .aload_n 0, 1) :: (367, .iload_n 3, 1) :: (368, .iconst 3, 1) :: (369, .iadd, 1) :: (370, .iaload, 1) :: (371, .aload_n 0, 1) :: (372, .iload_n 3, 1) :: (373, .iconst 4, 1) :: (374, .iadd, 1) :: (375, .iaload, 1) :: (376, .aload_n 0, 1) :: (377, .iload_n 3, 1) :: (378, .iconst 5, 1) :: (379, .iadd, 1) :: (380, .iaload, 1) :: (381, .invokevirtual 45, 3) :: (384, .if_icmp .eq 419, 3) :: (387, .iconst 0, 1) :: (388, .ireturn, 1) :: (389, .aload_n 1, 1) :: (390, .invokevirtual 46, 3) :: (393, .aload_n 2, 1) :: (394, .invokevirtual 49, 3) :: (397, .if_icmp .eq 406, 3) :: (400, .iconst 0, 1) :: (401, .ireturn, 1) :: (402, .aload_n 1, 1) :: (403, .aload_n 0, 1) :: (404, .iload_n 3, 1) :: (405, .iconst 1, 1) :: (406, .iadd, 1) :: (407, .iaload, 1) :: (408, .aload_n 0, 1) :: (409, .iload_n 3, 1) :: (410, .iconst 2, 1) :: (411, .iadd, 1) :: (412, .iaload, 1) :: (413, .invokevirtual 50, 3) :: []) (by decide +kernel)
theorem e_L_law_364 : decode cL_law 364 = .ok (.iadd, 1) := D_L_law_5.1
theorem e_L_law_365 : decode cL_law 365 = .ok (.iaload, 1) := D_L_law_5.2.1
theorem e_L_law_366 : decode cL_law 366 = .ok (.aload_n 0, 1) := D_L_law_5.2.2.1
theorem e_L_law_367 : decode cL_law 367 = .ok (.iload_n 3, 1) := D_L_law_5.2.2.2.1
theorem e_L_law_368 : decode cL_law 368 = .ok (.iconst 3, 1) := D_L_law_5.2.2.2.2.1
theorem e_L_law_369 : decode cL_law 369 = .ok (.iadd, 1) := D_L_law_5.2.2.2.2.2.1
theorem e_L_law_370 : decode cL_law 370 = .ok (.iaload, 1) := D_L_law_5.2.2.2.2.2.2.1
theorem e_L_law_371 : decode cL_law 371 = .ok (.aload_n 0, 1) := D_L_law_5.2.2.2.2.2.2.2.1
theorem e_L_law_372 : decode cL_law 372 = .ok (.iload_n 3, 1) := D_L_law_5.2.2.2.2.2.2.2.2.1
theorem e_L_law_373 : decode cL_law 373 = .ok (.iconst 4, 1) := D_L_law_5.2.2.2.2.2.2.2.2.2.1
theorem e_L_law_374 : decode cL_law 374 = .ok (.iadd, 1) := D_L_law_5.2.2.2.2.2.2.2.2.2.2.1
theorem e_L_law_375 : decode cL_law 375 = .ok (.iaload, 1) := D_L_law_5.2.2.2.2.2.2.2.2.2.2.2.1
theorem e_L_law_376 : decode cL_law 376 = .ok (.aload_n 0, 1) := D_L_law_5.2.2.2.2.2.2.2.2.2.2.2.2.1
theorem e_L_law_377 : decode cL_law 377 = .ok (.iload_n 3, 1) := D_L_law_5.2.2.2.2.2.2.2.2.2.2.2.2.2.1
theorem e_L_law_378 : decode cL_law 378 = .ok (.iconst 5, 1) := D_L_law_5.2.2.2.2.2.2.2.2.2.2.2.2.2.2.1
theorem e_L_law_379 : decode cL_law 379 = .ok (.iadd, 1) := D_L_law_5.2.2.2.2.2.2.2.2.2.2.2.2.2.2.2.1
theorem e_L_law_380 : decode cL_law 380 = .ok (.iaload, 1) := D_L_law_5.2.2.2.2.2.2.2.2.2.2.2.2.2.2.2.2.1
theorem e_L_law_381 : decode cL_law 381 = .ok (.invokevirtual 45, 3) := D_L_law_5.2.2.2.2.2.2.2.2.2.2.2.2.2.2.2.2.2.1
theorem e_L_law_384 : decode cL_law 384 = .ok (.if_icmp .eq 419, 3) := D_L_law_5.2.2.2.2.2.2.2.2.2.2.2.2.2.2.2.2.2.2.1
theorem e_L_law_387 : decode cL_law 387 = .ok (.iconst 0, 1) := D_L_law_5.2.2.2.2.2.2.2.2.2.2.2.2.2.2.2.2.2.2.2.1
theorem e_L_law_388 : decode cL_law 388 = .ok (.ireturn, 1) := D_L_law_5.2.2.2.2.2.2.2.2.2.2.2.2.2.2.2.2.2.2.2.2.1
theorem e_L_law_389 : decode cL_law 389 = .ok (.aload_n 1, 1) := D_L_law_5.2.2.2.2.2.2.2.2.2.2.2.2.2.2.2.2.2.2.2.2.2.1
theorem e_L_law_390 : decode cL_law 390 = .ok (.invokevirtual 46, 3) := D_L_law_5.2.2.2.2.2.2.2.2.2.2.2.2.2.2.2.2.2.2.2.2.2.2.1
theorem e_L_law_393 : decode cL_law 393 = .ok (.aload_n 2, 1) := D_L_law_5.2.2.2.2.2.2.2.2.2.2.2.2.2.2.2.2.2.2.2.2.2.2.2.1
theorem e_L_law_394 : decode cL_law 394 = .ok (.invokevirtual 49, 3) := D_L_law_5.2.2.2.2.2.2.2.2.2.2.2.2.2.2.2.2.2.2.2.2.2.2.2.2.1
theorem e_L_law_397 : decode cL_law 397 = .ok (.if_icmp .eq 406, 3) := D_L_law_5.2.2.2.2.2.2.2.2.2.2.2.2.2.2.2.2.2.2.2.2.2.2.2.2.2.1
theorem e_L_law_400 : decode cL_law 400 = .ok (.iconst 0, 1) := D_L_law_5.2.2.2.2.2.2.2.2.2.2.2.2.2.2.2.2.2.2.2.2.2.2.2.2.2.2.1
theorem e_L_law_401 : decode cL_law 401 = .ok (.ireturn, 1) := D_L_law_5.2.2.2.2.2.2.2.2.2.2.2.2.2.2.2.2.2.2.2.2.2.2.2.2.2.2.2.1
theorem e_L_law_402 : decode cL_law 402 = .ok (.aload_n 1, 1) := D_L_law_5.2.2.2.2.2.2.2.2.2.2.2.2.2.2.2.2.2.2.2.2.2.2.2.2.2.2.2.2.1
theorem e_L_law_403 : decode cL_law 403 = .ok (.aload_n 0, 1) := D_L_law_5.2.2.2.2.2.2.2.2.2.2.2.2.2.2.2.2.2.2.2.2.2.2.2.2.2.2.2.2.2.1
theorem e_L_law_404 : decode cL_law 404 = .ok (.iload_n 3, 1) := D_L_law_5.2.2.2.2.2.2.2.2.2.2.2.2.2.2.2.2.2.2.2.2.2.2.2.2.2.2.2.2.2.2.1
theorem e_L_law_405 : decode cL_law 405 = .ok (.iconst 1, 1) := D_L_law_5.2.2.2.2.2.2.2.2.2.2.2.2.2.2.2.2.2.2.2.2.2.2.2.2.2.2.2.2.2.2.2.1
theorem e_L_law_406 : decode cL_law 406 = .ok (.iadd, 1) := D_L_law_5.2.2.2.2.2.2.2.2.2.2.2.2.2.2.2.2.2.2.2.2.2.2.2.2.2.2.2.2.2.2.2.2.1
theorem e_L_law_407 : decode cL_law 407 = .ok (.iaload, 1) := D_L_law_5.2.2.2.2.2.2.2.2.2.2.2.2.2.2.2.2.2.2.2.2.2.2.2.2.2.2.2.2.2.2.2.2.2.1
theorem e_L_law_408 : decode cL_law 408 = .ok (.aload_n 0, 1) := D_L_law_5.2.2.2.2.2.2.2.2.2.2.2.2.2.2.2.2.2.2.2.2.2.2.2.2.2.2.2.2.2.2.2.2.2.2.1
theorem e_L_law_409 : decode cL_law 409 = .ok (.iload_n 3, 1) := D_L_law_5.2.2.2.2.2.2.2.2.2.2.2.2.2.2.2.2.2.2.2.2.2.2.2.2.2.2.2.2.2.2.2.2.2.2.2.1
theorem e_L_law_410 : decode cL_law 410 = .ok (.iconst 2, 1) := D_L_law_5.2.2.2.2.2.2.2.2.2.2.2.2.2.2.2.2.2.2.2.2.2.2.2.2.2.2.2.2.2.2.2.2.2.2.2.2.1
theorem e_L_law_411 : decode cL_law 411 = .ok (.iadd, 1) := D_L_law_5.2.2.2.2.2.2.2.2.2.2.2.2.2.2.2.2.2.2.2.2.2.2.2.2.2.2.2.2.2.2.2.2.2.2.2.2.2.1
theorem e_L_law_412 : decode cL_law 412 = .ok (.iaload, 1) := D_L_law_5.2.2.2.2.2.2.2.2.2.2.2.2.2.2.2.2.2.2.2.2.2.2.2.2.2.2.2.2.2.2.2.2.2.2.2.2.2.2.1
theorem e_L_law_413 : decode cL_law 413 = .ok (.invokevirtual 50, 3) := D_L_law_5.2.2.2.2.2.2.2.2.2.2.2.2.2.2.2.2.2.2.2.2.2.2.2.2.2.2.2.2.2.2.2.2.2.2.2.2.2.2.2.1
set_option maxRecDepth 100000 in
theorem D_L_law_6 : decode cL_law 416 = .ok (.aload_n 2, 1) ∧ decode cL_law 417 = .ok (.aload_n 0, 1) ∧ decode cL_law 418 = .ok (.iload_n 3, 1) ∧ decode cL_law 419 = .ok (.iconst 1, 1) ∧ decode cL_law 420 = .ok (.iadd, 1) ∧ decode cL_law 421 = .ok (.iaload, 1) ∧ decode cL_law 422 = .ok (.aload_n 0, 1) ∧ decode cL_law 423 = .ok (.iload_n 3, 1) ∧ decode cL_law 424 = .ok (.iconst 2, 1) ∧ decode cL_law 425 = .ok (.iadd, 1) ∧ decode cL_law 426 = .ok (.iaload, 1) ∧ decode cL_law 427 = .ok (.invokevirtual 53, 3) ∧ decode cL_law 430 = .ok (.if_icmp .eq 373, 3) ∧ decode cL_law 433 = .ok (.iconst 0, 1) ∧ decode cL_law 434 = .ok (.ireturn, 1) ∧ decode cL_law 435 = .ok (.aload_n 1, 1) ∧ decode cL_law 436 = .ok (.aload_n 0, 1) ∧ decode cL_law 437 = .ok (.iload_n 3, 1) ∧ decode cL_law 438 = .ok (.iconst 1, 1) ∧ decode cL_law 439 = .ok (.iadd, 1) ∧ decode cL_law 440 = .ok (.iaload, 1) ∧ decode cL_law 441 = .ok (.invokevirtual 54, 3) ∧ decode cL_law 444 = .ok (.aload_n 2, 1) ∧ decode cL_law 445 = .ok (.aload_n 0, 1) ∧ decode cL_law 446 = .ok (.iload_n 3, 1) ∧ decode cL_law 447 = .ok (.iconst 1, 1) ∧ decode cL_law 448 = .ok (.iadd, 1) ∧ decode cL_law 449 = .ok (.iaload, 1) ∧ decode cL_law 450 = .ok (.invokevirtual 57, 3) ∧ decode cL_law 453 = .ok (.if_icmp .eq 350, 3) ∧ decode cL_law 456 = .ok (.iconst 0, 1) ∧ decode cL_law 457 = .ok (.ireturn, 1) ∧ decode cL_law 458 = .ok (.aload_n 1, 1) ∧ decode cL_law 459 = .ok (.aload_n 0, 1) ∧ decode cL_law 460 = .ok (.iload_n 3, 1) ∧ decode cL_law 461 = .ok (.iconst 1, 1) ∧ decode cL_law 462 = .ok (.iadd, 1) ∧ decode cL_law 463 = .ok (.iaload, 1) ∧ decode cL_law 464 = .ok (.aload_n 0, 1) ∧ decode cL_law 465 = .ok (.iload_n 3, 1) ∧ True := dq_of (l := (416, .aload_n 2, 1) :: (417, .aload_n 0, 1) :: (418, .iload_n 3, 1) :: (419, .iconst 1, 1) :: (420, .iadd, 1) :: (421, .iaload, 1) :: (422, .aload_n 0, 1) :: (423, .iload_n 3, 1) :: (424, .iconst 2, 1) :: (425, .iadd, 1) :: (426, .iaload, 1) :: (427, .invokevirtual 53, 3) :: (430, .if_icmp .eq 373, 3) :: (433, .iconst 0, 1) :: (434, .ireturn, 1) :: (435, .aload_n 1, 1) :: (436, .aload_n 0, 1) :: (437, .iload_n 3, 1) :: (438, .iconst 1, 1) :: (439, .iadd, 1) :: (440, .iaload, 1) :: (441, .invokevirtual 54, 3) :: (444, .aload_n 2, 1) :: (445, .aload_n 0, 1) :: (446, .iload_n 3, 1) :: (447, .iconst 1, 1) :: (448, .iadd, 1) :: (449, .iaload, 1) :: (450, .invokevirtual 57, 3) :: (453, .if_icmp .eq 350, 3) :: (456, .iconst 0, 1) :: (457, .ireturn, 1) :: (458, .aload_n 1, 1) :: (459, .aload_n 0, 1) :: (460, .iload_n 3, 1) :: (461, .iconst 1, 1) :: (462, .iadd, 1) :: (463, .iaload, 1) :: (464, .aload_n 0, 1) :: (465, .iload_n 3, 1) :: []) (by decide +kernel)
theorem e_L_law_416 : decode cL_law 416 = .ok (.aload_n 2, 1) := D_L_law_6.1
theorem e_L_law_417 : decode cL_law 417 = .ok (.aload_n 0, 1) := D_L_law_6.2.1
theorem e_L_law_418 : decode cL_law 418 = .ok (.iload_n 3, 1) := D_L_law_6.2.2.1
theorem e_L_law_419 : decode cL_law 419 = .ok (.iconst 1, 1) := D_L_law_6.2.2.2.1
theorem e_L_law_420 : decode cL_law 420 = .ok (.iadd, 1) := D_L_law_6.2.2.2.2.1
theorem e_L_law_421 : decode cL_law 421 = .ok (.iaload, 1) := D_L_law_6.2.2.2.2.2.1
theorem e_L_law_422 : decode cL_law 422 = .ok (.aload_n 0, 1) := D_L_law_6.2.2.2.2.2.2.1
theorem e_L_law_423 : decode cL_law 423 = .ok (.iload_n 3, 1) := D_L_law_6.2.2.2.2.2.2.2.1
theorem e_L_law_424 : decode cL_law 424 = .ok (.iconst 2, 1) := D_L_law_6.2.2.2.2.2.2.2.2.1
theorem e_L_law_425 : decode cL_law 425 = .ok (.iadd, 1) := D_L_law_6.2.2.2.2.2.2.2.2.2.1
theorem e_L_law_426 : decode cL_law 426 = .ok (.iaload, 1) := D_L_law_6.2.2.2.2.2.2.2.2.2.2.1
theorem e_L_law_427 : decode cL_law 427 = .ok (.invokevirtual 53, 3) := D_L_law_6.2.2.2.2.2.2.2.2.2.2.2.1
theorem e_L_law_430 : decode cL_law 430 = .ok (.if_icmp .eq 373, 3) := D_L_law_6.2.2.2.2.2.2.2.2.2.2.2.2.1
theorem e_L_law_433 : decode cL_law 433 = .ok (.iconst 0, 1) := D_L_law_6.2.2.2.2.2.2.2.2.2.2.2.2.2.1
theorem e_L_law_434 : decode cL_law 434 = .ok (.ireturn, 1) := D_L_law_6.2.2.2.2.2.2.2.2.2.2.2.2.2.2.1
theorem e_L_law_435 : decode cL_law 435 = .ok (.aload_n 1, 1) := D_L_law_6.2.2.2.2.2.2.2.2.2.2.2.2.2.2.2.1
theorem e_L_law_436 : decode cL_law 436 = .ok (.aload_n 0, 1) := D_L_law_6.2.2.2.2.2.2.2.2.2.2.2.2.2.2.2.2.1
theorem e_L_law_437 : decode cL_law 437 = .ok (.iload_n 3, 1) := D_L_law_6.2.2.2.2.2.2.2.2.2.2.2.2.2.2.2.2.2.1
theorem e_L_law_438 : decode cL_law 438 = .ok (.iconst 1, 1) := D_L_law_6.2.2.2.2.2.2.2.2.2.2.2.2.2.2.2.2.2.2.1
theorem e_L_law_439 : decode cL_law 439 = .ok (.iadd, 1) := D_L_law_6.2.2.2.2.2.2.2.2.2.2.2.2.2.2.2.2.2.2.2.1
theorem e_L_law_440 : decode cL_law 440 = .ok (.iaload, 1) := D_L_law_6.2.2.2.2.2.2.2.2.2.2.2.2.2.2.2.2.2.2.2.2.1
theorem e_L_law_441 : decode cL_law 441 = .ok (.invokevirtual 54, 3) := D_L_law_6.2.2.2.2.2.2.2.2.2.2.2.2.2.2.2.2.2.2.2.2.2.1
theorem e_L_law_444 : decode cL_law 444 = .ok (.aload_n 2, 1) := D_L_law_6.2.2.2.2.2.2.2.2.2.2.2.2.2.2.2.2.2.2.2.2.2.2.1
theorem e_L_law_445 : decode cL_law 445 = .ok (.aload_n 0, 1) := D_L_law_6.2.2.2.2.2.2.2.2.2.2.2.2.2.2.2.2.2.2.2.2.2.2.2.1
theorem e_L_law_446 : decode cL_law 446 = .ok (.iload_n 3, 1) := D_L_law_6.2.2.2.2.2.2.2.2.2.2.2.2.2.2.2.2.2.2.2.2.2.2.2.2.1
theorem e_L_law_447 : decode cL_law 447 = .ok (.iconst 1, 1) := D_L_law_6.2.2.2.2.2.2.2.2.2.2.2.2.2.2.2.2.2.2.2.2.2.2.2.2.2.1
theorem e_L_law_448 : decode cL_law 448 = .ok (.iadd, 1) := D_L_law_6.2.2.2.2.2.2.2.2.2.2.2.2.2.2.2.2.2.2.2.2.2.2.2.2.2.2.1
theorem e_L_law_449 : decode cL_law 449 = .ok (.iaload, 1) := D_L_law_6.2.2.2.2.2.2.2.2.2.2.2.2.2.2.2.2.2.2.2.2.2.2.2.2.2.2.2.1
theorem e_L_law_450 : decode cL_law 450 = .ok (.invokevirtual 57, 3) := D_L_law_6.2.2.2.2.2.2.2.2.2.2.2.2.2.2.2.2.2.2.2.2.2.2.2.2.2.2.2.2.1
theorem e_L_law_453 : decode cL_law 453 = .ok (.if_icmp .eq 350, 3) := D_L_law_6.2.2.2.2.2.2.2.2.2.2.2.2.2.2.2.2.2.2.2.2.2.2.2.2.2.2.2.2.2.1
theorem e_L_law_456 : decode cL_law 456 = .ok (.iconst 0, 1) := D_L_law_6.2.2.2.2.2.2.2.2.2.2.2.2.2.2.2.2.2.2.2.2.2.2.2.2.2.2.2.2.2.2.1
theorem e_L_law_457 : decode cL_law 457 = .ok (.ireturn, 1) := D_L_law_6.2.2.2.2.2.2.2.2.2.2.2.2.2.2.2.2.2.2.2.2.2.2.2.2.2.2.2.2.2.2.2.1
theorem e_L_law_458 : decode cL_law 458 = .ok (.aload_n 1, 1) := D_L_law_6.2.2.2.2.2.2.2.2.2.2.2.2.2.2.2.2.2.2.2.2.2.2.2.2.2.2.2.2.2.2.2.2.1
theorem e_L_law_459 : decode cL_law 459 = .ok (.aload_n 0, 1) := D_L_law_6.2.2.2.2.2.2.2.2.2.2.2.2.2.2.2.2.2.2.2.2.2.2.2.2.2.2.2.2.2.2.2.2.2.1
theorem e_L_law_460 : decode cL_law 460 = .ok (.iload_n 3, 1) := D_L_law_6.2.2.2.2.2.2.2.2.2.2.2.2.2.2.2.2.2.2.2.2.2.2.2.2.2.2.2.2.2.2.2.2.2.2.1
theorem e_L_law_461 : decode cL_law 461 = .ok (.iconst 1, 1) := D_L_law_6.2.2.2.2.2.2.2.2.2.2.2.2.2.2.2.2.2.2.2.2.2.2.2.2.2.2.2.2.2.2.2.2.2.2.2.1
theorem e_L_law_462 : decode cL_law 462 = .ok (.iadd, 1) := D_L_law_6.2.2.2.2.2.2.2.2.2.2.2.2.2.2.2.2.2.2.2.2.2.2.2.2.2.2.2.2.2.2.2.2.2.2.2.2.1
theorem e_L_law_463 : decode cL_law 463 = .ok (.iaload, 1) := D_L_law_6.2.2.2.2.2.2.2.2.2.2.2.2.2.2.2.2.2.2.2.2.2.2.2.2.2.2.2.2.2.2.2.2.2.2.2.2.2.1
theorem e_L_law_464 : decode cL_law 464 = .ok (.aload_n 0, 1) := D_L_law_6.2.2.2.2.2.2.2.2.2.2.2.2.2.2.2.2.2.2.2.2.2.2.2.2.2.2.2.2.2.2.2.2.2.2.2.2.2.2.1
theorem e_L_law_465 : decode cL_law 465 = .ok (.iload_n 3, 1) := D_L_law_6.2.2.2.2.2.2.2.2.2.2.2.2.2.2.2.2.2.2.2.2.2.2.2.2.2.2.2.2.2.2.2.2.2.2.2.2.2.2.2.1
set_option maxRecDepth 100000 in
theorem D_L_law_7 : decode cL_law 466 = .ok (.iconst 2, 1) ∧ decode cL_law 467 = .ok (.iadd, 1) ∧ decode cL_law 468 = .ok (.iaload, 1) ∧ decode cL_law 469 = .ok (.invokevirtual 58, 3) ∧ decode cL_law 472 = .ok (.aload_n 2, 1) ∧ decode cL_law 473 = .ok (.aload_n 0, 1) ∧ decode cL_law 474 = .ok (.iload_n 3, 1) ∧ decode cL_law 475 = .ok (.iconst 1, 1) ∧ decode cL_law 476 = .ok (.iadd, 1) ∧ decode cL_law 477 = .ok (.iaload, 1) ∧ decode cL_law 478 = .ok (.aload_n 0, 1) ∧ decode cL_law 479 = .ok (.iload_n 3, 1) ∧ decode cL_law 480 = .ok (.iconst 2, 1) ∧ decode cL_law 481 = .ok (.iadd, 1) ∧ decode cL_law 482 = .ok (.iaload, 1) ∧ decode cL_law 483 = .ok (.invokevirtual 61, 3) ∧ decode cL_law 486 = .ok (.if_icmp .eq 317, 3) ∧ decode cL_law 489 = .ok (.iconst 0, 1) ∧ decode cL_law 490 = .ok (.ireturn, 1) ∧ decode cL_law 491 = .ok (.aload_n 1, 1) ∧ decode cL_law 492 = .ok (.aload_n 0, 1) ∧ decode cL_law 493 = .ok (.iload_n 3, 1) ∧ decode cL_law 494 = .ok (.iconst 1, 1) ∧ decode cL_law 495 = .ok (.iadd, 1) ∧ decode cL_law 496 = .ok (.iaload, 1) ∧ decode cL_law 497 = .ok (.aload_n 0, 1) ∧ decode cL_law 498 = .ok (.iload_n 3, 1) ∧ decode cL_law 499 = .ok (.iconst 2, 1) ∧ decode cL_law 500 = .ok (.iadd, 1) ∧ decode cL_law 501 = .ok (.iaload, 1) ∧ decode cL_law 502 = .ok (.invokevirtual 62, 3) ∧ decode cL_law 505 = .ok (.aload_n 2, 1) ∧ decode cL_law 506 = .ok (.aload_n 0, 1) ∧ decode cL_law 507 = .ok (.iload_n 3, 1) ∧ decode cL_law 508 = .ok (.iconst 1, 1) ∧ decode cL_law 509 = .ok (.iadd, 1) ∧ decode cL_law 510 = .ok (.iaload, 1) ∧ decode cL_law 511 = .ok (.aload_n 0, 1) ∧ decode cL_law 512 = .ok (.iload_n 3, 1) ∧ decode cL_law 513 = .ok (.iconst 2, 1) ∧ True := dq_of (l := (466, .iconst 2, 1) :: (467, .iadd, 1) :: (468, .iaload, 1) :: (469, .invokevirtual 58, 3) :: (472, .aload_n 2, 1) :: (473, .aload_n 0, 1) :: (474, .iload_n 3, 1) :: (475, .iconst 1, 1) :: (476, .iadd, 1) :: (477, .iaload, 1) :: (478, .aload_n 0, 1) :: (479, .iload_n 3, 1) :: (480, .iconst 2, 1) :: (481, .iadd, 1) :: (482, .iaload, 1) :: (483, .invokevirtual 61, 3) :: (486, .if_icmp .eq 317, 3) :: (489, .iconst 0, 1) :: (490, .ireturn, 1) :: (491, .aload_n 1, 1) :: (492, .aload_n 0, 1) :: (493, .iload_n 3, 1) :: (494, .iconst 1, 1) :: (495, .iadd, 1) :: (496, .iaload, 1) :: (497, .aload_n 0, 1) :: (498, .iload_n 3, 1) :: (499, .iconst 2, 1) :: (500, .iadd, 1) :: (501, .iaload, 1) :: (502, .invokevirtual 62, 3) :: (505, .aload_n 2, 1) :: (506, .aload_n 0, 1) :: (507, .iload_n 3, 1) :: (508, .iconst 1, 1) :: (509, .iadd, 1) :: (510, .iaload, 1) :: (511, .aload_n 0, 1) :: (512, .iload_n 3, 1) :: (513, .iconst 2, 1) :: []) (by decide +kernel)
theorem e_L_law_466 : decode cL_law 466 = .ok (.iconst 2, 1) := D_L_law_7.1
theorem e_L_law_467 : decode cL_law 467 = .ok (.iadd, 1) := D_L_law_7.2.1
theorem e_L_law_468 : decode cL_law 468 = .ok (.iaload, 1) := D_L_law_7.2.2.1
theorem e_L_law_469 : decode cL_law 469 = .ok (.invokevirtual 58, 3) := D_L_law_7.2.2.2.1
theorem e_L_law_472 : decode cL_law 472 = .ok (.aload_n 2, 1) := D_L_law_7.2.2.2.2.1
theorem e_L_law_473 : decode cL_law 473 = .ok (.aload_n 0, 1) := D_L_law_7.2.2.2.2.2.1
theorem e_L_law_474 : decode cL_law 474 = .ok (.iload_n 3, 1) := D_L_law_7.2.2.2.2.2.2.1
theorem e_L_law_475 : decode cL_law 475 = .ok (.iconst 1, 1) := D_L_law_7.2.2.2.2.2.2.2.1
theorem e_L_law_476 : decode cL_law 476 = .ok (.iadd, 1) := D_L_law_7.2.2.2.2.2.2.2.2.1
theorem e_L_law_477 : decode cL_law 477 = .ok (.iaload, 1) := D_L_law_7.2.2.2.2.2.2.2.2.2.1
theorem e_L_law_478 : decode cL_law 478 = .ok (.aload_n 0, 1) := D_L_law_7.2.2.2.2.2.2.2.2.2.2.1
theorem e_L_law_479 : decode cL_law 479 = .ok (.iload_n 3, 1) := D_L_law_7.2.2.2.2.2.2.2.2.2.2.2.1
theorem e_L_law_480 : decode cL_law 480 = .ok (.iconst 2, 1) := D_L_law_7.2.2.2.2.2.2.2.2.2.2.2.2.1
theorem e_L_law_481 : decode cL_law 481 = .ok (.iadd, 1) := D_L_law_7.2.2.2.2.2.2.2.2.2.2.2.2.2.1
theorem e_L_law_482 : decode cL_law 482 = .ok (.iaload, 1) := D_L_law_7.2.2.2.2.2.2.2.2.2.2.2.2.2.2.1
theorem e_L_law_483 : decode cL_law 483 = .ok (.invokevirtual 61, 3) := D_L_law_7.2.2.2.2.2.2.2.2.2.2.2.2.2.2.2.1
theorem e_L_law_486 : decode cL_law 486 = .ok (.if_icmp .eq 317, 3) := D_L_law_7.2.2.2.2.2.2.2.2.2.2.2.2.2.2.2.2.1
theorem e_L_law_489 : decode cL_law 489 = .ok (.iconst 0, 1) := D_L_law_7.2.2.2.2.2.2.2.2.2.2.2.2.2.2.2.2.2.1
theorem e_L_law_490 : decode cL_law 490 = .ok (.ireturn, 1) := D_L_law_7.2.2.2.2.2.2.2.2.2.2.2.2.2.2.2.2.2.2.1
theorem e_L_law_491 : decode cL_law 491 = .ok (.aload_n 1, 1) := D_L_law_7.2.2.2.2.2.2.2.2.2.2.2.2.2.2.2.2.2.2.2.1
theorem e_L_law_492 : decode cL_law 492 = .ok (.aload_n 0, 1) := D_L_law_7.2.2.2.2.2.2.2.2.2.2.2.2.2.2.2.2.2.2.2.2.1
theorem e_L_law_493 : decode cL_law 493 = .ok (.iload_n 3, 1) := D_L_law_7.2.2.2.2.2.2.2.2.2.2.2.2.2.2.2.2.2.2.2.2.2.1
theorem e_L_law_494 : decode cL_law 494 = .ok (.iconst 1, 1) := D_L_law_7.2.2.2.2.2.2.2.2.2.2.2.2.2.2.2.2.2.2.2.2.2.2.1
theorem e_L_law_495 : decode cL_law 495 = .ok (.iadd, 1) := D_L_law_7.2.2.2.2.2.2.2.2.2.2.2.2.2.2.2.2.2.2.2.2.2.2.2.1
theorem e_L_law_496 : decode cL_law 496 = .ok (.iaload, 1) := D_L_law_7.2.2.2.2.2.2.2.2.2.2.2.2.2.2.2.2.2.2.2.2.2.2.2.2.1
theorem e_L_law_497 : decode cL_law 497 = .ok (.aload_n 0, 1) := D_L_law_7.2.2.2.2.2.2.2.2.2.2.2.2.2.2.2.2.2.2.2.2.2.2.2.2.2.1
theorem e_L_law_498 : decode cL_law 498 = .ok (.iload_n 3, 1) := D_L_law_7.2.2.2.2.2.2.2.2.2.2.2.2.2.2.2.2.2.2.2.2.2.2.2.2.2.2.1
theorem e_L_law_499 : decode cL_law 499 = .ok (.iconst 2, 1) := D_L_law_7.2.2.2.2.2.2.2.2.2.2.2.2.2.2.2.2.2.2.2.2.2.2.2.2.2.2.2.1
theorem e_L_law_500 : decode cL_law 500 = .ok (.iadd, 1) := D_L_law_7.2.2.2.2.2.2.2.2.2.2.2.2.2.2.2.2.2.2.2.2.2.2.2.2.2.2.2.2.1
theorem e_L_law_501 : decode cL_law 501 = .ok (.iaload, 1) := D_L_law_7.2.2.2.2.2.2.2.2.2.2.2.2.2.2.2.2.2.2.2.2.2.2.2.2.2.2.2.2.2.1
theorem e_L_law_502 : decode cL_law 502 = .ok (.invokevirtual 62, 3) := D_L_law_7.2.2.2.2.2.2.2.2.2.2.2.2.2.2.2.2.2.2.2.2.2.2.2.2.2.2.2.2.2.2.1
theorem e_L_law_505 : decode cL_law 505 = .ok (.aload_n 2, 1) := D_L_law_7.2.2.2.2.2.2.2.2.2.2.2.2.2.2.2.2.2.2.2.2.2.2.2.2.2.2.2.2.2.2.2.1
theorem e_L_law_506 : decode cL_law 506 = .ok (.aload_n 0, 1) := D_L_law_7.2.2.2.2.2.2.2.2.2.2.2.2.2.2.2.2.2.2.2.2.2.2.2.2.2.2.2.2.2.2.2.2.1
theorem e_L_law_507 : decode cL_law 507 = .ok (.iload_n 3, 1) := D_L_law_7.2.2.2.2.2.2.2.2.2.2.2.2.2.2.2.2.2.2.2.2.2.2.2.2.2.2.2.2.2.2.2.2.2.1
theorem e_L_law_508 : decode cL_law 508 = .ok (.iconst 1, 1) := D_L_law_7.2.2.2.2.2.2.2.2.2.2.2.2.2.2.2.2.2.2.2.2.2.2.2.2.2.2.2.2.2.2.2.2.2.2.1
theorem e_L_law_509 : decode cL_law 509 = .ok (.iadd, 1) := D_L_law_7.2.2.2.2.2.2.2.2.2.2.2.2.2.2.2.2.2.2.2.2.2.2.2.2.2.2.2.2.2.2.2.2.2.2.2.1
theorem e_L_law_510 : decode cL_law 510 = .ok (.iaload, 1) := D_L_law_7.2.2.2.2.2.2.2.2.2.2.2.2.2.2.2.2.2.2.2.2.2.2.2.2.2.2.2.2.2.2.2.2.2.2.2.2.1
theorem e_L_law_511 : decode cL_law 511 = .ok (.aload_n 0, 1) := D_L_law_7.2.2.2.2.2.2.2.2.2.2.2.2.2.2.2.2.2.2.2.2.2.2.2.2.2.2.2.2.2.2.2.2.2.2.2.2.2.1
theorem e_L_law_512 : decode cL_law 512 = .ok (.iload_n 3, 1) := D_L_law_7.2.2.2.2.2.2.2.2.2.2.2.2.2.2.2.2.2.2.2.2.2.2.2.2.2.2.2.2.2.2.2.2.2.2.2.2.2.2.1
theorem e_L_law_513 : decode cL_law 513 = .ok (.iconst 2, 1) := D_L_law_7.2.2.2.2.2.2.2.2.2.2.2.2.2.2.2.2.2.2.2.2.2.2.2.2.2.2.2.2.2.2.2.2.2.2.2.2.2.2.2.1
set_option maxRecDepth 100000 in
theorem D_L_law_8 : decode cL_law 514 = .ok (.iadd, 1) ∧ decode cL_law 515 = .ok (.iaload, 1) ∧ decode cL_law 516 = .ok (.invokevirtual 65, 3) ∧ decode cL_law 519 = .ok (.if_icmp .eq 284, 3) ∧ decode cL_law 522 = .ok (.iconst 0, 1) ∧ decode cL_law 523 = .ok (.ireturn, 1) ∧ decode cL_law 524 = .ok (.aload_n 1, 1) ∧ decode cL_law 525 = .ok (.aload_n 0, 1) ∧ decode cL_law 526 = .ok (.iload_n 3, 1) ∧ decode cL_law 527 = .ok (.iconst 1, 1) ∧ decode cL_law 528 = .ok (.iadd, 1) ∧ decode cL_law 529 = .ok (.iaload, 1) ∧ decode cL_law 530 = .ok (.invokevirtual 66, 3) ∧ decode cL_law 533 = .ok (.aload_n 2, 1) ∧ decode cL_law 534 = .ok (.aload_n 0, 1) ∧ decode cL_law 535 = .ok (.iload_n 3, 1) ∧ decode cL_law 536 = .ok (.iconst 1, 1) ∧ decode cL_law 537 = .ok (.iadd, 1) ∧ decode cL_law 538 = .ok (.iaload, 1) ∧ decode cL_law 539 = .ok (.invokevirtual 69, 3) ∧ decode cL_law 542 = .ok (.if_icmp .eq 261, 3) ∧ decode cL_law 545 = .ok (.iconst 0, 1) ∧ decode cL_law 546 = .ok (.ireturn, 1) ∧ decode cL_law 547 = .ok (.aload_n 1, 1) ∧ decode cL_law 548 = .ok (.aload_n 0, 1) ∧ decode cL_law 549 = .ok (.iload_n 3, 1) ∧ decode cL_law 550 = .ok (.iconst 1, 1) ∧ decode cL_law 551 = .ok (.iadd, 1) ∧ decode cL_law 552 = .ok (.iaload, 1) ∧ decode cL_law 553 = .ok (.invokevirtual 70, 3) ∧ decode cL_law 556 = .ok (.aload_n 2, 1) ∧ decode cL_law 557 = .ok (.aload_n 0, 1) ∧ decode cL_law 558 = .ok (.iload_n 3, 1) ∧ decode cL_law 559 = .ok (.iconst 1, 1) ∧ decode cL_law 560 = .ok (.iadd, 1) ∧ decode cL_law 561 = .ok (.iaload, 1) ∧ decode cL_law 562 = .ok (.invokevirtual 73, 3) ∧ decode cL_law 565 = .ok (.if_icmp .eq 238, 3) ∧ decode cL_law 568 = .ok (.iconst 0, 1) ∧ decode cL_law 569 = .ok (.ireturn, 1) ∧ True := dq_of (l := (514, .iadd, 1) :: (515, .iaload, 1) :: (516, .invokevirtual 65, 3) :: (519, .if_icmp .eq 284, 3) :: (522, .iconst 0, 1) :: (523, .ireturn, 1) :: (524, .aload_n 1, 1) :: (525, .aload_n 0, 1) :: (526, .iload_n 3, 1) :: (527, .iconst 1, 1) :: (528, .iadd, 1) :: (529, .iaload, 1) :: (530, .invokevirtual 66, 3) :: (533, .aload_n 2, 1) :: (534, .aload_n 0, 1) :: (535, .iload_n 3, 1) :: (536, .iconst 1, 1) :: (537, .iadd, 1) :: (538, .iaload, 1) :: (539, .invokevirtual 69, 3) :: (542, .if_icmp .eq 261, 3) :: (545, .iconst 0, 1) :: (546, .ireturn, 1) :: (547, .aload_n 1, 1) :: (548, .aload_n 0, 1) :: (549, .iload_n 3, 1) :: (550, .iconst 1, 1) :: (551, .iadd, 1) :: (552, .iaload, 1) :: (553, .invokevirtual 70, 3) :: (556, .aload_n 2, 1) :: (557, .aload_n 0, 1) :: (558, .iload_n 3, 1) :: (559, .iconst 1, 1) :: (560, .iadd, 1) :: (561, .iaload, 1) :: (562, .invokevirtual 73, 3) :: (565, .if_icmp .eq 238, 3) :: (568, .iconst 0, 1) :: (569, .ireturn, 1) :: []) (by decide +kernel)
theorem e_L_law_514 : decode cL_law 514 = .ok (.iadd, 1) := D_L_law_8.1
theorem e_L_law_515 : decode cL_law 515 = .ok (.iaload, 1) := D_L_law_8.2.1
theorem e_L_law_516 : decode cL_law 516 = .ok (.invokevirtual 65, 3) := D_L_law_8.2.2.1
theorem e_L_law_519 : decode cL_law 519 = .ok (.if_icmp .eq 284, 3) := D_L_law_8.2.2.2.1
theorem e_L_law_522 : decode cL_law 522 = .ok (.iconst 0, 1) := D_L_law_8.2.2.2.2.1
theorem e_L_law_523 : decode cL_law 523 = .ok (.ireturn, 1) := D_L_law_8.2.2.2.2.2.1
theorem e_L_law_524 : decode cL_law 524 = .ok (.aload_n 1, 1) := D_L_law_8.2.2.2.2.2.2.1
theorem e_L_law_525 : decode cL_law 525 = .ok (.aload_n 0, 1) := D_L_law_8.2.2.2.2.2.2.2.1
theorem e_L_law_526 : decode cL_law 526 = .ok (.iload_n 3, 1) := D_L_law_8.2.2.2.2.2.2.2.2.1
theorem e_L_law_527 : decode cL_law 527 = .ok (.iconst 1, 1) := D_L_law_8.2.2.2.2.2.2.2.2.2.1
theorem e_L_law_528 : decode cL_law 528 = .ok (.iadd, 1) := D_L_law_8.2.2.2.2.2.2.2.2.2.2.1
theorem e_L_law_529 : decode cL_law 529 = .ok (.iaload, 1) := D_L_law_8.2.2.2.2.2.2.2.2.2.2.2.1
theorem e_L_law_530 : decode cL_law 530 = .ok (.invokevirtual 66, 3) := D_L_law_8.2.2.2.2.2.2.2.2.2.2.2.2.1
theorem e_L_law_533 : decode cL_law 533 = .ok (.aload_n 2, 1) := D_L_law_8.2.2.2.2.2.2.2.2.2.2.2.2.2.1
theorem e_L_law_534 : decode cL_law 534 = .ok (.aload_n 0, 1) := D_L_law_8.2.2.2.2.2.2.2.2.2.2.2.2.2.2.1
theorem e_L_law_535 : decode cL_law 535 = .ok (.iload_n 3, 1) := D_L_law_8.2.2.2.2.2.2.2.2.2.2.2.2.2.2.2.1
theorem e_L_law_536 : decode cL_law 536 = .ok (.iconst 1, 1) := D_L_law_8.2.2.2.2.2.2.2.2.2.2.2.2.2.2.2.2.1
theorem e_L_law_537 : decode cL_law 537 = .ok (.iadd, 1) := D_L_law_8.2.2.2.2.2.2.2.2.2.2.2.2.2.2.2.2.2.1
theorem e_L_law_538 : decode cL_law 538 = .ok (.iaload, 1) := D_L_law_8.2.2.2.2.2.2.2.2.2.2.2.2.2.2.2.2.2.2.1
theorem e_L_law_539 : decode cL_law 539 = .ok (.invokevirtual 69, 3) := D_L_law_8.2.2.2.2.2.2.2.2.2.2.2.2.2.2.2.2.2.2.2.1
theorem e_L_law_542 : decode cL_law 542 = .ok (.if_icmp .eq 261, 3) := D_L_law_8.2.2.2.2.2.2.2.2.2.2.2.2.2.2.2.2.2.2.2.2.1
theorem e_L_law_545 : decode cL_law 545 = .ok (.iconst 0, 1) := D_L_law_8.2.2.2.2.2.2.2.2.2.2.2.2.2.2.2.2.2.2.2.2.2.1
theorem e_L_law_546 : decode cL_law 546 = .ok (.ireturn, 1) := D_L_law_8.2.2.2.2.2.2.2.2.2.2.2.2.2.2.2.2.2.2.2.2.2.2.1
theorem e_L_law_547 : decode cL_law 547 = .ok (.aload_n 1, 1) := D_L_law_8.2.2.2.2.2.2.2.2.2.2.2.2.2.2.2.2.2.2.2.2.2.2.2.1
theorem e_L_law_548 : decode cL_law 548 = .ok (.aload_n 0, 1) := D_L_law_8.2.2.2.2.2.2.2.2.2.2.2.2.2.2.2.2.2.2.2.2.2.2.2.2.1
theorem e_L_law_549 : decode cL_law 549 = .ok (.iload_n 3, 1) := D_L_law_8.2.2.2.2.2.2.2.2.2.2.2.2.2.2.2.2.2.2.2.2.2.2.2.2.2.1
theorem e_L_law_550 : decode cL_law 550 = .ok (.iconst 1, 1) := D_L_law_8.2.2.2.2.2.2.2.2.2.2.2.2.2.2.2.2.2.2.2.2.2.2.2.2.2.2.1
theorem e_L_law_551 : decode cL_law 551 = .ok (.iadd, 1) := D_L_law_8.2.2.2.2.2.2.2.2.2.2.2.2.2.2.2.2.2.2.2.2.2.2.2.2.2.2.2.1
theorem e_L_law_552 : decode cL_law 552 = .ok (.iaload, 1) := D_L_law_8.2.2.2.2.2.2.2.2.2.2.2.2.2.2.2.2.2.2.2.2.2.2.2.2.2.2.2.2.1
theorem e_L_law_553 : decode cL_law 553 = .ok (.invokevirtual 70, 3) := D_L_law_8.2.2.2.2.2.2.2.2.2.2.2.2.2.2.2.2.2.2.2.2.2.2.2.2.2.2.2.2.2.1
theorem e_L_law_556 : decode cL_law 556 = .ok (.aload_n 2, 1) := D_L_law_8.2.2.2.2.2.2.2.2.2.2.2.2.2.2.2.2.2.2.2.2.2.2.2.2.2.2.2.2.2.2.1
theorem e_L_law_557 : decode cL_law 557 = .ok (.aload_n 0, 1) := D_L_law_8.2.2.2.2.2.2.2.2.2.2.2.2.2.2.2.2.2.2.2.2.2.2.2.2.2.2.2.2.2.2.2.1
theorem e_L_law_558 : decode cL_law 558 = .ok (.iload_n 3, 1) := D_L_law_8.2.2.2.2.2.2.2.2.2.2.2.2.2.2.2.2.2.2.2.2.2.2.2.2.2.2.2.2.2.2.2.2.1
theorem e_L_law_559 : decode cL_law 559 = .ok (.iconst 1, 1) := D_L_law_8.2.2.2.2.2.2.2.2.2.2.2.2.2.2.2.2.2.2.2.2.2.2.2.2.2.2.2.2.2.2.2.2.2.1
theorem e_L_law_560 : decode cL_law 560 = .ok (.iadd, 1) := D_L_law_8.2.2.2.2.2.2.2.2.2.2.2.2.2.2.2.2.2.2.2.2.2.2.2.2.2.2.2.2.2.2.2.2.2.2.1
theorem e_L_law_561 : decode cL_law 561 = .ok (.iaload, 1) := D_L_law_8.2.2.2.2.2.2.2.2.2.2.2.2.2.2.2.2.2.2.2.2.2.2.2.2.2.2.2.2.2.2.2.2.2.2.2.1
theorem e_L_law_562 : decode cL_law 562 = .ok (.invokevirtual 73, 3) := D_L_law_8.2.2.2.2.2.2.2.2.2.2.2.2.2.2.2.2.2.2.2.2.2.2.2.2.2.2.2.2.2.2.2.2.2.2.2.2.1
theorem e_L_law_565 : decode cL_law 565 = .ok (.if_icmp .eq 238, 3) := D_L_law_8.2.2.2.2.2.2.2.2.2.2.2.2.2.2.2.2.2.2.2.2.2.2.2.2.2.2.2.2.2.2.2.2.2.2.2.2.2.1
theorem e_L_law_568 : decode cL_law 568 = .ok (.iconst 0, 1) := D_L_law_8.2.2.2.2.2.2.2.2.2.2.2.2.2.2.2.2.2.2.2.2.2.2.2.2.2.2.2.2.2.2.2.2.2.2.2.2.2.2.1
theorem e_L_law_569 : decode cL_law 569 = .ok (.ireturn, 1) := D_L_law_8.2.2.2.2.2.2.2.2.2.2.2.2.2.2.2.2.2.2.2.2.2.2.2.2.2.2.2.2.2.2.2.2.2.2.2.2.2.2.2.1
set_option maxRecDepth 100000 in
theorem D_L_law_9 : decode cL_law 570 = .ok (.aload_n 1, 1) ∧ decode cL_law 571 = .ok (.invokevirtual 74, 3) ∧ decode cL_law 574 = .ok (.aload_n 2, 1) ∧ decode cL_law 575 = .ok (.invokevirtual 77, 3) ∧ decode cL_law 578 = .ok (.if_icmp .eq 225, 3) ∧ decode cL_law 581 = .ok (.iconst 0, 1) ∧ decode cL_law 582 = .ok (.ireturn, 1) ∧ decode cL_law 583 = .ok (.aload_n 1, 1) ∧ decode cL_law 584 = .ok (.aload_n 0, 1) ∧ decode cL_law 585 = .ok (.iload_n 3, 1) ∧ decode cL_law 586 = .ok (.iconst 1, 1) ∧ decode cL_law 587 = .ok (.iadd, 1) ∧ decode cL_law 588 = .ok (.iaload, 1) ∧ decode cL_law 589 = .ok (.invokevirtual 78, 3) ∧ decode cL_law 592 = .ok (.aload_n 2, 1) ∧ decode cL_law 593 = .ok (.aload_n 0, 1) ∧ decode cL_law 594 = .ok (.iload_n 3, 1) ∧ decode cL_law 595 = .ok (.iconst 1, 1) ∧ decode cL_law 596 = .ok (.iadd, 1) ∧ decode cL_law 597 = .ok (.iaload, 1) ∧ decode cL_law 598 = .ok (.invokevirtual 81, 3) ∧ decode cL_law 601 = .ok (.if_icmp .eq 202, 3) ∧ decode cL_law 604 = .ok (.iconst 0, 1) ∧ decode cL_law 605 = .ok (.ireturn, 1) ∧ decode cL_law 606 = .ok (.aload_n 1, 1) ∧ decode cL_law 607 = .ok (.aload_n 0, 1) ∧ decode cL_law 608 = .ok (.iload_n 3, 1) ∧ decode cL_law 609 = .ok (.iconst 1, 1) ∧ decode cL_law 610 = .ok (.iadd, 1) ∧ decode cL_law 611 = .ok (.iaload, 1) ∧ decode cL_law 612 = .ok (.invokevirtual 82, 3) ∧ decode cL_law 615 = .ok (.aload_n 2, 1) ∧ decode cL_law 616 = .ok (.aload_n 0, 1) ∧ decode cL_law 617 = .ok (.iload_n 3, 1) ∧ decode cL_law 618 = .ok (.iconst 1, 1) ∧ decode cL_law 619 = .ok (.iadd, 1) ∧ decode cL_law 620 = .ok (.iaload, 1) ∧ decode cL_law 621 = .ok (.invokevirtual 85, 3) ∧ decode cL_law 624 = .ok (.if_icmp .eq 179, 3) ∧ decode cL_law 627 = .ok (.iconst 0, 1) ∧ True := dq_of (l := (570, .aload_n 1, 1) :: (571, .invokevirtual 74, 3) :: (574, .aload_n 2, 1) :: (575, .invokevirtual 77, 3) :: (578, .if_icmp .eq 225, 3) :: (581, .iconst 0, 1) :: (582, .ireturn, 1) :: (583, .aload_n 1, 1) :: (584, .aload_n 0, 1) :: (585, .iload_n 3, 1) :: (586, .iconst 1, 1) :: (587, .iadd, 1) :: (588, .iaload, 1) :: (589, .invokevirtual 78, 3) :: (592, .aload_n 2, 1) :: (593, .aload_n 0, 1) :: (594, .iload_n 3, 1) :: (595, .iconst 1, 1) :: (596, .iadd, 1) :: (597, .iaload, 1) :: (598, .invokevirtual 81, 3) :: (601, .if_icmp .eq 202, 3) :: (604, .iconst 0, 1) :: (605, .ireturn, 1) :: (606, .aload_n 1, 1) :: (607, .aload_n 0, 1) :: (608, .iload_n 3, 1) :: (609, .iconst 1, 1) :: (610, .iadd, 1) :: (611, .iaload, 1) :: (612, .invokevirtual 82, 3) :: (615, .aload_n 2, 1) :: (616, .aload_n 0, 1) :: (617, .iload_n 3, 1) :: (618, .iconst 1, 1) :: (619, .iadd, 1) :: (620, .iaload, 1) :: (621, .invokevirtual 85, 3) :: (624, .if_icmp .eq 179, 3) :: (627, .iconst 0, 1) :: []) (by decide +kernel)
theorem e_L_law_570 : decode cL_law 570 = .ok (.aload_n 1, 1) := D_L_law_9.1
theorem e_L_law_571 : decode cL_law 571 = .ok (.invokevirtual 74, 3) := D_L_law_9.2.1
theorem e_L_law_574 : decode cL_law 574 = .ok (.aload_n 2, 1) := D_L_law_9.2.2.1
theorem e_L_law_575 : decode cL_law 575 = .ok (.invokevirtual 77, 3) := D_L_law_9.2.2.2.1
theorem e_L_law_578 : decode cL_law 578 = .ok (.if_icmp .eq 225, 3) := D_L_law_9.2.2.2.2.1
theorem e_L_law_581 : decode cL_law 581 = .ok (.iconst 0, 1) := D_L_law_9.2.2.2.2.2.1
theorem e_L_law_582 : decode cL_law 582 = .ok (.ireturn, 1) := D_L_law_9.2.2.2.2.2.2.1
theorem e_L_law_583 : decode cL_law 583 = .ok (.aload_n 1, 1) := D_L_law_9.2.2.2.2.2.2.2.1
theorem e_L_law_584 : decode cL_law 584 = .ok (.aload_n 0, 1) := D_L_law_9.2.2.2.2.2.2.2.2.1
theorem e_L_law_585 : decode cL_law 585 = .ok (.iload_n 3, 1) := D_L_law_9.2.2.2.2.2.2.2.2.2.1
theorem e_L_law_586 : decode cL_law 586 = .ok (.iconst 1, 1) := D_L_law_9.2.2.2.2.2.2.2.2.2.2.1
theorem e_L_law_587 : decode cL_law 587 = .ok (.iadd, 1) := D_L_law_9.2.2.2.2.2.2.2.2.2.2.2.1
theorem e_L_law_588 : decode cL_law 588 = .ok (.iaload, 1) := D_L_law_9.2.2.2.2.2.2.2.2.2.2.2.2.1
theorem e_L_law_589 : decode cL_law 589 = .ok (.invokevirtual 78, 3) := D_L_law_9.2.2.2.2.2.2.2.2.2.2.2.2.2.1
theorem e_L_law_592 : decode cL_law 592 = .ok (.aload_n 2, 1) := D_L_law_9.2.2.2.2.2.2.2.2.2.2.2.2.2.2.1
theorem e_L_law_593 : decode cL_law 593 = .ok (.aload_n 0, 1) := D_L_law_9.2.2.2.2.2.2.2.2.2.2.2.2.2.2.2.1
theorem e_L_law_594 : decode cL_law 594 = .ok (.iload_n 3, 1) := D_L_law_9.2.2.2.2.2.2.2.2.2.2.2.2.2.2.2.2.1
theorem e_L_law_595 : decode cL_law 595 = .ok (.iconst 1, 1) := D_L_law_9.2.2.2.2.2.2.2.2.2.2.2.2.2.2.2.2.2.1
theorem e_L_law_596 : decode cL_law 596 = .ok (.iadd, 1) := D_L_law_9.2.2.2.2.2.2.2.2.2.2.2.2.2.2.2.2.2.2.1
theorem e_L_law_597 : decode cL_law 597 = .ok (.iaload, 1) := D_L_law_9.2.2.2.2.2.2.2.2.2.2.2.2.2.2.2.2.2.2.2.1
theorem e_L_law_598 : decode cL_law 598 = .ok (.invokevirtual 81, 3) := D_L_law_9.2.2.2.2.2.2.2.2.2.2.2.2.2.2.2.2.2.2.2.2.1
theorem e_L_law_601 : decode cL_law 601 = .ok (.if_icmp .eq 202, 3) := D_L_law_9.2.2.2.2.2.2.2.2.2.2.2.2.2.2.2.2.2.2.2.2.2.1
theorem e_L_law_604 : decode cL_law 604 = .ok (.iconst 0, 1) := D_L_law_9.2.2.2.2.2.2.2.2.2.2.2.2.2.2.2.2.2.2.2.2.2.2.1
theorem e_L_law_605 : decode cL_law 605 = .ok (.ireturn, 1) := D_L_law_9.2.2.2.2.2.2.2.2.2.2.2.2.2.2.2.2.2.2.2.2.2.2.2.1
theorem e_L_law_606 : decode cL_law 606 = .ok (.aload_n 1, 1) := D_L_law_9.2.2.2.2.2.2.2.2.2.2.2.2.2.2.2.2.2.2.2.2.2.2.2.2.1
theorem e_L_law_607 : decode cL_law 607 = .ok (.aload_n 0, 1) := D_L_law_9.2.2.2.2.2.2.2.2.2.2.2.2.2.2.2.2.2.2.2.2.2.2.2.2.2.1
theorem e_L_law_608 : decode cL_law 608 = .ok (.iload_n 3, 1) := D_L_law_9.2.2.2.2.2.2.2.2.2.2.2.2.2.2.2.2.2.2.2.2.2.2.2.2.2.2.1
theorem e_L_law_609 : decode cL_law 609 = .ok (.iconst 1, 1) := D_L_law_9.2.2.2.2.2.2.2.2.2.2.2.2.2.2.2.2.2.2.2.2.2.2.2.2.2.2.2.1
theorem e_L_law_610 : decode cL_law 610 = .ok (.iadd, 1) := D_L_law_9.2.2.2.2.2.2.2.2.2.2.2.2.2.2.2.2.2.2.2.2.2.2.2.2.2.2.2.2.1
theorem e_L_law_611 : decode cL_law 611 = .ok (.iaload, 1) := D_L_law_9.2.2.2.2.2.2.2.2.2.2.2.2.2.2.2.2.2.2.2.2.2.2.2.2.2.2.2.2.2.1
theorem e_L_law_612 : decode cL_law 612 = .ok (.invokevirtual 82, 3) := D_L_law_9.2.2.2.2.2.2.2.2.2.2.2.2.2.2.2.2.2.2.2.2.2.2.2.2.2.2.2.2.2.2.1
theorem e_L_law_615 : decode cL_law 615 = .ok (.aload_n 2, 1) := D_L_law_9.2.2.2.2.2.2.2.2.2.2.2.2.2.2.2.2.2.2.2.2.2.2.2.2.2.2.2.2.2.2.2.1
theorem e_L_law_616 : decode cL_law 616 = .ok (.aload_n 0, 1) := D_L_law_9.2.2.2.2.2.2.2.2.2.2.2.2.2.2.2.2.2.2.2.2.2.2.2.2.2.2.2.2.2.2.2.2.1
theorem e_L_law_617 : decode cL_law 617 = .ok (.iload_n 3, 1) := D_L_law_9.2.2.2.2.2.2.2.2.2.2.2.2.2.2.2.2.2.2.2.2.2.2.2.2.2.2.2.2.2.2.2.2.2.1
theorem e_L_law_618 : decode cL_law 618 = .ok (.iconst 1, 1) := D_L_law_9.2.2.2.2.2.2.2.2.2.2.2.2.2.2.2.2.2.2.2.2.2.2.2.2.2.2.2.2.2.2.2.2.2.2.1
theorem e_L_law_619 : decode cL_law 619 = .ok (.iadd, 1) := D_L_law_9.2.2.2.2.2.2.2.2.2.2.2.2.2.2.2.2.2.2.2.2.2.2.2.2.2.2.2.2.2.2.2.2.2.2.2.1
theorem e_L_law_620 : decode cL_law 620 = .ok (.iaload, 1) := D_L_law_9.2.2.2.2.2.2.2.2.2.2.2.2.2.2.2.2.2.2.2.2.2.2.2.2.2.2.2.2.2.2.2.2.2.2.2.2.1
theorem e_L_law_621 : decode cL_law 621 = .ok (.invokevirtual 85, 3) := D_L_law_9.2.2.2.2.2.2.2.2.2.2.2.2.2.2.2.2.2.2.2.2.2.2.2.2.2.2.2.2.2.2.2.2.2.2.2.2.2.1
theorem e_L_law_624 : decode cL_law 624 = .ok (.if_icmp .eq 179, 3) := D_L_law_9.2.2.2.2.2.2.2.2.2.2.2.2.2.2.2.2.2.2.2.2.2.2.2.2.2.2.2.2.2.2.2.2.2.2.2.2.2.2.1
theorem e_L_law_627 : decode cL_law 627 = .ok (.iconst 0, 1) := D_L_law_9.2.2.2.2.2.2.2.2.2.2.2.2.2.2.2.2.2.2.2.2.2.2.2.2.2.2.2.2.2.2.2.2.2.2.2.2.2.2.2.1
set_option maxRecDepth 100000 in
theorem D_L_law_10 : decode cL_law 628 = .ok (.ireturn, 1) ∧ decode cL_law 629 = .ok (.aload_n 1, 1) ∧ decode cL_law 630 = .ok (.aload_n 0, 1) ∧ decode cL_law 631 = .ok (.iload_n 3, 1) ∧ decode cL_law 632 = .ok (.iconst 1, 1) ∧ decode cL_law 633 = .ok (.iadd, 1) ∧ decode cL_law 634 = .ok (.iaload, 1) ∧ decode cL_law 635 = .ok (.aload_n 0, 1) ∧ decode cL_law 636 = .ok (.iload_n 3, 1) ∧ decode cL_law 637 = .ok (.iconst 2, 1) ∧ decode cL_law 638 = .ok (.iadd, 1) ∧ decode cL_law 639 = .ok (.iaload, 1) ∧ decode cL_law 640 = .ok (.invokevirtual 86, 3) ∧ decode cL_law 643 = .ok (.aload_n 2, 1) ∧ decode cL_law 644 = .ok (.aload_n 0, 1) ∧ decode cL_law 645 = .ok (.iload_n 3, 1) ∧ decode cL_law 646 = .ok (.iconst 1, 1) ∧ decode cL_law 647 = .ok (.iadd, 1) ∧ decode cL_law 648 = .ok (.iaload, 1) ∧ decode cL_law 649 = .ok (.aload_n 0, 1) ∧ decode cL_law 650 = .ok (.iload_n 3, 1) ∧ decode cL_law 651 = .ok (.iconst 2, 1) ∧ decode cL_law 652 = .ok (.iadd, 1) ∧ decode cL_law 653 = .ok (.iaload, 1) ∧ decode cL_law 654 = .ok (.invokevirtual 89, 3) ∧ decode cL_law 657 = .ok (.if_icmp .eq 146, 3) ∧ decode cL_law 660 = .ok (.iconst 0, 1) ∧ decode cL_law 661 = .ok (.ireturn, 1) ∧ decode cL_law 662 = .ok (.aload_n 1, 1) ∧ decode cL_law 663 = .ok (.aload_n 0, 1) ∧ decode cL_law 664 = .ok (.iload_n 3, 1) ∧ decode cL_law 665 = .ok (.iconst 1, 1) ∧ decode cL_law 666 = .ok (.iadd, 1) ∧ decode cL_law 667 = .ok (.iaload, 1) ∧ decode cL_law 668 = .ok (.aload_n 0, 1) ∧ decode cL_law 669 = .ok (.iload_n 3, 1) ∧ decode cL_law 670 = .ok (.iconst 2, 1) ∧ decode cL_law 671 = .ok (.iadd, 1) ∧ decode cL_law 672 = .ok (.iaload, 1) ∧ decode cL_law 673 = .ok (.invokevirtual 90, 3) ∧ True := dq_of (l := (628, .ireturn, 1) :: (629, .aload_n 1, 1) :: (630, .aload_n 0, 1) :: (631, .iload_n 3, 1) :: (632, .iconst 1, 1) :: (633, .iadd, 1) :: (634, .iaload, 1) :: (635, .aload_n 0, 1) :: (636, .iload_n 3, 1) :: (637, .iconst 2, 1) :: (638, .iadd, 1) :: (639, .iaload, 1) :: (640, .invokevirtual 86, 3) :: (643, .aload_n 2, 1) :: (644, .aload_n 0, 1) :: (645, .iload_n 3, 1) :: (646, .iconst 1, 1) :: (647, .iadd, 1) :: (648, .iaload, 1) :: (649, .aload_n 0, 1) :: (650, .iload_n 3, 1) :: (651, .iconst 2, 1) :: (652, .iadd, 1) :: (653, .iaload, 1) :: (654, .invokevirtual 89, 3) :: (657, .if_icmp .eq 146, 3) :: (660, .iconst 0, 1) :: (661, .ireturn, 1) :: (662, .aload_n 1, 1) :: (663, .aload_n 0, 1) :: (664, .iload_n 3, 1) :: (665, .iconst 1, 1) :: (666, .iadd, 1) :: (667, .iaload, 1) :: (668, .aload_n 0, 1) :: (669, .iload_n 3, 1) :: (670, .iconst 2, 1) :: (671, .iadd, 1) :: (672, .iaload, 1) :: (673, .invokevirtual 90, 3) :: []) (by decide +kernel)
theorem e_L_law_628 : decode cL_law 628 = .ok (.ireturn, 1) := D_L_law_10.1
theorem e_L_law_629 : decode cL_law 629 = .ok (.aload_n 1, 1) := D_L_law_10.2.1
theorem e_L_law_630 : decode cL_law 630 = .ok (.aload_n 0, 1) := D_L_law_10.2.2.1
theorem e_L_law_631 : decode cL_law 631 = .ok (.iload_n 3, 1) := D_L_law_10.2.2.2.1
theorem e_L_law_632 : decode cL_law 632 = .ok (.iconst 1, 1) := D_L_law_10.2.2.2.2.1
theorem e_L_law_633 : decode cL_law 633 = .ok (.iadd, 1) := D_L_law_10.2.2.2.2.2.1
theorem e_L_law_634 : decode cL_law 634 = .ok (.iaload, 1) := D_L_law_10.2.2.2.2.2.2.1
theorem e_L_law_635 : decode cL_law 635 = .ok (.aload_n 0, 1) := D_L_law_10.2.2.2.2.2.2.2.1
theorem e_L_law_636 : decode cL_law 636 = .ok (.iload_n 3, 1) := D_L_law_10.2.2.2.2.2.2.2.2.1
theorem e_L_law_637 : decode cL_law 637 = .ok (.iconst 2, 1) := D_L_law_10.2.2.2.2.2.2.2.2.2.1
theorem e_L_law_638 : decode cL_law 638 = .ok (.iadd, 1) := D_L_law_10.2.2.2.2.2.2.2.2.2.2.1
theorem e_L_law_639 : decode cL_law 639 = .ok (.iaload, 1) := D_L_law_10.2.2.2.2.2.2.2.2.2.2.2.1
theorem e_L_law_640 : decode cL_law 640 = .ok (.invokevirtual 86, 3) := D_L_law_10.2.2.2.2.2.2.2.2.2.2.2.2.1
theorem e_L_law_643 : decode cL_law 643 = .ok (.aload_n 2, 1) := D_L_law_10.2.2.2.2.2.2.2.2.2.2.2.2.2.1
theorem e_L_law_644 : decode cL_law 644 = .ok (.aload_n 0, 1) := D_L_law_10.2.2.2.2.2.2.2.2.2.2.2.2.2.2.1
theorem e_L_law_645 : decode cL_law 645 = .ok (.iload_n 3, 1) := D_L_law_10.2.2.2.2.2.2.2.2.2.2.2.2.2.2.2.1
theorem e_L_law_646 : decode cL_law 646 = .ok (.iconst 1, 1) := D_L_law_10.2.2.2.2.2.2.2.2.2.2.2.2.2.2.2.2.1
theorem e_L_law_647 : decode cL_law 647 = .ok (.iadd, 1) := D_L_law_10.2.2.2.2.2.2.2.2.2.2.2.2.2.2.2.2.2.1
theorem e_L_law_648 : decode cL_law 648 = .ok (.iaload, 1) := D_L_law_10.2.2.2.2.2.2.2.2.2.2.2.2.2.2.2.2.2.2.1
theorem e_L_law_649 : decode cL_law 649 = .ok (.aload_n 0, 1) := D_L_law_10.2.2.2.2.2.2.2.2.2.2.2.2.2.2.2.2.2.2.2.1
theorem e_L_law_650 : decode cL_law 650 = .ok (.iload_n 3, 1) := D_L_law_10.2.2.2.2.2.2.2.2.2.2.2.2.2.2.2.2.2.2.2.2.1
theorem e_L_law_651 : decode cL_law 651 = .ok (.iconst 2, 1) := D_L_law_10.2.2.2.2.2.2.2.2.2.2.2.2.2.2.2.2.2.2.2.2.2.1
theorem e_L_law_652 : decode cL_law 652 = .ok (.iadd, 1) := D_L_law_10.2.2.2.2.2.2.2.2.2.2.2.2.2.2.2.2.2.2.2.2.2.2.1
theorem e_L_law_653 : decode cL_law 653 = .ok (.iaload, 1) := D_L_law_10.2.2.2.2.2.2.2.2.2.2.2.2.2.2.2.2.2.2.2.2.2.2.2.1
theorem e_L_law_654 : decode cL_law 654 = .ok (.invokevirtual 89, 3) := D_L_law_10.2.2.2.2.2.2.2.2.2.2.2.2.2.2.2.2.2.2.2.2.2.2.2.2.1
theorem e_L_law_657 : decode cL_law 657 = .ok (.if_icmp .eq 146, 3) := D_L_law_10.2.2.2.2.2.2.2.2.2.2.2.2.2.2.2.2.2.2.2.2.2.2.2.2.2.1
theorem e_L_law_660 : decode cL_law 660 = .ok (.iconst 0, 1) := D_L_law_10.2.2.2.2.2.2.2.2.2.2.2.2.2.2.2.2.2.2.2.2.2.2.2.2.2.2.1
theorem e_L_law_661 : decode cL_law 661 = .ok (.ireturn, 1) := D_L_law_10.2.2.2.2.2.2.2.2.2.2.2.2.2.2.2.2.2.2.2.2.2.2.2.2.2.2.2.1
theorem e_L_law_662 : decode cL_law 662 = .ok (.aload_n 1, 1) := D_L_law_10.2.2.2.2.2.2.2.2.2.2.2.2.2.2.2.2.2.2.2.2.2.2.2.2.2.2.2.2.1
theorem e_L_law_663 : decode cL_law 663 = .ok (.aload_n 0, 1) := D_L_law_10.2.2.2.2.2.2.2.2.2.2.2.2.2.2.2.2.2.2.2.2.2.2.2.2.2.2.2.2.2.1
theorem e_L_law_664 : decode cL_law 664 = .ok (.iload_n 3, 1) := D_L_law_10.2.2.2.2.2.2.2.2.2.2.2.2.2.2.2.2.2.2.2.2.2.2.2.2.2.2.2.2.2.2.1
theorem e_L_law_665 : decode cL_law 665 = .ok (.iconst 1, 1) := D_L_law_10.2.2.2.2.2.2.2.2.2.2.2.2.2.2.2.2.2.2.2.2.2.2.2.2.2.2.2.2.2.2.2.1
theorem e_L_law_666 : decode cL_law 666 = .ok (.iadd, 1) := D_L_law_10.2.2.2.2.2.2.2.2.2.2.2.2.2.2.2.2.2.2.2.2.2.2.2.2.2.2.2.2.2.2.2.2.1
theorem e_L_law_667 : decode cL_law 667 = .ok (.iaload, 1) := D_L_law_10.2.2.2.2.2.2.2.2.2.2.2.2.2.2.2.2.2.2.2.2.2.2.2.2.2.2.2.2.2.2.2.2.2.1
theorem e_L_law_668 : decode cL_law 668 = .ok (.aload_n 0, 1) := D_L_law_10.2.2.2.2.2.2.2.2.2.2.2.2.2.2.2.2.2.2.2.2.2.2.2.2.2.2.2.2.2.2.2.2.2.2.1
theorem e_L_law_669 : decode cL_law 669 = .ok (.iload_n 3, 1) := D_L_law_10.2.2.2.2.2.2.2.2.2.2.2.2.2.2.2.2.2.2.2.2.2.2.2.2.2.2.2.2.2.2.2.2.2.2.2.1
theorem e_L_law_670 : decode cL_law 670 = .ok (.iconst 2, 1) := D_L_law_10.2.2.2.2.2.2.2.2.2.2.2.2.2.2.2.2.2.2.2.2.2.2.2.2.2.2.2.2.2.2.2.2.2.2.2.2.1
theorem e_L_law_671 : decode cL_law 671 = .ok (.iadd, 1) := D_L_law_10.2.2.2.2.2.2.2.2.2.2.2.2.2.2.2.2.2.2.2.2.2.2.2.2.2.2.2.2.2.2.2.2.2.2.2.2.2.1
theorem e_L_law_672 : decode cL_law 672 = .ok (.iaload, 1) := D_L_law_10.2.2.2.2.2.2.2.2.2.2.2.2.2.2.2.2.2.2.2.2.2.2.2.2.2.2.2.2.2.2.2.2.2.2.2.2.2.2.1
theorem e_L_law_673 : decode cL_law 673 = .ok (.invokevirtual 90, 3) := D_L_law_10.2.2.2.2.2.2.2.2.2.2.2.2.2.2.2.2.2.2.2.2.2.2.2.2.2.2.2.2.2.2.2.2.2.2.2.2.2.2.2.1
set_option maxRecDepth 100000 in
theorem D_L_law_11 : decode cL_law 676 = .ok (.aload_n 2, 1) ∧ decode cL_law 677 = .ok (.aload_n 0, 1) ∧ decode cL_law 678 = .ok (.iload_n 3, 1) ∧ decode cL_law 679 = .ok (.iconst 1, 1) ∧ decode cL_law 680 = .ok (.iadd, 1) ∧ decode cL_law 681 = .ok (.iaload, 1) ∧ decode cL_law 682 = .ok (.aload_n 0, 1) ∧ decode cL_law 683 = .ok (.iload_n 3, 1) ∧ decode cL_law 684 = .ok (.iconst 2, 1) ∧ decode cL_law 685 = .ok (.iadd, 1) ∧ decode cL_law 686 = .ok (.iaload, 1) ∧ decode cL_law 687 = .ok (.invokevirtual 93, 3) ∧ decode cL_law 690 = .ok (.if_icmp .eq 113, 3) ∧ decode cL_law 693 = .ok (.iconst 0, 1) ∧ decode cL_law 694 = .ok (.ireturn, 1) ∧ decode cL_law 695 = .ok (.aload_n 1, 1) ∧ decode cL_law 696 = .ok (.aload_n 0, 1) ∧ decode cL_law 697 = .ok (.iload_n 3, 1) ∧ decode cL_law 698 = .ok (.iconst 1, 1) ∧ decode cL_law 699 = .ok (.iadd, 1) ∧ decode cL_law 700 = .ok (.iaload, 1) ∧ decode cL_law 701 = .ok (.invokevirtual 94, 3) ∧ decode cL_law 704 = .ok (.aload_n 2, 1) ∧ decode cL_law 705 = .ok (.aload_n 0, 1) ∧ decode cL_law 706 = .ok (.iload_n 3, 1) ∧ decode cL_law 707 = .ok (.iconst 1, 1) ∧ decode cL_law 708 = .ok (.iadd, 1) ∧ decode cL_law 709 = .ok (.iaload, 1) ∧ decode cL_law 710 = .ok (.invokevirtual 97, 3) ∧ decode cL_law 713 = .ok (.if_icmp .eq 90, 3) ∧ decode cL_law 716 = .ok (.iconst 0, 1) ∧ decode cL_law 717 = .ok (.ireturn, 1) ∧ decode cL_law 718 = .ok (.aload_n 1, 1) ∧ decode cL_law 719 = .ok (.invokevirtual 98, 3) ∧ decode cL_law 722 = .ok (.aload_n 2, 1) ∧ decode cL_law 723 = .ok (.invokevirtual 101, 3) ∧ decode cL_law 726 = .ok (.if_icmp .eq 77, 3) ∧ decode cL_law 729 = .ok (.iconst 0, 1) ∧ decode cL_law 730 = .ok (.ireturn, 1) ∧ decode cL_law 731 = .ok (.aload_n 1, 1) ∧ True := dq_of (l := (676, .aload_n 2, 1) :: (677, .aload_n 0, 1) :: (678, .iload_n 3, 1) :: (679, .iconst 1, 1) :: (680, .iadd, 1) :: (681, .iaload, 1) :: (682, .aload_n 0, 1) :: (683, .iload_n 3, 1) :: (684, .iconst 2, 1) :: (685, .iadd, 1) :: (686, .iaload, 1) :: (687, .invokevirtual 93, 3) :: (690, .if_icmp .eq 113, 3) :: (693, .iconst 0, 1) :: (694, .ireturn, 1) :: (695, .aload_n 1, 1) :: (696, .aload_n 0, 1) :: (697, .iload_n 3, 1) :: (698, .iconst 1, 1) :: (699, .iadd, 1) :: (700, .iaload, 1) :: (701, .invokevirtual 94, 3) :: (704, .aload_n 2, 1) :: (705, .aload_n 0, 1) :: (706, .iload_n 3, 1) :: (707, .iconst 1, 1) :: (708, .iadd, 1) :: (709, .iaload, 1) :: (710, .invokevirtual 97, 3) :: (713, .if_icmp .eq 90, 3) :: (716, .iconst 0, 1) :: (717, .ireturn, 1) :: (718, .aload_n 1, 1) :: (719, .invokevirtual 98, 3) :: (722, .aload_n 2, 1) :: (723, .invokevirtual 101, 3) :: (726, .if_icmp .eq 77, 3) :: (729, .iconst 0, 1) :: (730, .ireturn, 1) :: (731, .aload_n 1, 1) :: []) (by decide +kernel)
theorem e_L_law_676 : decode cL_law 676 = .ok (.aload_n 2, 1) := D_L_law_11.1
theorem e_L_law_677 : decode cL_law 677 = .ok (.aload_n 0, 1) := D_L_law_11.2.1
theorem e_L_law_678 : decode cL_law 678 = .ok (.iload_n 3, 1) := D_L_law_11.2.2.1
theorem e_L_law_679 : decode cL_law 679 = .ok (.iconst 1, 1) := D_L_law_11.2.2.2.1
theorem e_L_law_680 : decode cL_law 680 = .ok (.iadd, 1) := D_L_law_11.2.2.2.2.1
theorem e_L_law_681 : decode cL_law 681 = .ok (.iaload, 1) := D_L_law_11.2.2.2.2.2.1
theorem e_L_law_682 : decode cL_law 682 = .ok (.aload_n 0, 1) := D_L_law_11.2.2.2.2.2.2.1
theorem e_L_law_683 : decode cL_law 683 = .ok (.iload_n 3, 1) := D_L_law_11.2.2.2.2.2.2.2.1
theorem e_L_law_684 : decode cL_law 684 = .ok (.iconst 2, 1) := D_L_law_11.2.2.2.2.2.2.2.2.1
theorem e_L_law_685 : decode cL_law 685 = .ok (.iadd, 1) := D_L_law_11.2.2.2.2.2.2.2.2.2.1
theorem e_L_law_686 : decode cL_law 686 = .ok (.iaload, 1) := D_L_law_11.2.2.2.2.2.2.2.2.2.2.1
theorem e_L_law_687 : decode cL_law 687 = .ok (.invokevirtual 93, 3) := D_L_law_11.2.2.2.2.2.2.2.2.2.2.2.1
theorem e_L_law_690 : decode cL_law 690 = .ok (.if_icmp .eq 113, 3) := D_L_law_11.2.2.2.2.2.2.2.2.2.2.2.2.1
theorem e_L_law_693 : decode cL_law 693 = .ok (.iconst 0, 1) := D_L_law_11.2.2.2.2.2.2.2.2.2.2.2.2.2.1
theorem e_L_law_694 : decode cL_law 694 = .ok (.ireturn, 1) := D_L_law_11.2.2.2.2.2.2.2.2.2.2.2.2.2.2.1
theorem e_L_law_695 : decode cL_law 695 = .ok (.aload_n 1, 1) := D_L_law_11.2.2.2.2.2.2.2.2.2.2.2.2.2.2.2.1
theorem e_L_law_696 : decode cL_law 696 = .ok (.aload_n 0, 1) := D_L_law_11.2.2.2.2.2.2.2.2.2.2.2.2.2.2.2.2.1
theorem e_L_law_697 : decode cL_law 697 = .ok (.iload_n 3, 1) := D_L_law_11.2.2.2.2.2.2.2.2.2.2.2.2.2.2.2.2.2.1
theorem e_L_law_698 : decode cL_law 698 = .ok (.iconst 1, 1) := D_L_law_11.2.2.2.2.2.2.2.2.2.2.2.2.2.2.2.2.2.2.1
theorem e_L_law_699 : decode cL_law 699 = .ok (.iadd, 1) := D_L_law_11.2.2.2.2.2.2.2.2.2.2.2.2.2.2.2.2.2.2.2.1
theorem e_L_law_700 : decode cL_law 700 = .ok (.iaload, 1) := D_L_law_11.2.2.2.2.2.2.2.2.2.2.2.2.2.2.2.2.2.2.2.2.1
theorem e_L_law_701 : decode cL_law 701 = .ok (.invokevirtual 94, 3) := D_L_law_11.2.2.2.2.2.2.2.2.2.2.2.2.2.2.2.2.2.2.2.2.2.1
theorem e_L_law_704 : decode cL_law 704 = .ok (.aload_n 2, 1) := D_L_law_11.2.2.2.2.2.2.2.2.2.2.2.2.2.2.2.2.2.2.2.2.2.2.1
theorem e_L_law_705 : decode cL_law 705 = .ok (.aload_n 0, 1) := D_L_law_11.2.2.2.2.2.2.2.2.2.2.2.2.2.2.2.2.2.2.2.2.2.2.2.1
theorem e_L_law_706 : decode cL_law 706 = .ok (.iload_n 3, 1) := D_L_law_11.2.2.2.2.2.2.2.2.2.2.2.2.2.2.2.2.2.2.2.2.2.2.2.2.1
theorem e_L_law_707 : decode cL_law 707 = .ok (.iconst 1, 1) := D_L_law_11.2.2.2.2.2.2.2.2.2.2.2.2.2.2.2.2.2.2.2.2.2.2.2.2.2.1
theorem e_L_law_708 : decode cL_law 708 = .ok (.iadd, 1) := D_L_law_11.2.2.2.2.2.2.2.2.2.2.2.2.2.2.2.2.2.2.2.2.2.2.2.2.2.2.1
theorem e_L_law_709 : decode cL_law 709 = .ok (.iaload, 1) := D_L_law_11.2.2.2.2.2.2.2.2.2.2.2.2.2.2.2.2.2.2.2.2.2.2.2.2.2.2.2.1
theorem e_L_law_710 : decode cL_law 710 = .ok (.invokevirtual 97, 3) := D_L_law_11.2.2.2.2.2.2.2.2.2.2.2.2.2.2.2.2.2.2.2.2.2.2.2.2.2.2.2.2.1
theorem e_L_law_713 : decode cL_law 713 = .ok (.if_icmp .eq 90, 3) := D_L_law_11.2.2.2.2.2.2.2.2.2.2.2.2.2.2.2.2.2.2.2.2.2.2.2.2.2.2.2.2.2.1
theorem e_L_law_716 : decode cL_law 716 = .ok (.iconst 0, 1) := D_L_law_11.2.2.2.2.2.2.2.2.2.2.2.2.2.2.2.2.2.2.2.2.2.2.2.2.2.2.2.2.2.2.1
theorem e_L_law_717 : decode cL_law 717 = .ok (.ireturn, 1) := D_L_law_11.2.2.2.2.2.2.2.2.2.2.2.2.2.2.2.2.2.2.2.2.2.2.2.2.2.2.2.2.2.2.2.1
theorem e_L_law_718 : decode cL_law 718 = .ok (.aload_n 1, 1) := D_L_law_11.2.2.2.2.2.2.2.2.2.2.2.2.2.2.2.2.2.2.2.2.2.2.2.2.2.2.2.2.2.2.2.2.1
theorem e_L_law_719 : decode cL_law 719 = .ok (.invokevirtual 98, 3) := D_L_law_11.2.2.2.2.2.2.2.2.2.2.2.2.2.2.2.2.2.2.2.2.2.2.2.2.2.2.2.2.2.2.2.2.2.1
theorem e_L_law_722 : decode cL_law 722 = .ok (.aload_n 2, 1) := D_L_law_11.2.2.2.2.2.2.2.2.2.2.2.2.2.2.2.2.2.2.2.2.2.2.2.2.2.2.2.2.2.2.2.2.2.2.1
theorem e_L_law_723 : decode cL_law 723 = .ok (.invokevirtual 101, 3) := D_L_law_11.2.2.2.2.2.2.2.2.2.2.2.2.2.2.2.2.2.2.2.2.2.2.2.2.2.2.2.2.2.2.2.2.2.2.2.1
theorem e_L_law_726 : decode cL_law 726 = .ok (.if_icmp .eq 77, 3) := D_L_law_11.2.2.2.2.2.2.2.2.2.2.2.2.2.2.2.2.2.2.2.2.2.2.2.2.2.2.2.2.2.2.2.2.2.2.2.2.1
theorem e_L_law_729 : decode cL_law 729 = .ok (.iconst 0, 1) := D_L_law_11.2.2.2.2.2.2.2.2.2.2.2.2.2.2.2.2.2.2.2.2.2.2.2.2.2.2.2.2.2.2.2.2.2.2.2.2.2.1
theorem e_L_law_730 : decode cL_law 730 = .ok (.ireturn, 1) := D_L_law_11.2.2.2.2.2.2.2.2.2.2.2.2.2.2.2.2.2.2.2.2.2.2.2.2.2.2.2.2.2.2.2.2.2.2.2.2.2.2.1
theorem e_L_law_731 : decode cL_law 731 = .ok (.aload_n 1, 1) := D_L_law_11.2.2.2.2.2.2.2.2.2.2.2.2.2.2.2.2.2.2.2.2.2.2.2.2.2.2.2.2.2.2.2.2.2.2.2.2.2.2.2.1
set_option maxRecDepth 100000 in
theorem D_L_law_12 : decode cL_law 732 = .ok (.aload_n 0, 1) ∧ decode cL_law 733 = .ok (.iload_n 3, 1) ∧ decode cL_law 734 = .ok (.iconst 1, 1) ∧ decode cL_law 735 = .ok (.iadd, 1) ∧ decode cL_law 736 = .ok (.iaload, 1) ∧ decode cL_law 737 = .ok (.invokevirtual 102, 3) ∧ decode cL_law 740 = .ok (.aload_n 2, 1) ∧ decode cL_law 741 = .ok (.aload_n 0, 1) ∧ decode cL_law 742 = .ok (.iload_n 3, 1) ∧ decode cL_law 743 = .ok (.iconst 1, 1) ∧ decode cL_law 744 = .ok (.iadd, 1) ∧ decode cL_law 745 = .ok (.iaload, 1) ∧ decode cL_law 746 = .ok (.invokevirtual 105, 3) ∧ decode cL_law 749 = .ok (.if_icmp .eq 54, 3) ∧ decode cL_law 752 = .ok (.iconst 0, 1) ∧ decode cL_law 753 = .ok (.ireturn, 1) ∧ decode cL_law 754 = .ok (.aload_n 1, 1) ∧ decode cL_law 755 = .ok (.invokevirtual 106, 3) ∧ decode cL_law 758 = .ok (.aload_n 2, 1) ∧ decode cL_law 759 = .ok (.invokevirtual 109, 3) ∧ decode cL_law 762 = .ok (.if_icmp .eq 41, 3) ∧ decode cL_law 765 = .ok (.iconst 0, 1) ∧ decode cL_law 766 = .ok (.ireturn, 1) ∧ decode cL_law 767 = .ok (.aload_n 1, 1) ∧ decode cL_law 768 = .ok (.aload_n 0, 1) ∧ decode cL_law 769 = .ok (.iload_n 3, 1) ∧ decode cL_law 770 = .ok (.iconst 1, 1) ∧ decode cL_law 771 = .ok (.iadd, 1) ∧ decode cL_law 772 = .ok (.iaload, 1) ∧ decode cL_law 773 = .ok (.invokevirtual 110, 3) ∧ decode cL_law 776 = .ok (.aload_n 2, 1) ∧ decode cL_law 777 = .ok (.aload_n 0, 1) ∧ decode cL_law 778 = .ok (.iload_n 3, 1) ∧ decode cL_law 779 = .ok (.iconst 1, 1) ∧ decode cL_law 780 = .ok (.iadd, 1) ∧ decode cL_law 781 = .ok (.iaload, 1) ∧ decode cL_law 782 = .ok (.invokevirtual 113, 3) ∧ decode cL_law 785 = .ok (.if_icmp .eq 18, 3) ∧ decode cL_law 788 = .ok (.iconst 0, 1) ∧ decode cL_law 789 = .ok (.ireturn, 1) ∧ True := dq_of (l := (732, .aload_n 0, 1) :: (733, .iload_n 3, 1) :: (734, .iconst 1, 1) :: (735, .iadd, 1) :: (736, .iaload, 1) :: (737, .invokevirtual 102, 3) :: (740, .aload_n 2, 1) :: (741, .aload_n 0, 1) :: (742, .iload_n 3, 1) :: (743, .iconst 1, 1) :: (744, .iadd, 1) :: (745, .iaload, 1) :: (746, .invokevirtual 105, 3) :: (749, .if_icmp .eq 54, 3) :: (752, .iconst 0, 1) :: (753, .ireturn, 1) :: (754, .aload_n 1, 1) :: (755, .invokevirtual 106, 3) :: (758, .aload_n 2, 1) :: (759, .invokevirtual 109, 3) :: (762, .if_icmp .eq 41, 3) :: (765, .iconst 0, 1) :: (766, .ireturn, 1) :: (767, .aload_n 1, 1) :: (768, .aload_n 0, 1) :: (769, .iload_n 3, 1) :: (770, .iconst 1, 1) :: (771, .iadd, 1) :: (772, .iaload, 1) :: (773, .invokevirtual 110, 3) :: (776, .aload_n 2, 1) :: (777, .aload_n 0, 1) :: (778, .iload_n 3, 1) :: (779, .iconst 1, 1) :: (780, .iadd, 1) :: (781, .iaload, 1) :: (782, .invokevirtual 113, 3) :: (785, .if_icmp .eq 18, 3) :: (788, .iconst 0, 1) :: (789, .ireturn, 1) :: []) (by decide +kernel)
theorem e_L_law_732 : decode cL_law 732 = .ok (.aload_n 0, 1) := D_L_law_12.1
theorem e_L_law_733 : decode cL_law 733 = .ok (.iload_n 3, 1) := D_L_law_12.2.1
theorem e_L_law_734 : decode cL_law 734 = .ok (.iconst 1, 1) := D_L_law_12.2.2.1
theorem e_L_law_735 : decode cL_law 735 = .ok (.iadd, 1) := D_L_law_12.2.2.2.1
theorem e_L_law_736 : decode cL_law 736 = .ok (.iaload, 1) := D_L_law_12.2.2.2.2.1
theorem e_L_law_737 : decode cL_law 737 = .ok (.invokevirtual 102, 3) := D_L_law_12.2.2.2.2.2.1
theorem e_L_law_740 : decode cL_law 740 = .ok (.aload_n 2, 1) := D_L_law_12.2.2.2.2.2.2.1
theorem e_L_law_741 : decode cL_law 741 = .ok (.aload_n 0, 1) := D_L_law_12.2.2.2.2.2.2.2.1
theorem e_L_law_742 : decode cL_law 742 = .ok (.iload_n 3, 1) := D_L_law_12.2.2.2.2.2.2.2.2.1
theorem e_L_law_743 : decode cL_law 743 = .ok (.iconst 1, 1) := D_L_law_12.2.2.2.2.2.2.2.2.2.1
theorem e_L_law_744 : decode cL_law 744 = .ok (.iadd, 1) := D_L_law_12.2.2.2.2.2.2.2.2.2.2.1
theorem e_L_law_745 : decode cL_law 745 = .ok (.iaload, 1) := D_L_law_12.2.2.2.2.2.2.2.2.2.2.2.1
theorem e_L_law_746 : decode cL_law 746 = .ok (.invokevirtual 105, 3) := D_L_law_12.2.2.2.2.2.2.2.2.2.2.2.2.1
theorem e_L_law_749 : decode cL_law 749 = .ok (.if_icmp .eq 54, 3) := D_L_law_12.2.2.2.2.2.2.2.2.2.2.2.2.2.1
theorem e_L_law_752 : decode cL_law 752 = .ok (.iconst 0, 1) := D_L_law_12.2.2.2.2.2.2.2.2.2.2.2.2.2.2.1
theorem e_L_law_753 : decode cL_law 753 = .ok (.ireturn, 1) := D_L_law_12.2.2.2.2.2.2.2.2.2.2.2.2.2.2.2.1
theorem e_L_law_754 : decode cL_law 754 = .ok (.aload_n 1, 1) := D_L_law_12.2.2.2.2.2.2.2.2.2.2.2.2.2.2.2.2.1
theorem e_L_law_755 : decode cL_law 755 = .ok (.invokevirtual 106, 3) := D_L_law_12.2.2.2.2.2.2.2.2.2.2.2.2.2.2.2.2.2.1
theorem e_L_law_758 : decode cL_law 758 = .ok (.aload_n 2, 1) := D_L_law_12.2.2.2.2.2.2.2.2.2.2.2.2.2.2.2.2.2.2.1
theorem e_L_law_759 : decode cL_law 759 = .ok (.invokevirtual 109, 3) := D_L_law_12.2.2.2.2.2.2.2.2.2.2.2.2.2.2.2.2.2.2.2.1
theorem e_L_law_762 : decode cL_law 762 = .ok (.if_icmp .eq 41, 3) := D_L_law_12.2.2.2.2.2.2.2.2.2.2.2.2.2.2.2.2.2.2.2.2.1
theorem e_L_law_765 : decode cL_law 765 = .ok (.iconst 0, 1) := D_L_law_12.2.2.2.2.2.2.2.2.2.2.2.2.2.2.2.2.2.2.2.2.2.1
theorem e_L_law_766 : decode cL_law 766 = .ok (.ireturn, 1) := D_L_law_12.2.2.2.2.2.2.2.2.2.2.2.2.2.2.2.2.2.2.2.2.2.2.1
theorem e_L_law_767 : decode cL_law 767 = .ok (.aload_n 1, 1) := D_L_law_12.2.2.2.2.2.2.2.2.2.2.2.2.2.2.2.2.2.2.2.2.2.2.2.1
theorem e_L_law_768 : decode cL_law 768 = .ok (.aload_n 0, 1) := D_L_law_12.2.2.2.2.2.2.2.2.2.2.2.2.2.2.2.2.2.2.2.2.2.2.2.2.1
theorem e_L_law_769 : decode cL_law 769 = .ok (.iload_n 3, 1) := D_L_law_12.2.2.2.2.2.2.2.2.2.2.2.2.2.2.2.2.2.2.2.2.2.2.2.2.2.1
theorem e_L_law_770 : decode cL_law 770 = .ok (.iconst 1, 1) := D_L_law_12.2.2.2.2.2.2.2.2.2.2.2.2.2.2.2.2.2.2.2.2.2.2.2.2.2.2.1
theorem e_L_law_771 : decode cL_law 771 = .ok (.iadd, 1) := D_L_law_12.2.2.2.2.2.2.2.2.2.2.2.2.2.2.2.2.2.2.2.2.2.2.2.2.2.2.2.1
theorem e_L_law_772 : decode cL_law 772 = .ok (.iaload, 1) := D_L_law_12.2.2.2.2.2.2.2.2.2.2.2.2.2.2.2.2.2.2.2.2.2.2.2.2.2.2.2.2.1
theorem e_L_law_773 : decode cL_law 773 = .ok (.invokevirtual 110, 3) := D_L_law_12.2.2.2.2.2.2.2.2.2.2.2.2.2.2.2.2.2.2.2.2.2.2.2.2.2.2.2.2.2.1
theorem e_L_law_776 : decode cL_law 776 = .ok (.aload_n 2, 1) := D_L_law_12.2.2.2.2.2.2.2.2.2.2.2.2.2.2.2.2.2.2.2.2.2.2.2.2.2.2.2.2.2.2.1
theorem e_L_law_777 : decode cL_law 777 = .ok (.aload_n 0, 1) := D_L_law_12.2.2.2.2.2.2.2.2.2.2.2.2.2.2.2.2.2.2.2.2.2.2.2.2.2.2.2.2.2.2.2.1
theorem e_L_law_778 : decode cL_law 778 = .ok (.iload_n 3, 1) := D_L_law_12.2.2.2.2.2.2.2.2.2.2.2.2.2.2.2.2.2.2.2.2.2.2.2.2.2.2.2.2.2.2.2.2.1
theorem e_L_law_779 : decode cL_law 779 = .ok (.iconst 1, 1) := D_L_law_12.2.2.2.2.2.2.2.2.2.2.2.2.2.2.2.2.2.2.2.2.2.2.2.2.2.2.2.2.2.2.2.2.2.1
theorem e_L_law_780 : decode cL_law 780 = .ok (.iadd, 1) := D_L_law_12.2.2.2.2.2.2.2.2.2.2.2.2.2.2.2.2.2.2.2.2.2.2.2.2.2.2.2.2.2.2.2.2.2.2.1
theorem e_L_law_781 : decode cL_law 781 = .ok (.iaload, 1) := D_L_law_12.2.2.2.2.2.2.2.2.2.2.2.2.2.2.2.2.2.2.2.2.2.2.2.2.2.2.2.2.2.2.2.2.2.2.2.1
theorem e_L_law_782 : decode cL_law 782 = .ok (.invokevirtual 113, 3) := D_L_law_12.2.2.2.2.2.2.2.2.2.2.2.2.2.2.2.2.2.2.2.2.2.2.2.2.2.2.2.2.2.2.2.2.2.2.2.2.1
theorem e_L_law_785 : decode cL_law 785 = .ok (.if_icmp .eq 18, 3) := D_L_law_12.2.2.2.2.2.2.2.2.2.2.2.2.2.2.2.2.2.2.2.2.2.2.2.2.2.2.2.2.2.2.2.2.2.2.2.2.2.1
theorem e_L_law_788 : decode cL_law 788 = .ok (.iconst 0, 1) := D_L_law_12.2.2.2.2.2.2.2.2.2.2.2.2.2.2.2.2.2.2.2.2.2.2.2.2.2.2.2.2.2.2.2.2.2.2.2.2.2.2.1
theorem e_L_law_789 : decode cL_law 789 = .ok (.ireturn, 1) := D_L_law_12.2.2.2.2.2.2.2.2.2.2.2.2.2.2.2.2.2.2.2.2.2.2.2.2.2.2.2.2.2.2.2.2.2.2.2.2.2.2.2.1
set_option maxRecDepth 100000 in
theorem D_L_law_13 : decode cL_law 790 = .ok (.aload_n 1, 1) ∧ decode cL_law 791 = .ok (.invokevirtual 114, 3) ∧ decode cL_law 794 = .ok (.aload_n 2, 1) ∧ decode cL_law 795 = .ok (.invokevirtual 117, 3) ∧ decode cL_law 798 = .ok (.if_icmp .eq 5, 3) ∧ decode cL_law 801 = .ok (.iconst 0, 1) ∧ decode cL_law 802 = .ok (.ireturn, 1) ∧ decode cL_law 803 = .ok (.iinc 3 6, 3) ∧ decode cL_law 806 = .ok (.goto (-788), 3) ∧ decode cL_law 809 = .ok (.iconst 1, 1) ∧ decode cL_law 810 = .ok (.ireturn, 1) ∧ True := dq_of (l := (790, .aload_n 1, 1) :: (791, .invokevirtual 114, 3) :: (794, .aload_n 2, 1) :: (795, .invokevirtual 117, 3) :: (798, .if_icmp .eq 5, 3) :: (801, .iconst 0, 1) :: (802, .ireturn, 1) :: (803, .iinc 3 6, 3) :: (806, .goto (-788), 3) :: (809, .iconst 1, 1) :: (810, .ireturn, 1) :: []) (by decide +kernel)
theorem e_L_law_790 : decode cL_law 790 = .ok (.aload_n 1, 1) := D_L_law_13.1
theorem e_L_law_791 : decode cL_law 791 = .ok (.invokevirtual 114, 3) := D_L_law_13.2.1
theorem e_L_law_794 : decode cL_law 794 = .ok (.aload_n 2, 1) := D_L_law_13.2.2.1
theorem e_L_law_795 : decode cL_law 795 = .ok (.invokevirtual 117, 3) := D_L_law_13.2.2.2.1
theorem e_L_law_798 : decode cL_law 798 = .ok (.if_icmp .eq 5, 3) := D_L_law_13.2.2.2.2.1
theorem e_L_law_801 : decode cL_law 801 = .ok (.iconst 0, 1) := D_L_law_13.2.2.2.2.2.1
theorem e_L_law_802 : decode cL_law 802 = .ok (.ireturn, 1) := D_L_law_13.2.2.2.2.2.2.1
theorem e_L_law_803 : decode cL_law 803 = .ok (.iinc 3 6, 3) := D_L_law_13.2.2.2.2.2.2.2.1
theorem e_L_law_806 : decode cL_law 806 = .ok (.goto (-788), 3) := D_L_law_13.2.2.2.2.2.2.2.2.1
theorem e_L_law_809 : decode cL_law 809 = .ok (.iconst 1, 1) := D_L_law_13.2.2.2.2.2.2.2.2.2.1
theorem e_L_law_810 : decode cL_law 810 = .ok (.ireturn, 1) := D_L_law_13.2.2.2.2.2.2.2.2.2.2.1
