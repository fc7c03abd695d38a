set_option maxRecDepth 100000 in
theorem D_X5_init_0 : decode cX5_init 0 = .ok (.aload_n 0, 1) ∧ decode cX5_init 1 = .ok (.invokespecial 3, 3) ∧ decode cX5_init 4 = .ok (.aload_n 0, 1) ∧ decode cX5_init 5 = .ok (.bipush 10, 2) ∧ decode cX5_init 7 = .ok (.anewarray 9, 3) ∧ decode cX5_init 10 = .ok (.putfield 11, 3) ∧ decode cX5_init 13 = .ok (.aload_n 0, 1) ∧ decode cX5_init 14 = .ok (.iconst (-1), 1) ∧ decode cX5_init 15 = .ok (.putfield 17, 3) ∧ decode cX5_init 18 = .ok (.iconst 0, 1) ∧ decode cX5_init 19 = .ok (.istore_n 1, 1) ∧ decode cX5_init 20 = .ok (.iload_n 1, 1) ∧ decode cX5_init 21 = .ok (.bipush 10, 2) ∧ decode cX5_init 23 = .ok (.if_icmp .ge 22, 3) ∧ decode cX5_init 26 = .ok (.aload_n 0, 1) ∧ decode cX5_init 27 = .ok (.getfield 11, 3) ∧ decode cX5_init 30 = .ok (.iload_n 1, 1) ∧ decode cX5_init 31 = .ok (.new 9, 3) ∧ decode cX5_init 34 = .ok (.dup, 1) ∧ decode cX5_init 35 = .ok (.invokespecial 21, 3) ∧ decode cX5_init 38 = .ok (.aastore, 1) ∧ decode cX5_init 39 = .ok (.iinc 1 1, 3) ∧ decode cX5_init 42 = .ok (.goto (-22), 3) ∧ decode cX5_init 45 = .ok (.return_, 1) ∧ True := dq_of (l := (0, .aload_n 0, 1) :: (1, .invokespecial 3, 3) :: (4, .aload_n 0, 1) :: (5, .bipush 10, 2) :: (7, .anewarray 9, 3) :: (10, .putfield 11, 3) :: (13, .aload_n 0, 1) :: (14, .iconst (-1), 1) :: (15, .putfield 17, 3) :: (18, .iconst 0, 1) :: (19, .istore_n 1, 1) :: (20, .iload_n 1, 1) :: (21, .bipush 10, 2) :: (23, .if_icmp .ge 22, 3) :: (26, .aload_n 0, 1) :: (27, .getfield 11, 3) :: (30, .iload_n 1, 1) :: (31, .new 9, 3) :: (34, .dup, 1) :: (35, .invokespecial 21, 3) :: (38, .aastore, 1) :: (39, .iinc 1 1, 3) :: (42, .goto (-22), 3) :: (45, .return_, 1) :: []) (by decide +kernel)
theorem e_X5_init_0 : decode cX5_init 0 = .ok (.aload_n 0, 1) := D_X5_init_0.1
theorem e_X5_init_1 : decode cX5_init 1 = .ok (.invokespecial 3, 3) := D_X5_init_0.2.1
theorem e_X5_init_4 : decode cX5_init 4 = .ok (.aload_n 0, 1) := D_X5_init_0.2.2.1
theorem e_X5_init_5 : decode cX5_init 5 = .ok (.bipush 10, 2) := D_X5_init_0.2.2.2.1
theorem e_X5_init_7 : decode cX5_init 7 = .ok (.anewarray 9, 3) := D_X5_init_0.2.2.2.2.1
theorem e_X5_init_10 : decode cX5_init 10 = .ok (.putfield 11, 3) := D_X5_init_0.2.2.2.2.2.1
theorem e_X5_init_13 : decode cX5_init 13 = .ok (.aload_n 0, 1) := D_X5_init_0.2.2.2.2.2.2.1
theorem e_X5_init_14 : decode cX5_init 14 = .ok (.iconst (-1), 1) := D_X5_init_0.2.2.2.2.2.2.2.1
theorem e_X5_init_15 : decode cX5_init 15 = .ok (.putfield 17, 3) := D_X5_init_0.2.2.2.2.2.2.2.2.1
theorem e_X5_init_18 : decode cX5_init 18 = .ok (.iconst 0, 1) := D_X5_init_0.2.2.2.2.2.2.2.2.2.1
theorem e_X5_init_19 : decode cX5_init 19 = .ok (.istore_n 1, 1) := D_X5_init_0.2.2.2.2.2.2.2.2.2.2.1
theorem e_X5_init_20 : decode cX5_init 20 = .ok (.iload_n 1, 1) := D_X5_init_0.2.2.2.2.2.2.2.2.2.2.2.1
theorem e_X5_init_21 : decode cX5_init 21 = .ok (.bipush 10, 2) := D_X5_init_0.2.2.2.2.2.2.2.2.2.2.2.2.1
theorem e_X5_init_23 : decode cX5_init 23 = .ok (.if_icmp .ge 22, 3) := D_X5_init_0.2.2.2.2.2.2.2.2.2.2.2.2.2.1
theorem e_X5_init_26 : decode cX5_init 26 = .ok (.aload_n 0, 1) := D_X5_init_0.2.2.2.2.2.2.2.2.2.2.2.2.2.2.1
theorem e_X5_init_27 : decode cX5_init 27 = .ok (.getfield 11, 3) := D_X5_init_0.2.2.2.2.2.2.2.2.2.2.2.2.2.2.2.1
theorem e_X5_init_30 : decode cX5_init 30 = .ok (.iload_n 1, 1) := D_X5_init_0.2.2.2.2.2.2.2.2.2.2.2.2.2.2.2.2.1
theorem e_X5_init_31 : decode cX5_init 31 = .ok (.new 9, 3) := D_X5_init_0.2.2.2.2.2.2.2.2.2.2.2.2.2.2.2.2.2.1
theorem e_X5_init_34 : decode cX5_init 34 = .ok (.dup, 1) := D_X5_init_0.2.2.2.2.2.2.2.2.2.2.2.2.2.2.2.2.2.2.1
theorem e_X5_init_35 : decode cX5_init 35 = .ok (.invokespecial 21, 3) := D_X5_init_0.2.2.2.2.2.2.2.2.2.2.2.2.2.2.2.2.2.2.2.1
theorem e_X5_init_38 : decode cX5_init 38 = .ok (.aastore, 1) := D_X5_init_0.2.2.2.2.2.2.2.2.2.2.2.2.2.2.2.2.2.2.2.2.1
theorem e_X5_init_39 : decode cX5_init 39 = .ok (.iinc 1 1, 3) := D_X5_init_0.2.2.2.2.2.2.2.2.2.2.2.2.2.2.2.2.2.2.2.2.2.1
theorem e_X5_init_42 : decode cX5_init 42 = .ok (.goto (-22), 3) := D_X5_init_0.2.2.2.2.2.2.2.2.2.2.2.2.2.2.2.2.2.2.2.2.2.2.1
theorem e_X5_init_45 : decode cX5_init 45 = .ok (.return_, 1) := D_X5_init_0.2.2.2.2.2.2.2.2.2.2.2.2.2.2.2.2.2.2.2.2.2.2.2.1
set_option maxRecDepth 100000 in
theorem D_X5_copyFrom_0 : decode cX5_copyFrom 0 = .ok (.aload_n 0, 1) ∧ decode cX5_copyFrom 1 = .ok (.aload_n 1, 1) ∧ decode cX5_copyFrom 2 = .ok (.getfield 22, 3) ∧ decode cX5_copyFrom 5 = .ok (.putfield 22, 3) ∧ decode cX5_copyFrom 8 = .ok (.aload_n 0, 1) ∧ decode cX5_copyFrom 9 = .ok (.aload_n 1, 1) ∧ decode cX5_copyFrom 10 = .ok (.getfield 25, 3) ∧ decode cX5_copyFrom 13 = .ok (.putfield 25, 3) ∧ decode cX5_copyFrom 16 = .ok (.aload_n 0, 1) ∧ decode cX5_copyFrom 17 = .ok (.aload_n 1, 1) ∧ decode cX5_copyFrom 18 = .ok (.getfield 17, 3) ∧ decode cX5_copyFrom 21 = .ok (.putfield 17, 3) ∧ decode cX5_copyFrom 24 = .ok (.iconst 0, 1) ∧ decode cX5_copyFrom 25 = .ok (.istore_n 2, 1) ∧ decode cX5_copyFrom 26 = .ok (.iload_n 2, 1) ∧ decode cX5_copyFrom 27 = .ok (.aload_n 0, 1) ∧ decode cX5_copyFrom 28 = .ok (.getfield 22, 3) ∧ decode cX5_copyFrom 31 = .ok (.if_icmp .ge 30, 3) ∧ decode cX5_copyFrom 34 = .ok (.iload_n 2, 1) ∧ decode cX5_copyFrom 35 = .ok (.bipush 10, 2) ∧ decode cX5_copyFrom 37 = .ok (.if_icmp .ge 24, 3) ∧ decode cX5_copyFrom 40 = .ok (.aload_n 0, 1) ∧ decode cX5_copyFrom 41 = .ok (.getfield 11, 3) ∧ decode cX5_copyFrom 44 = .ok (.iload_n 2, 1) ∧ decode cX5_copyFrom 45 = .ok (.aaload, 1) ∧ decode cX5_copyFrom 46 = .ok (.aload_n 1, 1) ∧ decode cX5_copyFrom 47 = .ok (.getfield 11, 3) ∧ decode cX5_copyFrom 50 = .ok (.iload_n 2, 1) ∧ decode cX5_copyFrom 51 = .ok (.aaload, 1) ∧ decode cX5_copyFrom 52 = .ok (.invokevirtual 28, 3) ∧ decode cX5_copyFrom 55 = .ok (.iinc 2 1, 3) ∧ decode cX5_copyFrom 58 = .ok (.goto (-32), 3) ∧ decode cX5_copyFrom 61 = .ok (.return_, 1) ∧ True := dq_of (l := (0, .aload_n 0, 1) :: (1, .aload_n 1, 1) :: (2, .getfield 22, 3) :: (5, .putfield 22, 3) :: (8, .aload_n 0, 1) :: (9, .aload_n 1, 1) :: (10, .getfield 25, 3) :: (13, .putfield 25, 3) :: (16, .aload_n 0, 1) :: (17, .aload_n 1, 1) :: (18, .getfield 17, 3) :: (21, .putfield 17, 3) :: (24, .iconst 0, 1) :: (25, .istore_n 2, 1) :: (26, .iload_n 2, 1) :: (27, .aload_n 0, 1) :: (28, .getfield 22, 3) :: (31, .if_icmp .ge 30, 3) :: (34, .iload_n 2, 1) :: (35, .bipush 10, 2) :: (37, .if_icmp .ge 24, 3) :: (40, .aload_n 0, 1) :: (41, .getfield 11, 3) :: (44, .iload_n 2, 1) :: (45, .aaload, 1) :: (46, .aload_n 1, 1) :: (47, .getfield 11, 3) :: (50, .iload_n 2, 1) :: (51, .aaload, 1) :: (52, .invokevirtual 28, 3) :: (55, .iinc 2 1, 3) :: (58, .goto (-32), 3) :: (61, .return_, 1) :: []) (by decide +kernel)
theorem e_X5_copyFrom_0 : decode cX5_copyFrom 0 = .ok (.aload_n 0, 1) := D_X5_copyFrom_0.1
theorem e_X5_copyFrom_1 : decode cX5_copyFrom 1 = .ok (.aload_n 1, 1) := D_X5_copyFrom_0.2.1
theorem e_X5_copyFrom_2 : decode cX5_copyFrom 2 = .ok (.getfield 22, 3) := D_X5_copyFrom_0.2.2.1
theorem e_X5_copyFrom_5 : decode cX5_copyFrom 5 = .ok (.putfield 22, 3) := D_X5_copyFrom_0.2.2.2.1
theorem e_X5_copyFrom_8 : decode cX5_copyFrom 8 = .ok (.aload_n 0, 1) := D_X5_copyFrom_0.2.2.2.2.1
theorem e_X5_copyFrom_9 : decode cX5_copyFrom 9 = .ok (.aload_n 1, 1) := D_X5_copyFrom_0.2.2.2.2.2.1
theorem e_X5_copyFrom_10 : decode cX5_copyFrom 10 = .ok (.getfield 25, 3) := D_X5_copyFrom_0.2.2.2.2.2.2.1
theorem e_X5_copyFrom_13 : decode cX5_copyFrom 13 = .ok (.putfield 25, 3) := D_X5_copyFrom_0.2.2.2.2.2.2.2.1
theorem e_X5_copyFrom_16 : decode cX5_copyFrom 16 = .ok (.aload_n 0, 1) := D_X5_copyFrom_0.2.2.2.2.2.2.2.2.1
theorem e_X5_copyFrom_17 : decode cX5_copyFrom 17 = .ok (.aload_n 1, 1) := D_X5_copyFrom_0.2.2.2.2.2.2.2.2.2.1
theorem e_X5_copyFrom_18 : decode cX5_copyFrom 18 = .ok (.getfield 17, 3) := D_X5_copyFrom_0.2.2.2.2.2.2.2.2.2.2.1
theorem e_X5_copyFrom_21 : decode cX5_copyFrom 21 = .ok (.putfield 17, 3) := D_X5_copyFrom_0.2.2.2.2.2.2.2.2.2.2.2.1
theorem e_X5_copyFrom_24 : decode cX5_copyFrom 24 = .ok (.iconst 0, 1) := D_X5_copyFrom_0.2.2.2.2.2.2.2.2.2.2.2.2.1
theorem e_X5_copyFrom_25 : decode cX5_copyFrom 25 = .ok (.istore_n 2, 1) := D_X5_copyFrom_0.2.2.2.2.2.2.2.2.2.2.2.2.2.1
theorem e_X5_copyFrom_26 : decode cX5_copyFrom 26 = .ok (.iload_n 2, 1) := D_X5_copyFrom_0.2.2.2.2.2.2.2.2.2.2.2.2.2.2.1
theorem e_X5_copyFrom_27 : decode cX5_copyFrom 27 = .ok (.aload_n 0, 1) := D_X5_copyFrom_0.2.2.2.2.2.2.2.2.2.2.2.2.2.2.2.1
theorem e_X5_copyFrom_28 : decode cX5_copyFrom 28 = .ok (.getfield 22, 3) := D_X5_copyFrom_0.2.2.2.2.2.2.2.2.2.2.2.2.2.2.2.2.1
theorem e_X5_copyFrom_31 : decode cX5_copyFrom 31 = .ok (.if_icmp .ge 30, 3) := D_X5_copyFrom_0.2.2.2.2.2.2.2.2.2.2.2.2.2.2.2.2.2.1
theorem e_X5_copyFrom_34 : decode cX5_copyFrom 34 = .ok (.iload_n 2, 1) := D_X5_copyFrom_0.2.2.2.2.2.2.2.2.2.2.2.2.2.2.2.2.2.2.1
theorem e_X5_copyFrom_35 : decode cX5_copyFrom 35 = .ok (.bipush 10, 2) := D_X5_copyFrom_0.2.2.2.2.2.2.2.2.2.2.2.2.2.2.2.2.2.2.2.1
theorem e_X5_copyFrom_37 : decode cX5_copyFrom 37 = .ok (.if_icmp .ge 24, 3) := D_X5_copyFrom_0.2.2.2.2.2.2.2.2.2.2.2.2.2.2.2.2.2.2.2.2.1
theorem e_X5_copyFrom_40 : decode cX5_copyFrom 40 = .ok (.aload_n 0, 1) := D_X5_copyFrom_0.2.2.2.2.2.2.2.2.2.2.2.2.2.2.2.2.2.2.2.2.2.1
theorem e_X5_copyFrom_41 : decode cX5_copyFrom 41 = .ok (.getfield 11, 3) := D_X5_copyFrom_0.2.2.2.2.2.2.2.2.2.2.2.2.2.2.2.2.2.2.2.2.2.2.1
theorem e_X5_copyFrom_44 : decode cX5_copyFrom 44 = .ok (.iload_n 2, 1) := D_X5_copyFrom_0.2.2.2.2.2.2.2.2.2.2.2.2.2.2.2.2.2.2.2.2.2.2.2.1
theorem e_X5_copyFrom_45 : decode cX5_copyFrom 45 = .ok (.aaload, 1) := D_X5_copyFrom_0.2.2.2.2.2.2.2.2.2.2.2.2.2.2.2.2.2.2.2.2.2.2.2.2.1
theorem e_X5_copyFrom_46 : decode cX5_copyFrom 46 = .ok (.aload_n 1, 1) := D_X5_copyFrom_0.2.2.2.2.2.2.2.2.2.2.2.2.2.2.2.2.2.2.2.2.2.2.2.2.2.1
theorem e_X5_copyFrom_47 : decode cX5_copyFrom 47 = .ok (.getfield 11, 3) := D_X5_copyFrom_0.2.2.2.2.2.2.2.2.2.2.2.2.2.2.2.2.2.2.2.2.2.2.2.2.2.2.1
theorem e_X5_copyFrom_50 : decode cX5_copyFrom 50 = .ok (.iload_n 2, 1) := D_X5_copyFrom_0.2.2.2.2.2.2.2.2.2.2.2.2.2.2.2.2.2.2.2.2.2.2.2.2.2.2.2.1
theorem e_X5_copyFrom_51 : decode cX5_copyFrom 51 = .ok (.aaload, 1) := D_X5_copyFrom_0.2.2.2.2.2.2.2.2.2.2.2.2.2.2.2.2.2.2.2.2.2.2.2.2.2.2.2.2.1
theorem e_X5_copyFrom_52 : decode cX5_copyFrom 52 = .ok (.invokevirtual 28, 3) := D_X5_copyFrom_0.2.2.2.2.2.2.2.2.2.2.2.2.2.2.2.2.2.2.2.2.2.2.2.2.2.2.2.2.2.1
theorem e_X5_copyFrom_55 : decode cX5_copyFrom 55 = .ok (.iinc 2 1, 3) := D_X5_copyFrom_0.2.2.2.2.2.2.2.2.2.2.2.2.2.2.2.2.2.2.2.2.2.2.2.2.2.2.2.2.2.2.1
theorem e_X5_copyFrom_58 : decode cX5_copyFrom 58 = .ok (.goto (-32), 3) := D_X5_copyFrom_0.2.2.2.2.2.2.2.2.2.2.2.2.2.2.2.2.2.2.2.2.2.2.2.2.2.2.2.2.2.2.2.1
theorem e_X5_copyFrom_61 : decode cX5_copyFrom 61 = .ok (.return_, 1) := D_X5_copyFrom_0.2.2.2.2.2.2.2.2.2.2.2.2.2.2.2.2.2.2.2.2.2.2.2.2.2.2.2.2.2.2.2.2.1
set_option maxRecDepth 100000 in
theorem D_X5_room_0 : decode cX5_room 0 = .ok (.bipush 10, 2) ∧ decode cX5_room 2 = .ok (.aload_n 0, 1) ∧ decode cX5_room 3 = .ok (.getfield 22, 3) ∧ decode cX5_room 6 = .ok (.isub, 1) ∧ decode cX5_room 7 = .ok (.ireturn, 1) ∧ True := dq_of (l := (0, .bipush 10, 2) :: (2, .aload_n 0, 1) :: (3, .getfield 22, 3) :: (6, .isub, 1) :: (7, .ireturn, 1) :: []) (by decide +kernel)
theorem e_X5_room_0 : decode cX5_room 0 = .ok (.bipush 10, 2) := D_X5_room_0.1
theorem e_X5_room_2 : decode cX5_room 2 = .ok (.aload_n 0, 1) := D_X5_room_0.2.1
theorem e_X5_room_3 : decode cX5_room 3 = .ok (.getfield 22, 3) := D_X5_room_0.2.2.1
theorem e_X5_room_6 : decode cX5_room 6 = .ok (.isub, 1) := D_X5_room_0.2.2.2.1
theorem e_X5_room_7 : decode cX5_room 7 = .ok (.ireturn, 1) := D_X5_room_0.2.2.2.2.1
set_option maxRecDepth 100000 in
theorem D_X5_append_0 : decode cX5_append 0 = .ok (.aload_n 0, 1) ∧ decode cX5_append 1 = .ok (.getfield 22, 3) ∧ decode cX5_append 4 = .ok (.bipush 10, 2) ∧ decode cX5_append 6 = .ok (.if_icmp .lt 6, 3) ∧ decode cX5_append 9 = .ok (.bipush (-3), 2) ∧ decode cX5_append 11 = .ok (.ireturn, 1) ∧ decode cX5_append 12 = .ok (.aload_n 0, 1) ∧ decode cX5_append 13 = .ok (.getfield 11, 3) ∧ decode cX5_append 16 = .ok (.aload_n 0, 1) ∧ decode cX5_append 17 = .ok (.getfield 22, 3) ∧ decode cX5_append 20 = .ok (.aaload, 1) ∧ decode cX5_append 21 = .ok (.astore_n 2, 1) ∧ decode cX5_append 22 = .ok (.aload_n 2, 1) ∧ decode cX5_append 23 = .ok (.aload_n 1, 1) ∧ decode cX5_append 24 = .ok (.invokevirtual 28, 3) ∧ decode cX5_append 27 = .ok (.aload_n 2, 1) ∧ decode cX5_append 28 = .ok (.aload_n 0, 1) ∧ decode cX5_append 29 = .ok (.getfield 25, 3) ∧ decode cX5_append 32 = .ok (.putfield 32, 3) ∧ decode cX5_append 35 = .ok (.aload_n 0, 1) ∧ decode cX5_append 36 = .ok (.dup, 1) ∧ decode cX5_append 37 = .ok (.getfield 22, 3) ∧ decode cX5_append 40 = .ok (.iconst 1, 1) ∧ decode cX5_append 41 = .ok (.iadd, 1) ∧ decode cX5_append 42 = .ok (.putfield 22, 3) ∧ decode cX5_append 45 = .ok (.aload_n 0, 1) ∧ decode cX5_append 46 = .ok (.dup, 1) ∧ decode cX5_append 47 = .ok (.getfield 25, 3) ∧ decode cX5_append 50 = .ok (.iconst 1, 1) ∧ decode cX5_append 51 = .ok (.iadd, 1) ∧ decode cX5_append 52 = .ok (.putfield 25, 3) ∧ decode cX5_append 55 = .ok (.aload_n 2, 1) ∧ decode cX5_append 56 = .ok (.getfield 32, 3) ∧ decode cX5_append 59 = .ok (.ireturn, 1) ∧ True := dq_of (l := (0, .aload_n 0, 1) :: (1, .getfield 22, 3) :: (4, .bipush 10, 2) :: (6, .if_icmp .lt 6, 3) :: (9, .bipush (-3), 2) :: (11, .ireturn, 1) :: (12, .aload_n 0, 1) :: (13, .getfield 11, 3) :: (16, .aload_n 0, 1) :: (17, .getfield 22, 3) :: (20, .aaload, 1) :: (21, .astore_n 2, 1) :: (22, .aload_n 2, 1) :: (23, .aload_n 1, 1) :: (24, .invokevirtual 28, 3) :: (27, .aload_n 2, 1) :: (28, .aload_n 0, 1) :: (29, .getfield 25, 3) :: (32, .putfield 32, 3) :: (35, .aload_n 0, 1) :: (36, .dup, 1) :: (37, .getfield 22, 3) :: (40, .iconst 1, 1) :: (41, .iadd, 1) :: (42, .putfield 22, 3) :: (45, .aload_n 0, 1) :: (46, .dup, 1) :: (47, .getfield 25, 3) :: (50, .iconst 1, 1) :: (51, .iadd, 1) :: (52, .putfield 25, 3) :: (55, .aload_n 2, 1) :: (56, .getfield 32, 3) :: (59, .ireturn, 1) :: []) (by decide +kernel)
theorem e_X5_append_0 : decode cX5_append 0 = .ok (.aload_n 0, 1) := D_X5_append_0.1
theorem e_X5_append_1 : decode cX5_append 1 = .ok (.getfield 22, 3) := D_X5_append_0.2.1
theorem e_X5_append_4 : decode cX5_append 4 = .ok (.bipush 10, 2) := D_X5_append_0.2.2.1
theorem e_X5_append_6 : decode cX5_append 6 = .ok (.if_icmp .lt 6, 3) := D_X5_append_0.2.2.2.1
theorem e_X5_append_9 : decode cX5_append 9 = .ok (.bipush (-3), 2) := D_X5_append_0.2.2.2.2.1
theorem e_X5_append_11 : decode cX5_append 11 = .ok (.ireturn, 1) := D_X5_append_0.2.2.2.2.2.1
theorem e_X5_append_12 : decode cX5_append 12 = .ok (.aload_n 0, 1) := D_X5_append_0.2.2.2.2.2.2.1
theorem e_X5_append_13 : decode cX5_append 13 = .ok (.getfield 11, 3) := D_X5_append_0.2.2.2.2.2.2.2.1
theorem e_X5_append_16 : decode cX5_append 16 = .ok (.aload_n 0, 1) := D_X5_append_0.2.2.2.2.2.2.2.2.1
theorem e_X5_append_17 : decode cX5_append 17 = .ok (.getfield 22, 3) := D_X5_append_0.2.2.2.2.2.2.2.2.2.1
theorem e_X5_append_20 : decode cX5_append 20 = .ok (.aaload, 1) := D_X5_append_0.2.2.2.2.2.2.2.2.2.2.1
theorem e_X5_append_21 : decode cX5_append 21 = .ok (.astore_n 2, 1) := D_X5_append_0.2.2.2.2.2.2.2.2.2.2.2.1
theorem e_X5_append_22 : decode cX5_append 22 = .ok (.aload_n 2, 1) := D_X5_append_0.2.2.2.2.2.2.2.2.2.2.2.2.1
theorem e_X5_append_23 : decode cX5_append 23 = .ok (.aload_n 1, 1) := D_X5_append_0.2.2.2.2.2.2.2.2.2.2.2.2.2.1
theorem e_X5_append_24 : decode cX5_append 24 = .ok (.invokevirtual 28, 3) := D_X5_append_0.2.2.2.2.2.2.2.2.2.2.2.2.2.2.1
theorem e_X5_append_27 : decode cX5_append 27 = .ok (.aload_n 2, 1) := D_X5_append_0.2.2.2.2.2.2.2.2.2.2.2.2.2.2.2.1
theorem e_X5_append_28 : decode cX5_append 28 = .ok (.aload_n 0, 1) := D_X5_append_0.2.2.2.2.2.2.2.2.2.2.2.2.2.2.2.2.1
theorem e_X5_append_29 : decode cX5_append 29 = .ok (.getfield 25, 3) := D_X5_append_0.2.2.2.2.2.2.2.2.2.2.2.2.2.2.2.2.2.1
theorem e_X5_append_32 : decode cX5_append 32 = .ok (.putfield 32, 3) := D_X5_append_0.2.2.2.2.2.2.2.2.2.2.2.2.2.2.2.2.2.2.1
theorem e_X5_append_35 : decode cX5_append 35 = .ok (.aload_n 0, 1) := D_X5_append_0.2.2.2.2.2.2.2.2.2.2.2.2.2.2.2.2.2.2.2.1
theorem e_X5_append_36 : decode cX5_append 36 = .ok (.dup, 1) := D_X5_append_0.2.2.2.2.2.2.2.2.2.2.2.2.2.2.2.2.2.2.2.2.1
theorem e_X5_append_37 : decode cX5_append 37 = .ok (.getfield 22, 3) := D_X5_append_0.2.2.2.2.2.2.2.2.2.2.2.2.2.2.2.2.2.2.2.2.2.1
theorem e_X5_append_40 : decode cX5_append 40 = .ok (.iconst 1, 1) := D_X5_append_0.2.2.2.2.2.2.2.2.2.2.2.2.2.2.2.2.2.2.2.2.2.2.1
theorem e_X5_append_41 : decode cX5_append 41 = .ok (.iadd, 1) := D_X5_append_0.2.2.2.2.2.2.2.2.2.2.2.2.2.2.2.2.2.2.2.2.2.2.2.1
theorem e_X5_append_42 : decode cX5_append 42 = .ok (.putfield 22, 3) := D_X5_append_0.2.2.2.2.2.2.2.2.2.2.2.2.2.2.2.2.2.2.2.2.2.2.2.2.1
theorem e_X5_append_45 : decode cX5_append 45 = .ok (.aload_n 0, 1) := D_X5_append_0.2.2.2.2.2.2.2.2.2.2.2.2.2.2.2.2.2.2.2.2.2.2.2.2.2.1
theorem e_X5_append_46 : decode cX5_append 46 = .ok (.dup, 1) := D_X5_append_0.2.2.2.2.2.2.2.2.2.2.2.2.2.2.2.2.2.2.2.2.2.2.2.2.2.2.1
theorem e_X5_append_47 : decode cX5_append 47 = .ok (.getfield 25, 3) := D_X5_append_0.2.2.2.2.2.2.2.2.2.2.2.2.2.2.2.2.2.2.2.2.2.2.2.2.2.2.2.1
theorem e_X5_append_50 : decode cX5_append 50 = .ok (.iconst 1, 1) := D_X5_append_0.2.2.2.2.2.2.2.2.2.2.2.2.2.2.2.2.2.2.2.2.2.2.2.2.2.2.2.2.1
theorem e_X5_append_51 : decode cX5_append 51 = .ok (.iadd, 1) := D_X5_append_0.2.2.2.2.2.2.2.2.2.2.2.2.2.2.2.2.2.2.2.2.2.2.2.2.2.2.2.2.2.1
theorem e_X5_append_52 : decode cX5_append 52 = .ok (.putfield 25, 3) := D_X5_append_0.2.2.2.2.2.2.2.2.2.2.2.2.2.2.2.2.2.2.2.2.2.2.2.2.2.2.2.2.2.2.1
theorem e_X5_append_55 : decode cX5_append 55 = .ok (.aload_n 2, 1) := D_X5_append_0.2.2.2.2.2.2.2.2.2.2.2.2.2.2.2.2.2.2.2.2.2.2.2.2.2.2.2.2.2.2.2.1
theorem e_X5_append_56 : decode cX5_append 56 = .ok (.getfield 32, 3) := D_X5_append_0.2.2.2.2.2.2.2.2.2.2.2.2.2.2.2.2.2.2.2.2.2.2.2.2.2.2.2.2.2.2.2.2.1
theorem e_X5_append_59 : decode cX5_append 59 = .ok (.ireturn, 1) := D_X5_append_0.2.2.2.2.2.2.2.2.2.2.2.2.2.2.2.2.2.2.2.2.2.2.2.2.2.2.2.2.2.2.2.2.2.1
set_option maxRecDepth 100000 in
theorem D_X5_find_0 : decode cX5_find 0 = .ok (.iconst 0, 1) ∧ decode cX5_find 1 = .ok (.istore_n 2, 1) ∧ decode cX5_find 2 = .ok (.iload_n 2, 1) ∧ decode cX5_find 3 = .ok (.aload_n 0, 1) ∧ decode cX5_find 4 = .ok (.getfield 22, 3) ∧ decode cX5_find 7 = .ok (.if_icmp .ge 35, 3) ∧ decode cX5_find 10 = .ok (.iload_n 2, 1) ∧ decode cX5_find 11 = .ok (.bipush 10, 2) ∧ decode cX5_find 13 = .ok (.if_icmp .ge 29, 3) ∧ decode cX5_find 16 = .ok (.aload_n 0, 1) ∧ decode cX5_find 17 = .ok (.getfield 11, 3) ∧ decode cX5_find 20 = .ok (.iload_n 2, 1) ∧ decode cX5_find 21 = .ok (.aaload, 1) ∧ decode cX5_find 22 = .ok (.getfield 32, 3) ∧ decode cX5_find 25 = .ok (.iload_n 1, 1) ∧ decode cX5_find 26 = .ok (.if_icmp .ne 10, 3) ∧ decode cX5_find 29 = .ok (.aload_n 0, 1) ∧ decode cX5_find 30 = .ok (.getfield 11, 3) ∧ decode cX5_find 33 = .ok (.iload_n 2, 1) ∧ decode cX5_find 34 = .ok (.aaload, 1) ∧ decode cX5_find 35 = .ok (.areturn, 1) ∧ decode cX5_find 36 = .ok (.iinc 2 1, 3) ∧ decode cX5_find 39 = .ok (.goto (-37), 3) ∧ decode cX5_find 42 = .ok (.aconst_null, 1) ∧ decode cX5_find 43 = .ok (.areturn, 1) ∧ True := dq_of (l := (0, .iconst 0, 1) :: (1, .istore_n 2, 1) :: (2, .iload_n 2, 1) :: (3, .aload_n 0, 1) :: (4, .getfield 22, 3) :: (7, .if_icmp .ge 35, 3) :: (10, .iload_n 2, 1) :: (11, .bipush 10, 2) :: (13, .if_icmp .ge 29, 3) :: (16, .aload_n 0, 1) :: (17, .getfield 11, 3) :: (20, .iload_n 2, 1) :: (21, .aaload, 1) :: (22, .getfield 32, 3) :: (25, .iload_n 1, 1) :: (26, .if_icmp .ne 10, 3) :: (29, .aload_n 0, 1) :: (30, .getfield 11, 3) :: (33, .iload_n 2, 1) :: (34, .aaload, 1) :: (35, .areturn, 1) :: (36, .iinc 2 1, 3) :: (39, .goto (-37), 3) :: (42, .aconst_null, 1) :: (43, .areturn, 1) :: []) (by decide +kernel)
theorem e_X5_find_0 : decode cX5_find 0 = .ok (.iconst 0, 1) := D_X5_find_0.1
theorem e_X5_find_1 : decode cX5_find 1 = .ok (.istore_n 2, 1) := D_X5_find_0.2.1
theorem e_X5_find_2 : decode cX5_find 2 = .ok (.iload_n 2, 1) := D_X5_find_0.2.2.1
theorem e_X5_find_3 : decode cX5_find 3 = .ok (.aload_n 0, 1) := D_X5_find_0.2.2.2.1
theorem e_X5_find_4 : decode cX5_find 4 = .ok (.getfield 22, 3) := D_X5_find_0.2.2.2.2.1
theorem e_X5_find_7 : decode cX5_find 7 = .ok (.if_icmp .ge 35, 3) := D_X5_find_0.2.2.2.2.2.1
theorem e_X5_find_10 : decode cX5_find 10 = .ok (.iload_n 2, 1) := D_X5_find_0.2.2.2.2.2.2.1
theorem e_X5_find_11 : decode cX5_find 11 = .ok (.bipush 10, 2) := D_X5_find_0.2.2.2.2.2.2.2.1
theorem e_X5_find_13 : decode cX5_find 13 = .ok (.if_icmp .ge 29, 3) := D_X5_find_0.2.2.2.2.2.2.2.2.1
theorem e_X5_find_16 : decode cX5_find 16 = .ok (.aload_n 0, 1) := D_X5_find_0.2.2.2.2.2.2.2.2.2.1
theorem e_X5_find_17 : decode cX5_find 17 = .ok (.getfield 11, 3) := D_X5_find_0.2.2.2.2.2.2.2.2.2.2.1
theorem e_X5_find_20 : decode cX5_find 20 = .ok (.iload_n 2, 1) := D_X5_find_0.2.2.2.2.2.2.2.2.2.2.2.1
theorem e_X5_find_21 : decode cX5_find 21 = .ok (.aaload, 1) := D_X5_find_0.2.2.2.2.2.2.2.2.2.2.2.2.1
theorem e_X5_find_22 : decode cX5_find 22 = .ok (.getfield 32, 3) := D_X5_find_0.2.2.2.2.2.2.2.2.2.2.2.2.2.1
theorem e_X5_find_25 : decode cX5_find 25 = .ok (.iload_n 1, 1) := D_X5_find_0.2.2.2.2.2.2.2.2.2.2.2.2.2.2.1
theorem e_X5_find_26 : decode cX5_find 26 = .ok (.if_icmp .ne 10, 3) := D_X5_find_0.2.2.2.2.2.2.2.2.2.2.2.2.2.2.2.1
theorem e_X5_find_29 : decode cX5_find 29 = .ok (.aload_n 0, 1) := D_X5_find_0.2.2.2.2.2.2.2.2.2.2.2.2.2.2.2.2.1
theorem e_X5_find_30 : decode cX5_find 30 = .ok (.getfield 11, 3) := D_X5_find_0.2.2.2.2.2.2.2.2.2.2.2.2.2.2.2.2.2.1
theorem e_X5_find_33 : decode cX5_find 33 = .ok (.iload_n 2, 1) := D_X5_find_0.2.2.2.2.2.2.2.2.2.2.2.2.2.2.2.2.2.2.1
theorem e_X5_find_34 : decode cX5_find 34 = .ok (.aaload, 1) := D_X5_find_0.2.2.2.2.2.2.2.2.2.2.2.2.2.2.2.2.2.2.2.1
theorem e_X5_find_35 : decode cX5_find 35 = .ok (.areturn, 1) := D_X5_find_0.2.2.2.2.2.2.2.2.2.2.2.2.2.2.2.2.2.2.2.2.1
theorem e_X5_find_36 : decode cX5_find 36 = .ok (.iinc 2 1, 3) := D_X5_find_0.2.2.2.2.2.2.2.2.2.2.2.2.2.2.2.2.2.2.2.2.2.1
theorem e_X5_find_39 : decode cX5_find 39 = .ok (.goto (-37), 3) := D_X5_find_0.2.2.2.2.2.2.2.2.2.2.2.2.2.2.2.2.2.2.2.2.2.2.1
theorem e_X5_find_42 : decode cX5_find 42 = .ok (.aconst_null, 1) := D_X5_find_0.2.2.2.2.2.2.2.2.2.2.2.2.2.2.2.2.2.2.2.2.2.2.2.1
theorem e_X5_find_43 : decode cX5_find 43 = .ok (.areturn, 1) := D_X5_find_0.2.2.2.2.2.2.2.2.2.2.2.2.2.2.2.2.2.2.2.2.2.2.2.2.1
set_option maxRecDepth 100000 in
theorem D_X5_remove_0 : decode cX5_remove 0 = .ok (.iconst 0, 1) ∧ decode cX5_remove 1 = .ok (.istore_n 2, 1) ∧ decode cX5_remove 2 = .ok (.iconst 0, 1) ∧ decode cX5_remove 3 = .ok (.istore_n 3, 1) ∧ decode cX5_remove 4 = .ok (.iload_n 3, 1) ∧ decode cX5_remove 5 = .ok (.aload_n 0, 1) ∧ decode cX5_remove 6 = .ok (.getfield 22, 3) ∧ decode cX5_remove 9 = .ok (.if_icmp .ge 40, 3) ∧ decode cX5_remove 12 = .ok (.iload_n 3, 1) ∧ decode cX5_remove 13 = .ok (.bipush 10, 2) ∧ decode cX5_remove 15 = .ok (.if_icmp .ge 34, 3) ∧ decode cX5_remove 18 = .ok (.aload_n 0, 1) ∧ decode cX5_remove 19 = .ok (.getfield 11, 3) ∧ decode cX5_remove 22 = .ok (.iload_n 3, 1) ∧ decode cX5_remove 23 = .ok (.aaload, 1) ∧ decode cX5_remove 24 = .ok (.aload_n 1, 1) ∧ decode cX5_remove 25 = .ok (.if_acmp .eq 18, 3) ∧ decode cX5_remove 28 = .ok (.aload_n 0, 1) ∧ decode cX5_remove 29 = .ok (.getfield 11, 3) ∧ decode cX5_remove 32 = .ok (.iload_n 2, 1) ∧ decode cX5_remove 33 = .ok (.aload_n 0, 1) ∧ decode cX5_remove 34 = .ok (.getfield 11, 3) ∧ decode cX5_remove 37 = .ok (.iload_n 3, 1) ∧ decode cX5_remove 38 = .ok (.aaload, 1) ∧ decode cX5_remove 39 = .ok (.aastore, 1) ∧ decode cX5_remove 40 = .ok (.iinc 2 1, 3) ∧ decode cX5_remove 43 = .ok (.iinc 3 1, 3) ∧ decode cX5_remove 46 = .ok (.goto (-42), 3) ∧ decode cX5_remove 49 = .ok (.iload_n 2, 1) ∧ decode cX5_remove 50 = .ok (.aload_n 0, 1) ∧ decode cX5_remove 51 = .ok (.getfield 22, 3) ∧ decode cX5_remove 54 = .ok (.if_icmp .ge 15, 3) ∧ decode cX5_remove 57 = .ok (.aload_n 0, 1) ∧ decode cX5_remove 58 = .ok (.getfield 11, 3) ∧ decode cX5_remove 61 = .ok (.iload_n 2, 1) ∧ decode cX5_remove 62 = .ok (.aload_n 1, 1) ∧ decode cX5_remove 63 = .ok (.aastore, 1) ∧ decode cX5_remove 64 = .ok (.aload_n 0, 1) ∧ decode cX5_remove 65 = .ok (.iload_n 2, 1) ∧ decode cX5_remove 66 = .ok (.putfield 22, 3) ∧ True := dq_of (l := (0, .iconst 0, 1) :: (1, .istore_n 2, 1) :: (2, .iconst 0, 1) :: (3, .istore_n 3, 1) :: (4, .iload_n 3, 1) :: (5, .aload_n 0, 1) :: (6, .getfield 22, 3) :: (9, .if_icmp .ge 40, 3) :: (12, .iload_n 3, 1) :: (13, .bipush 10, 2) :: (15, .if_icmp .ge 34, 3) :: (18, .aload_n 0, 1) :: (19, .getfield 11, 3) :: (22, .iload_n 3, 1) :: (23, .aaload, 1) :: (24, .aload_n 1, 1) :: (25, .if_acmp .eq 18, 3) :: (28, .aload_n 0, 1) :: (29, .getfield 11, 3) :: (32, .iload_n 2, 1) :: (33, .aload_n 0, 1) :: (34, .getfield 11, 3) :: (37, .iload_n 3, 1) :: (38, .aaload, 1) :: (39, .aastore, 1) :: (40, .iinc 2 1, 3) :: (43, .iinc 3 1, 3) :: (46, .goto (-42), 3) :: (49, .iload_n 2, 1) :: (50, .aload_n 0, 1) :: (51, .getfield 22, 3) :: (54, .if_icmp .ge 15, 3) :: (57, .aload_n 0, 1) :: (58, .getfield 11, 3) :: (61, .iload_n 2, 1) :: (62, .aload_n 1, 1) :: (63, .aastore, 1) :: (64, .aload_n 0, 1) :: (65, .iload_n 2, 1) :: (66, .putfield 22, 3) :: []) (by decide +kernel)
theorem e_X5_remove_0 : decode cX5_remove 0 = .ok (.iconst 0, 1) := D_X5_remove_0.1
theorem e_X5_remove_1 : decode cX5_remove 1 = .ok (.istore_n 2, 1) := D_X5_remove_0.2.1
theorem e_X5_remove_2 : decode cX5_remove 2 = .ok (.iconst 0, 1) := D_X5_remove_0.2.2.1
theorem e_X5_remove_3 : decode cX5_remove 3 = .ok (.istore_n 3, 1) := D_X5_remove_0.2.2.2.1
theorem e_X5_remove_4 : decode cX5_remove 4 = .ok (.iload_n 3, 1) := D_X5_remove_0.2.2.2.2.1
theorem e_X5_remove_5 : decode cX5_remove 5 = .ok (.aload_n 0, 1) := D_X5_remove_0.2.2.2.2.2.1
theorem e_X5_remove_6 : decode cX5_remove 6 = .ok (.getfield 22, 3) := D_X5_remove_0.2.2.2.2.2.2.1
theorem e_X5_remove_9 : decode cX5_remove 9 = .ok (.if_icmp .ge 40, 3) := D_X5_remove_0.2.2.2.2.2.2.2.1
theorem e_X5_remove_12 : decode cX5_remove 12 = .ok (.iload_n 3, 1) := D_X5_remove_0.2.2.2.2.2.2.2.2.1
theorem e_X5_remove_13 : decode cX5_remove 13 = .ok (.bipush 10, 2) := D_X5_remove_0.2.2.2.2.2.2.2.2.2.1
theorem e_X5_remove_15 : decode cX5_remove 15 = .ok (.if_icmp .ge 34, 3) := D_X5_remove_0.2.2.2.2.2.2.2.2.2.2.1
theorem e_X5_remove_18 : decode cX5_remove 18 = .ok (.aload_n 0, 1) := D_X5_remove_0.2.2.2.2.2.2.2.2.2.2.2.1
theorem e_X5_remove_19 : decode cX5_remove 19 = .ok (.getfield 11, 3) := D_X5_remove_0.2.2.2.2.2.2.2.2.2.2.2.2.1
theorem e_X5_remove_22 : decode cX5_remove 22 = .ok (.iload_n 3, 1) := D_X5_remove_0.2.2.2.2.2.2.2.2.2.2.2.2.2.1
theorem e_X5_remove_23 : decode cX5_remove 23 = .ok (.aaload, 1) := D_X5_remove_0.2.2.2.2.2.2.2.2.2.2.2.2.2.2.1
theorem e_X5_remove_24 : decode cX5_remove 24 = .ok (.aload_n 1, 1) := D_X5_remove_0.2.2.2.2.2.2.2.2.2.2.2.2.2.2.2.1
theorem e_X5_remove_25 : decode cX5_remove 25 = .ok (.if_acmp .eq 18, 3) := D_X5_remove_0.2.2.2.2.2.2.2.2.2.2.2.2.2.2.2.2.1
theorem e_X5_remove_28 : decode cX5_remove 28 = .ok (.aload_n 0, 1) := D_X5_remove_0.2.2.2.2.2.2.2.2.2.2.2.2.2.2.2.2.2.1
theorem e_X5_remove_29 : decode cX5_remove 29 = .ok (.getfield 11, 3) := D_X5_remove_0.2.2.2.2.2.2.2.2.2.2.2.2.2.2.2.2.2.2.1
theorem e_X5_remove_32 : decode cX5_remove 32 = .ok (.iload_n 2, 1) := D_X5_remove_0.2.2.2.2.2.2.2.2.2.2.2.2.2.2.2.2.2.2.2.1
theorem e_X5_remove_33 : decode cX5_remove 33 = .ok (.aload_n 0, 1) := D_X5_remove_0.2.2.2.2.2.2.2.2.2.2.2.2.2.2.2.2.2.2.2.2.1
theorem e_X5_remove_34 : decode cX5_remove 34 = .ok (.getfield 11, 3) := D_X5_remove_0.2.2.2.2.2.2.2.2.2.2.2.2.2.2.2.2.2.2.2.2.2.1
theorem e_X5_remove_37 : decode cX5_remove 37 = .ok (.iload_n 3, 1) := D_X5_remove_0.2.2.2.2.2.2.2.2.2.2.2.2.2.2.2.2.2.2.2.2.2.2.1
theorem e_X5_remove_38 : decode cX5_remove 38 = .ok (.aaload, 1) := D_X5_remove_0.2.2.2.2.2.2.2.2.2.2.2.2.2.2.2.2.2.2.2.2.2.2.2.1
theorem e_X5_remove_39 : decode cX5_remove 39 = .ok (.aastore, 1) := D_X5_remove_0.2.2.2.2.2.2.2.2.2.2.2.2.2.2.2.2.2.2.2.2.2.2.2.2.1
theorem e_X5_remove_40 : decode cX5_remove 40 = .ok (.iinc 2 1, 3) := D_X5_remove_0.2.2.2.2.2.2.2.2.2.2.2.2.2.2.2.2.2.2.2.2.2.2.2.2.2.1
theorem e_X5_remove_43 : decode cX5_remove 43 = .ok (.iinc 3 1, 3) := D_X5_remove_0.2.2.2.2.2.2.2.2.2.2.2.2.2.2.2.2.2.2.2.2.2.2.2.2.2.2.1
theorem e_X5_remove_46 : decode cX5_remove 46 = .ok (.goto (-42), 3) := D_X5_remove_0.2.2.2.2.2.2.2.2.2.2.2.2.2.2.2.2.2.2.2.2.2.2.2.2.2.2.2.1
theorem e_X5_remove_49 : decode cX5_remove 49 = .ok (.iload_n 2, 1) := D_X5_remove_0.2.2.2.2.2.2.2.2.2.2.2.2.2.2.2.2.2.2.2.2.2.2.2.2.2.2.2.2.1
theorem e_X5_remove_50 : decode cX5_remove 50 = .ok (.aload_n 0, 1) := D_X5_remove_0.2.2.2.2.2.2.2.2.2.2.2.2.2.2.2.2.2.2.2.2.2.2.2.2.2.2.2.2.2.1
theorem e_X5_remove_51 : decode cX5_remove 51 = .ok (.getfield 22, 3) := D_X5_remove_0.2.2.2.2.2.2.2.2.2.2.2.2.2.2.2.2.2.2.2.2.2.2.2.2.2.2.2.2.2.2.1
theorem e_X5_remove_54 : decode cX5_remove 54 = .ok (.if_icmp .ge 15, 3) := D_X5_remove_0.2.2.2.2.2.2.2.2.2.2.2.2.2.2.2.2.2.2.2.2.2.2.2.2.2.2.2.2.2.2.2.1
theorem e_X5_remove_57 : decode cX5_remove 57 = .ok (.aload_n 0, 1) := D_X5_remove_0.2.2.2.2.2.2.2.2.2.2.2.2.2.2.2.2.2.2.2.2.2.2.2.2.2.2.2.2.2.2.2.2.1
theorem e_X5_remove_58 : decode cX5_remove 58 = .ok (.getfield 11, 3) := D_X5_remove_0.2.2.2.2.2.2.2.2.2.2.2.2.2.2.2.2.2.2.2.2.2.2.2.2.2.2.2.2.2.2.2.2.2.1
theorem e_X5_remove_61 : decode cX5_remove 61 = .ok (.iload_n 2, 1) := D_X5_remove_0.2.2.2.2.2.2.2.2.2.2.2.2.2.2.2.2.2.2.2.2.2.2.2.2.2.2.2.2.2.2.2.2.2.2.1
theorem e_X5_remove_62 : decode cX5_remove 62 = .ok (.aload_n 1, 1) := D_X5_remove_0.2.2.2.2.2.2.2.2.2.2.2.2.2.2.2.2.2.2.2.2.2.2.2.2.2.2.2.2.2.2.2.2.2.2.2.1
theorem e_X5_remove_63 : decode cX5_remove 63 = .ok (.aastore, 1) := D_X5_remove_0.2.2.2.2.2.2.2.2.2.2.2.2.2.2.2.2.2.2.2.2.2.2.2.2.2.2.2.2.2.2.2.2.2.2.2.2.1
theorem e_X5_remove_64 : decode cX5_remove 64 = .ok (.aload_n 0, 1) := D_X5_remove_0.2.2.2.2.2.2.2.2.2.2.2.2.2.2.2.2.2.2.2.2.2.2.2.2.2.2.2.2.2.2.2.2.2.2.2.2.2.1
theorem e_X5_remove_65 : decode cX5_remove 65 = .ok (.iload_n 2, 1) := D_X5_remove_0.2.2.2.2.2.2.2.2.2.2.2.2.2.2.2.2.2.2.2.2.2.2.2.2.2.2.2.2.2.2.2.2.2.2.2.2.2.2.1
theorem e_X5_remove_66 : decode cX5_remove 66 = .ok (.putfield 22, 3) := D_X5_remove_0.2.2.2.2.2.2.2.2.2.2.2.2.2.2.2.2.2.2.2.2.2.2.2.2.2.2.2.2.2.2.2.2.2.2.2.2.2.2.2.1
set_option maxRecDepth 100000 in
theorem D_X5_remove_1 : decode cX5_remove 69 = .ok (.aload_n 0, 1) ∧ decode cX5_remove 70 = .ok (.getfield 17, 3) ∧ decode cX5_remove 73 = .ok (.aload_n 1, 1) ∧ decode cX5_remove 74 = .ok (.getfield 32, 3) ∧ decode cX5_remove 77 = .ok (.if_icmp .ne 8, 3) ∧ decode cX5_remove 80 = .ok (.aload_n 0, 1) ∧ decode cX5_remove 81 = .ok (.iconst (-1), 1) ∧ decode cX5_remove 82 = .ok (.putfield 17, 3) ∧ decode cX5_remove 85 = .ok (.return_, 1) ∧ True := dq_of (l := (69, .aload_n 0, 1) :: (70, .getfield 17, 3) :: (73, .aload_n 1, 1) :: (74, .getfield 32, 3) :: (77, .if_icmp .ne 8, 3) :: (80, .aload_n 0, 1) :: (81, .iconst (-1), 1) :: (82, .putfield 17, 3) :: (85, .return_, 1) :: []) (by decide +kernel)
theorem e_X5_remove_69 : decode cX5_remove 69 = .ok (.aload_n 0, 1) := D_X5_remove_1.1
theorem e_X5_remove_70 : decode cX5_remove 70 = .ok (.getfield 17, 3) := D_X5_remove_1.2.1
theorem e_X5_remove_73 : decode cX5_remove 73 = .ok (.aload_n 1, 1) := D_X5_remove_1.2.2.1
theorem e_X5_remove_74 : decode cX5_remove 74 = .ok (.getfield 32, 3) := D_X5_remove_1.2.2.2.1
theorem e_X5_remove_77 : decode cX5_remove 77 = .ok (.if_icmp .ne 8, 3) := D_X5_remove_1.2.2.2.2.1
theorem e_X5_remove_80 : decode cX5_remove 80 = .ok (.aload_n 0, 1) := D_X5_remove_1.2.2.2.2.2.1
theorem e_X5_remove_81 : decode cX5_remove 81 = .ok (.iconst (-1), 1) := D_X5_remove_1.2.2.2.2.2.2.1
theorem e_X5_remove_82 : decode cX5_remove 82 = .ok (.putfield 17, 3) := D_X5_remove_1.2.2.2.2.2.2.2.1
theorem e_X5_remove_85 : decode cX5_remove 85 = .ok (.return_, 1) := D_X5_remove_1.2.2.2.2.2.2.2.2.1
set_option maxRecDepth 100000 in
theorem D_X5_heldJobs_0 : decode cX5_heldJobs 0 = .ok (.iconst 0, 1) ∧ decode cX5_heldJobs 1 = .ok (.istore_n 1, 1) ∧ decode cX5_heldJobs 2 = .ok (.iconst 0, 1) ∧ decode cX5_heldJobs 3 = .ok (.istore_n 2, 1) ∧ decode cX5_heldJobs 4 = .ok (.iload_n 2, 1) ∧ decode cX5_heldJobs 5 = .ok (.aload_n 0, 1) ∧ decode cX5_heldJobs 6 = .ok (.getfield 22, 3) ∧ decode cX5_heldJobs 9 = .ok (.if_icmp .ge 30, 3) ∧ decode cX5_heldJobs 12 = .ok (.iload_n 2, 1) ∧ decode cX5_heldJobs 13 = .ok (.bipush 10, 2) ∧ decode cX5_heldJobs 15 = .ok (.if_icmp .ge 24, 3) ∧ decode cX5_heldJobs 18 = .ok (.aload_n 0, 1) ∧ decode cX5_heldJobs 19 = .ok (.getfield 11, 3) ∧ decode cX5_heldJobs 22 = .ok (.iload_n 2, 1) ∧ decode cX5_heldJobs 23 = .ok (.aaload, 1) ∧ decode cX5_heldJobs 24 = .ok (.getfield 35, 3) ∧ decode cX5_heldJobs 27 = .ok (.ifCond .eq 6, 3) ∧ decode cX5_heldJobs 30 = .ok (.iinc 1 1, 3) ∧ decode cX5_heldJobs 33 = .ok (.iinc 2 1, 3) ∧ decode cX5_heldJobs 36 = .ok (.goto (-32), 3) ∧ decode cX5_heldJobs 39 = .ok (.iload_n 1, 1) ∧ decode cX5_heldJobs 40 = .ok (.ireturn, 1) ∧ True := dq_of (l := (0, .iconst 0, 1) :: (1, .istore_n 1, 1) :: (2, .iconst 0, 1) :: (3, .istore_n 2, 1) :: (4, .iload_n 2, 1) :: (5, .aload_n 0, 1) :: (6, .getfield 22, 3) :: (9, .if_icmp .ge 30, 3) :: (12, .iload_n 2, 1) :: (13, .bipush 10, 2) :: (15, .if_icmp .ge 24, 3) :: (18, .aload_n 0, 1) :: (19, .getfield 11, 3) :: (22, .iload_n 2, 1) :: (23, .aaload, 1) :: (24, .getfield 35, 3) :: (27, .ifCond .eq 6, 3) :: (30, .iinc 1 1, 3) :: (33, .iinc 2 1, 3) :: (36, .goto (-32), 3) :: (39, .iload_n 1, 1) :: (40, .ireturn, 1) :: []) (by decide +kernel)
theorem e_X5_heldJobs_0 : decode cX5_heldJobs 0 = .ok (.iconst 0, 1) := D_X5_heldJobs_0.1
theorem e_X5_heldJobs_1 : decode cX5_heldJobs 1 = .ok (.istore_n 1, 1) := D_X5_heldJobs_0.2.1
theorem e_X5_heldJobs_2 : decode cX5_heldJobs 2 = .ok (.iconst 0, 1) := D_X5_heldJobs_0.2.2.1
theorem e_X5_heldJobs_3 : decode cX5_heldJobs 3 = .ok (.istore_n 2, 1) := D_X5_heldJobs_0.2.2.2.1
theorem e_X5_heldJobs_4 : decode cX5_heldJobs 4 = .ok (.iload_n 2, 1) := D_X5_heldJobs_0.2.2.2.2.1
theorem e_X5_heldJobs_5 : decode cX5_heldJobs 5 = .ok (.aload_n 0, 1) := D_X5_heldJobs_0.2.2.2.2.2.1
theorem e_X5_heldJobs_6 : decode cX5_heldJobs 6 = .ok (.getfield 22, 3) := D_X5_heldJobs_0.2.2.2.2.2.2.1
theorem e_X5_heldJobs_9 : decode cX5_heldJobs 9 = .ok (.if_icmp .ge 30, 3) := D_X5_heldJobs_0.2.2.2.2.2.2.2.1
theorem e_X5_heldJobs_12 : decode cX5_heldJobs 12 = .ok (.iload_n 2, 1) := D_X5_heldJobs_0.2.2.2.2.2.2.2.2.1
theorem e_X5_heldJobs_13 : decode cX5_heldJobs 13 = .ok (.bipush 10, 2) := D_X5_heldJobs_0.2.2.2.2.2.2.2.2.2.1
theorem e_X5_heldJobs_15 : decode cX5_heldJobs 15 = .ok (.if_icmp .ge 24, 3) := D_X5_heldJobs_0.2.2.2.2.2.2.2.2.2.2.1
theorem e_X5_heldJobs_18 : decode cX5_heldJobs 18 = .ok (.aload_n 0, 1) := D_X5_heldJobs_0.2.2.2.2.2.2.2.2.2.2.2.1
theorem e_X5_heldJobs_19 : decode cX5_heldJobs 19 = .ok (.getfield 11, 3) := D_X5_heldJobs_0.2.2.2.2.2.2.2.2.2.2.2.2.1
theorem e_X5_heldJobs_22 : decode cX5_heldJobs 22 = .ok (.iload_n 2, 1) := D_X5_heldJobs_0.2.2.2.2.2.2.2.2.2.2.2.2.2.1
theorem e_X5_heldJobs_23 : decode cX5_heldJobs 23 = .ok (.aaload, 1) := D_X5_heldJobs_0.2.2.2.2.2.2.2.2.2.2.2.2.2.2.1
theorem e_X5_heldJobs_24 : decode cX5_heldJobs 24 = .ok (.getfield 35, 3) := D_X5_heldJobs_0.2.2.2.2.2.2.2.2.2.2.2.2.2.2.2.1
theorem e_X5_heldJobs_27 : decode cX5_heldJobs 27 = .ok (.ifCond .eq 6, 3) := D_X5_heldJobs_0.2.2.2.2.2.2.2.2.2.2.2.2.2.2.2.2.1
theorem e_X5_heldJobs_30 : decode cX5_heldJobs 30 = .ok (.iinc 1 1, 3) := D_X5_heldJobs_0.2.2.2.2.2.2.2.2.2.2.2.2.2.2.2.2.2.1
theorem e_X5_heldJobs_33 : decode cX5_heldJobs 33 = .ok (.iinc 2 1, 3) := D_X5_heldJobs_0.2.2.2.2.2.2.2.2.2.2.2.2.2.2.2.2.2.2.1
theorem e_X5_heldJobs_36 : decode cX5_heldJobs 36 = .ok (.goto (-32), 3) := D_X5_heldJobs_0.2.2.2.2.2.2.2.2.2.2.2.2.2.2.2.2.2.2.2.1
theorem e_X5_heldJobs_39 : decode cX5_heldJobs 39 = .ok (.iload_n 1, 1) := D_X5_heldJobs_0.2.2.2.2.2.2.2.2.2.2.2.2.2.2.2.2.2.2.2.2.1
theorem e_X5_heldJobs_40 : decode cX5_heldJobs 40 = .ok (.ireturn, 1) := D_X5_heldJobs_0.2.2.2.2.2.2.2.2.2.2.2.2.2.2.2.2.2.2.2.2.2.1
set_option maxRecDepth 100000 in
theorem D_X5_isAhead_0 : decode cX5_isAhead 0 = .ok (.aload_n 1, 1) ∧ decode cX5_isAhead 1 = .ok (.getfield 35, 3) ∧ decode cX5_isAhead 4 = .ok (.aload_n 2, 1) ∧ decode cX5_isAhead 5 = .ok (.getfield 35, 3) ∧ decode cX5_isAhead 8 = .ok (.if_icmp .eq 8, 3) ∧ decode cX5_isAhead 11 = .ok (.aload_n 2, 1) ∧ decode cX5_isAhead 12 = .ok (.getfield 35, 3) ∧ decode cX5_isAhead 15 = .ok (.ireturn, 1) ∧ decode cX5_isAhead 16 = .ok (.aload_n 1, 1) ∧ decode cX5_isAhead 17 = .ok (.getfield 32, 3) ∧ decode cX5_isAhead 20 = .ok (.aload_n 0, 1) ∧ decode cX5_isAhead 21 = .ok (.getfield 17, 3) ∧ decode cX5_isAhead 24 = .ok (.if_icmp .eq 14, 3) ∧ decode cX5_isAhead 27 = .ok (.aload_n 2, 1) ∧ decode cX5_isAhead 28 = .ok (.getfield 32, 3) ∧ decode cX5_isAhead 31 = .ok (.aload_n 0, 1) ∧ decode cX5_isAhead 32 = .ok (.getfield 17, 3) ∧ decode cX5_isAhead 35 = .ok (.if_icmp .ne 31, 3) ∧ decode cX5_isAhead 38 = .ok (.aload_n 1, 1) ∧ decode cX5_isAhead 39 = .ok (.getfield 32, 3) ∧ decode cX5_isAhead 42 = .ok (.aload_n 0, 1) ∧ decode cX5_isAhead 43 = .ok (.getfield 17, 3) ∧ decode cX5_isAhead 46 = .ok (.if_icmp .ne 18, 3) ∧ decode cX5_isAhead 49 = .ok (.aload_n 2, 1) ∧ decode cX5_isAhead 50 = .ok (.getfield 32, 3) ∧ decode cX5_isAhead 53 = .ok (.aload_n 0, 1) ∧ decode cX5_isAhead 54 = .ok (.getfield 17, 3) ∧ decode cX5_isAhead 57 = .ok (.if_icmp .eq 7, 3) ∧ decode cX5_isAhead 60 = .ok (.iconst 1, 1) ∧ decode cX5_isAhead 61 = .ok (.goto 4, 3) ∧ decode cX5_isAhead 64 = .ok (.iconst 0, 1) ∧ decode cX5_isAhead 65 = .ok (.ireturn, 1) ∧ decode cX5_isAhead 66 = .ok (.aload_n 1, 1) ∧ decode cX5_isAhead 67 = .ok (.getfield 39, 3) ∧ decode cX5_isAhead 70 = .ok (.aload_n 2, 1) ∧ decode cX5_isAhead 71 = .ok (.getfield 39, 3) ∧ decode cX5_isAhead 74 = .ok (.if_icmp .eq 20, 3) ∧ decode cX5_isAhead 77 = .ok (.aload_n 1, 1) ∧ decode cX5_isAhead 78 = .ok (.getfield 39, 3) ∧ decode cX5_isAhead 81 = .ok (.aload_n 2, 1) ∧ True := dq_of (l := (0, .aload_n 1, 1) :: (1, .getfield 35, 3) :: (4, .aload_n 2, 1) :: (5, .getfield 35, 3) :: (8, .if_icmp .eq 8, 3) :: (11, .aload_n 2, 1) :: (12, .getfield 35, 3) :: (15, .ireturn, 1) :: (16, .aload_n 1, 1) :: (17, .getfield 32, 3) :: (20, .aload_n 0, 1) :: (21, .getfield 17, 3) :: (24, .if_icmp .eq 14, 3) :: (27, .aload_n 2, 1) :: (28, .getfield 32, 3) :: (31, .aload_n 0, 1) :: (32, .getfield 17, 3) :: (35, .if_icmp .ne 31, 3) :: (38, .aload_n 1, 1) :: (39, .getfield 32, 3) :: (42, .aload_n 0, 1) :: (43, .getfield 17, 3) :: (46, .if_icmp .ne 18, 3) :: (49, .aload_n 2, 1) :: (50, .getfield 32, 3) :: (53, .aload_n 0, 1) :: (54, .getfield 17, 3) :: (57, .if_icmp .eq 7, 3) :: (60, .iconst 1, 1) :: (61, .goto 4, 3) :: (64, .iconst 0, 1) :: (65, .ireturn, 1) :: (66, .aload_n 1, 1) :: (67, .getfield 39, 3) :: (70, .aload_n 2, 1) :: (71, .getfield 39, 3) :: (74, .if_icmp .eq 20, 3) :: (77, .aload_n 1, 1) :: (78, .getfield 39, 3) :: (81, .aload_n 2, 1) :: []) (by decide +kernel)
theorem e_X5_isAhead_0 : decode cX5_isAhead 0 = .ok (.aload_n 1, 1) := D_X5_isAhead_0.1
theorem e_X5_isAhead_1 : decode cX5_isAhead 1 = .ok (.getfield 35, 3) := D_X5_isAhead_0.2.1
theorem e_X5_isAhead_4 : decode cX5_isAhead 4 = .ok (.aload_n 2, 1) := D_X5_isAhead_0.2.2.1
theorem e_X5_isAhead_5 : decode cX5_isAhead 5 = .ok (.getfield 35, 3) := D_X5_isAhead_0.2.2.2.1
theorem e_X5_isAhead_8 : decode cX5_isAhead 8 = .ok (.if_icmp .eq 8, 3) := D_X5_isAhead_0.2.2.2.2.1
theorem e_X5_isAhead_11 : decode cX5_isAhead 11 = .ok (.aload_n 2, 1) := D_X5_isAhead_0.2.2.2.2.2.1
theorem e_X5_isAhead_12 : decode cX5_isAhead 12 = .ok (.getfield 35, 3) := D_X5_isAhead_0.2.2.2.2.2.2.1
theorem e_X5_isAhead_15 : decode cX5_isAhead 15 = .ok (.ireturn, 1) := D_X5_isAhead_0.2.2.2.2.2.2.2.1
theorem e_X5_isAhead_16 : decode cX5_isAhead 16 = .ok (.aload_n 1, 1) := D_X5_isAhead_0.2.2.2.2.2.2.2.2.1
theorem e_X5_isAhead_17 : decode cX5_isAhead 17 = .ok (.getfield 32, 3) := D_X5_isAhead_0.2.2.2.2.2.2.2.2.2.1
theorem e_X5_isAhead_20 : decode cX5_isAhead 20 = .ok (.aload_n 0, 1) := D_X5_isAhead_0.2.2.2.2.2.2.2.2.2.2.1
theorem e_X5_isAhead_21 : decode cX5_isAhead 21 = .ok (.getfield 17, 3) := D_X5_isAhead_0.2.2.2.2.2.2.2.2.2.2.2.1
theorem e_X5_isAhead_24 : decode cX5_isAhead 24 = .ok (.if_icmp .eq 14, 3) := D_X5_isAhead_0.2.2.2.2.2.2.2.2.2.2.2.2.1
theorem e_X5_isAhead_27 : decode cX5_isAhead 27 = .ok (.aload_n 2, 1) := D_X5_isAhead_0.2.2.2.2.2.2.2.2.2.2.2.2.2.1
theorem e_X5_isAhead_28 : decode cX5_isAhead 28 = .ok (.getfield 32, 3) := D_X5_isAhead_0.2.2.2.2.2.2.2.2.2.2.2.2.2.2.1
theorem e_X5_isAhead_31 : decode cX5_isAhead 31 = .ok (.aload_n 0, 1) := D_X5_isAhead_0.2.2.2.2.2.2.2.2.2.2.2.2.2.2.2.1
theorem e_X5_isAhead_32 : decode cX5_isAhead 32 = .ok (.getfield 17, 3) := D_X5_isAhead_0.2.2.2.2.2.2.2.2.2.2.2.2.2.2.2.2.1
theorem e_X5_isAhead_35 : decode cX5_isAhead 35 = .ok (.if_icmp .ne 31, 3) := D_X5_isAhead_0.2.2.2.2.2.2.2.2.2.2.2.2.2.2.2.2.2.1
theorem e_X5_isAhead_38 : decode cX5_isAhead 38 = .ok (.aload_n 1, 1) := D_X5_isAhead_0.2.2.2.2.2.2.2.2.2.2.2.2.2.2.2.2.2.2.1
theorem e_X5_isAhead_39 : decode cX5_isAhead 39 = .ok (.getfield 32, 3) := D_X5_isAhead_0.2.2.2.2.2.2.2.2.2.2.2.2.2.2.2.2.2.2.2.1
theorem e_X5_isAhead_42 : decode cX5_isAhead 42 = .ok (.aload_n 0, 1) := D_X5_isAhead_0.2.2.2.2.2.2.2.2.2.2.2.2.2.2.2.2.2.2.2.2.1
theorem e_X5_isAhead_43 : decode cX5_isAhead 43 = .ok (.getfield 17, 3) := D_X5_isAhead_0.2.2.2.2.2.2.2.2.2.2.2.2.2.2.2.2.2.2.2.2.2.1
theorem e_X5_isAhead_46 : decode cX5_isAhead 46 = .ok (.if_icmp .ne 18, 3) := D_X5_isAhead_0.2.2.2.2.2.2.2.2.2.2.2.2.2.2.2.2.2.2.2.2.2.2.1
theorem e_X5_isAhead_49 : decode cX5_isAhead 49 = .ok (.aload_n 2, 1) := D_X5_isAhead_0.2.2.2.2.2.2.2.2.2.2.2.2.2.2.2.2.2.2.2.2.2.2.2.1
theorem e_X5_isAhead_50 : decode cX5_isAhead 50 = .ok (.getfield 32, 3) := D_X5_isAhead_0.2.2.2.2.2.2.2.2.2.2.2.2.2.2.2.2.2.2.2.2.2.2.2.2.1
theorem e_X5_isAhead_53 : decode cX5_isAhead 53 = .ok (.aload_n 0, 1) := D_X5_isAhead_0.2.2.2.2.2.2.2.2.2.2.2.2.2.2.2.2.2.2.2.2.2.2.2.2.2.1
theorem e_X5_isAhead_54 : decode cX5_isAhead 54 = .ok (.getfield 17, 3) := D_X5_isAhead_0.2.2.2.2.2.2.2.2.2.2.2.2.2.2.2.2.2.2.2.2.2.2.2.2.2.2.1
theorem e_X5_isAhead_57 : decode cX5_isAhead 57 = .ok (.if_icmp .eq 7, 3) := D_X5_isAhead_0.2.2.2.2.2.2.2.2.2.2.2.2.2.2.2.2.2.2.2.2.2.2.2.2.2.2.2.1
theorem e_X5_isAhead_60 : decode cX5_isAhead 60 = .ok (.iconst 1, 1) := D_X5_isAhead_0.2.2.2.2.2.2.2.2.2.2.2.2.2.2.2.2.2.2.2.2.2.2.2.2.2.2.2.2.1
theorem e_X5_isAhead_61 : decode cX5_isAhead 61 = .ok (.goto 4, 3) := D_X5_isAhead_0.2.2.2.2.2.2.2.2.2.2.2.2.2.2.2.2.2.2.2.2.2.2.2.2.2.2.2.2.2.1
theorem e_X5_isAhead_64 : decode cX5_isAhead 64 = .ok (.iconst 0, 1) := D_X5_isAhead_0.2.2.2.2.2.2.2.2.2.2.2.2.2.2.2.2.2.2.2.2.2.2.2.2.2.2.2.2.2.2.1
theorem e_X5_isAhead_65 : decode cX5_isAhead 65 = .ok (.ireturn, 1) := D_X5_isAhead_0.2.2.2.2.2.2.2.2.2.2.2.2.2.2.2.2.2.2.2.2.2.2.2.2.2.2.2.2.2.2.2.1
theorem e_X5_isAhead_66 : decode cX5_isAhead 66 = .ok (.aload_n 1, 1) := D_X5_isAhead_0.2.2.2.2.2.2.2.2.2.2.2.2.2.2.2.2.2.2.2.2.2.2.2.2.2.2.2.2.2.2.2.2.1
theorem e_X5_isAhead_67 : decode cX5_isAhead 67 = .ok (.getfield 39, 3) := D_X5_isAhead_0.2.2.2.2.2.2.2.2.2.2.2.2.2.2.2.2.2.2.2.2.2.2.2.2.2.2.2.2.2.2.2.2.2.1
theorem e_X5_isAhead_70 : decode cX5_isAhead 70 = .ok (.aload_n 2, 1) := D_X5_isAhead_0.2.2.2.2.2.2.2.2.2.2.2.2.2.2.2.2.2.2.2.2.2.2.2.2.2.2.2.2.2.2.2.2.2.2.1
theorem e_X5_isAhead_71 : decode cX5_isAhead 71 = .ok (.getfield 39, 3) := D_X5_isAhead_0.2.2.2.2.2.2.2.2.2.2.2.2.2.2.2.2.2.2.2.2.2.2.2.2.2.2.2.2.2.2.2.2.2.2.2.1
theorem e_X5_isAhead_74 : decode cX5_isAhead 74 = .ok (.if_icmp .eq 20, 3) := D_X5_isAhead_0.2.2.2.2.2.2.2.2.2.2.2.2.2.2.2.2.2.2.2.2.2.2.2.2.2.2.2.2.2.2.2.2.2.2.2.2.1
theorem e_X5_isAhead_77 : decode cX5_isAhead 77 = .ok (.aload_n 1, 1) := D_X5_isAhead_0.2.2.2.2.2.2.2.2.2.2.2.2.2.2.2.2.2.2.2.2.2.2.2.2.2.2.2.2.2.2.2.2.2.2.2.2.2.1
theorem e_X5_isAhead_78 : decode cX5_isAhead 78 = .ok (.getfield 39, 3) := D_X5_isAhead_0.2.2.2.2.2.2.2.2.2.2.2.2.2.2.2.2.2.2.2.2.2.2.2.2.2.2.2.2.2.2.2.2.2.2.2.2.2.2.1
theorem e_X5_isAhead_81 : decode cX5_isAhead 81 = .ok (.aload_n 2, 1) := D_X5_isAhead_0.2.2.2.2.2.2.2.2.2.2.2.2.2.2.2.2.2.2.2.2.2.2.2.2.2.2.2.2.2.2.2.2.2.2.2.2.2.2.2.1
set_option maxRecDepth 100000 in
theorem D_X5_isAhead_1 : decode cX5_isAhead 82 = .ok (.getfield 39, 3) ∧ decode cX5_isAhead 85 = .ok (.if_icmp .le 7, 3) ∧ decode cX5_isAhead 88 = .ok (.iconst 1, 1) ∧ decode cX5_isAhead 89 = .ok (.goto 4, 3) ∧ decode cX5_isAhead 92 = .ok (.iconst 0, 1) ∧ decode cX5_isAhead 93 = .ok (.ireturn, 1) ∧ decode cX5_isAhead 94 = .ok (.aload_n 1, 1) ∧ decode cX5_isAhead 95 = .ok (.getfield 32, 3) ∧ decode cX5_isAhead 98 = .ok (.aload_n 2, 1) ∧ decode cX5_isAhead 99 = .ok (.getfield 32, 3) ∧ decode cX5_isAhead 102 = .ok (.if_icmp .ge 7, 3) ∧ decode cX5_isAhead 105 = .ok (.iconst 1, 1) ∧ decode cX5_isAhead 106 = .ok (.goto 4, 3) ∧ decode cX5_isAhead 109 = .ok (.iconst 0, 1) ∧ decode cX5_isAhead 110 = .ok (.ireturn, 1) ∧ True := dq_of (l := (82, .getfield 39, 3) :: (85, .if_icmp .le 7, 3) :: (88, .iconst 1, 1) :: (89, .goto 4, 3) :: (92, .iconst 0, 1) :: (93, .ireturn, 1) :: (94, .aload_n 1, 1) :: (95, .getfield 32, 3) :: (98, .aload_n 2, 1) :: (99, .getfield 32, 3) :: (102, .if_icmp .ge 7, 3) :: (105, .iconst 1, 1) :: (106, .goto 4, 3) :: (109, .iconst 0, 1) :: (110, .ireturn, 1) :: []) (by decide +kernel)
theorem e_X5_isAhead_82 : decode cX5_isAhead 82 = .ok (.getfield 39, 3) := D_X5_isAhead_1.1
theorem e_X5_isAhead_85 : decode cX5_isAhead 85 = .ok (.if_icmp .le 7, 3) := D_X5_isAhead_1.2.1
theorem e_X5_isAhead_88 : decode cX5_isAhead 88 = .ok (.iconst 1, 1) := D_X5_isAhead_1.2.2.1
theorem e_X5_isAhead_89 : decode cX5_isAhead 89 = .ok (.goto 4, 3) := D_X5_isAhead_1.2.2.2.1
theorem e_X5_isAhead_92 : decode cX5_isAhead 92 = .ok (.iconst 0, 1) := D_X5_isAhead_1.2.2.2.2.1
theorem e_X5_isAhead_93 : decode cX5_isAhead 93 = .ok (.ireturn, 1) := D_X5_isAhead_1.2.2.2.2.2.1
theorem e_X5_isAhead_94 : decode cX5_isAhead 94 = .ok (.aload_n 1, 1) := D_X5_isAhead_1.2.2.2.2.2.2.1
theorem e_X5_isAhead_95 : decode cX5_isAhead 95 = .ok (.getfield 32, 3) := D_X5_isAhead_1.2.2.2.2.2.2.2.1
theorem e_X5_isAhead_98 : decode cX5_isAhead 98 = .ok (.aload_n 2, 1) := D_X5_isAhead_1.2.2.2.2.2.2.2.2.1
theorem e_X5_isAhead_99 : decode cX5_isAhead 99 = .ok (.getfield 32, 3) := D_X5_isAhead_1.2.2.2.2.2.2.2.2.2.1
theorem e_X5_isAhead_102 : decode cX5_isAhead 102 = .ok (.if_icmp .ge 7, 3) := D_X5_isAhead_1.2.2.2.2.2.2.2.2.2.2.1
theorem e_X5_isAhead_105 : decode cX5_isAhead 105 = .ok (.iconst 1, 1) := D_X5_isAhead_1.2.2.2.2.2.2.2.2.2.2.2.1
theorem e_X5_isAhead_106 : decode cX5_isAhead 106 = .ok (.goto 4, 3) := D_X5_isAhead_1.2.2.2.2.2.2.2.2.2.2.2.2.1
theorem e_X5_isAhead_109 : decode cX5_isAhead 109 = .ok (.iconst 0, 1) := D_X5_isAhead_1.2.2.2.2.2.2.2.2.2.2.2.2.2.1
theorem e_X5_isAhead_110 : decode cX5_isAhead 110 = .ok (.ireturn, 1) := D_X5_isAhead_1.2.2.2.2.2.2.2.2.2.2.2.2.2.2.1
set_option maxRecDepth 100000 in
theorem D_X5_jobsAheadOf_0 : decode cX5_jobsAheadOf 0 = .ok (.iconst 0, 1) ∧ decode cX5_jobsAheadOf 1 = .ok (.istore_n 2, 1) ∧ decode cX5_jobsAheadOf 2 = .ok (.iconst 0, 1) ∧ decode cX5_jobsAheadOf 3 = .ok (.istore_n 3, 1) ∧ decode cX5_jobsAheadOf 4 = .ok (.iload_n 3, 1) ∧ decode cX5_jobsAheadOf 5 = .ok (.aload_n 0, 1) ∧ decode cX5_jobsAheadOf 6 = .ok (.getfield 22, 3) ∧ decode cX5_jobsAheadOf 9 = .ok (.if_icmp .ge 32, 3) ∧ decode cX5_jobsAheadOf 12 = .ok (.iload_n 3, 1) ∧ decode cX5_jobsAheadOf 13 = .ok (.bipush 10, 2) ∧ decode cX5_jobsAheadOf 15 = .ok (.if_icmp .ge 26, 3) ∧ decode cX5_jobsAheadOf 18 = .ok (.aload_n 0, 1) ∧ decode cX5_jobsAheadOf 19 = .ok (.aload_n 0, 1) ∧ decode cX5_jobsAheadOf 20 = .ok (.getfield 11, 3) ∧ decode cX5_jobsAheadOf 23 = .ok (.iload_n 3, 1) ∧ decode cX5_jobsAheadOf 24 = .ok (.aaload, 1) ∧ decode cX5_jobsAheadOf 25 = .ok (.aload_n 1, 1) ∧ decode cX5_jobsAheadOf 26 = .ok (.invokevirtual 42, 3) ∧ decode cX5_jobsAheadOf 29 = .ok (.ifCond .eq 6, 3) ∧ decode cX5_jobsAheadOf 32 = .ok (.iinc 2 1, 3) ∧ decode cX5_jobsAheadOf 35 = .ok (.iinc 3 1, 3) ∧ decode cX5_jobsAheadOf 38 = .ok (.goto (-34), 3) ∧ decode cX5_jobsAheadOf 41 = .ok (.iload_n 2, 1) ∧ decode cX5_jobsAheadOf 42 = .ok (.ireturn, 1) ∧ True := dq_of (l := (0, .iconst 0, 1) :: (1, .istore_n 2, 1) :: (2, .iconst 0, 1) :: (3, .istore_n 3, 1) :: (4, .iload_n 3, 1) :: (5, .aload_n 0, 1) :: (6, .getfield 22, 3) :: (9, .if_icmp .ge 32, 3) :: (12, .iload_n 3, 1) :: (13, .bipush 10, 2) :: (15, .if_icmp .ge 26, 3) :: (18, .aload_n 0, 1) :: (19, .aload_n 0, 1) :: (20, .getfield 11, 3) :: (23, .iload_n 3, 1) :: (24, .aaload, 1) :: (25, .aload_n 1, 1) :: (26, .invokevirtual 42, 3) :: (29, .ifCond .eq 6, 3) :: (32, .iinc 2 1, 3) :: (35, .iinc 3 1, 3) :: (38, .goto (-34), 3) :: (41, .iload_n 2, 1) :: (42, .ireturn, 1) :: []) (by decide +kernel)
theorem e_X5_jobsAheadOf_0 : decode cX5_jobsAheadOf 0 = .ok (.iconst 0, 1) := D_X5_jobsAheadOf_0.1
theorem e_X5_jobsAheadOf_1 : decode cX5_jobsAheadOf 1 = .ok (.istore_n 2, 1) := D_X5_jobsAheadOf_0.2.1
theorem e_X5_jobsAheadOf_2 : decode cX5_jobsAheadOf 2 = .ok (.iconst 0, 1) := D_X5_jobsAheadOf_0.2.2.1
theorem e_X5_jobsAheadOf_3 : decode cX5_jobsAheadOf 3 = .ok (.istore_n 3, 1) := D_X5_jobsAheadOf_0.2.2.2.1
theorem e_X5_jobsAheadOf_4 : decode cX5_jobsAheadOf 4 = .ok (.iload_n 3, 1) := D_X5_jobsAheadOf_0.2.2.2.2.1
theorem e_X5_jobsAheadOf_5 : decode cX5_jobsAheadOf 5 = .ok (.aload_n 0, 1) := D_X5_jobsAheadOf_0.2.2.2.2.2.1
theorem e_X5_jobsAheadOf_6 : decode cX5_jobsAheadOf 6 = .ok (.getfield 22, 3) := D_X5_jobsAheadOf_0.2.2.2.2.2.2.1
theorem e_X5_jobsAheadOf_9 : decode cX5_jobsAheadOf 9 = .ok (.if_icmp .ge 32, 3) := D_X5_jobsAheadOf_0.2.2.2.2.2.2.2.1
theorem e_X5_jobsAheadOf_12 : decode cX5_jobsAheadOf 12 = .ok (.iload_n 3, 1) := D_X5_jobsAheadOf_0.2.2.2.2.2.2.2.2.1
theorem e_X5_jobsAheadOf_13 : decode cX5_jobsAheadOf 13 = .ok (.bipush 10, 2) := D_X5_jobsAheadOf_0.2.2.2.2.2.2.2.2.2.1
theorem e_X5_jobsAheadOf_15 : decode cX5_jobsAheadOf 15 = .ok (.if_icmp .ge 26, 3) := D_X5_jobsAheadOf_0.2.2.2.2.2.2.2.2.2.2.1
theorem e_X5_jobsAheadOf_18 : decode cX5_jobsAheadOf 18 = .ok (.aload_n 0, 1) := D_X5_jobsAheadOf_0.2.2.2.2.2.2.2.2.2.2.2.1
theorem e_X5_jobsAheadOf_19 : decode cX5_jobsAheadOf 19 = .ok (.aload_n 0, 1) := D_X5_jobsAheadOf_0.2.2.2.2.2.2.2.2.2.2.2.2.1
theorem e_X5_jobsAheadOf_20 : decode cX5_jobsAheadOf 20 = .ok (.getfield 11, 3) := D_X5_jobsAheadOf_0.2.2.2.2.2.2.2.2.2.2.2.2.2.1
theorem e_X5_jobsAheadOf_23 : decode cX5_jobsAheadOf 23 = .ok (.iload_n 3, 1) := D_X5_jobsAheadOf_0.2.2.2.2.2.2.2.2.2.2.2.2.2.2.1
theorem e_X5_jobsAheadOf_24 : decode cX5_jobsAheadOf 24 = .ok (.aaload, 1) := D_X5_jobsAheadOf_0.2.2.2.2.2.2.2.2.2.2.2.2.2.2.2.1
theorem e_X5_jobsAheadOf_25 : decode cX5_jobsAheadOf 25 = .ok (.aload_n 1, 1) := D_X5_jobsAheadOf_0.2.2.2.2.2.2.2.2.2.2.2.2.2.2.2.2.1
theorem e_X5_jobsAheadOf_26 : decode cX5_jobsAheadOf 26 = .ok (.invokevirtual 42, 3) := D_X5_jobsAheadOf_0.2.2.2.2.2.2.2.2.2.2.2.2.2.2.2.2.2.1
theorem e_X5_jobsAheadOf_29 : decode cX5_jobsAheadOf 29 = .ok (.ifCond .eq 6, 3) := D_X5_jobsAheadOf_0.2.2.2.2.2.2.2.2.2.2.2.2.2.2.2.2.2.2.1
theorem e_X5_jobsAheadOf_32 : decode cX5_jobsAheadOf 32 = .ok (.iinc 2 1, 3) := D_X5_jobsAheadOf_0.2.2.2.2.2.2.2.2.2.2.2.2.2.2.2.2.2.2.2.1
theorem e_X5_jobsAheadOf_35 : decode cX5_jobsAheadOf 35 = .ok (.iinc 3 1, 3) := D_X5_jobsAheadOf_0.2.2.2.2.2.2.2.2.2.2.2.2.2.2.2.2.2.2.2.2.1
theorem e_X5_jobsAheadOf_38 : decode cX5_jobsAheadOf 38 = .ok (.goto (-34), 3) := D_X5_jobsAheadOf_0.2.2.2.2.2.2.2.2.2.2.2.2.2.2.2.2.2.2.2.2.2.1
theorem e_X5_jobsAheadOf_41 : decode cX5_jobsAheadOf 41 = .ok (.iload_n 2, 1) := D_X5_jobsAheadOf_0.2.2.2.2.2.2.2.2.2.2.2.2.2.2.2.2.2.2.2.2.2.2.1
theorem e_X5_jobsAheadOf_42 : decode cX5_jobsAheadOf 42 = .ok (.ireturn, 1) := D_X5_jobsAheadOf_0.2.2.2.2.2.2.2.2.2.2.2.2.2.2.2.2.2.2.2.2.2.2.2.1
set_option maxRecDepth 100000 in
theorem D_X5_at_0 : decode cX5_at 0 = .ok (.iconst 0, 1) ∧ decode cX5_at 1 = .ok (.istore_n 2, 1) ∧ decode cX5_at 2 = .ok (.iload_n 2, 1) ∧ decode cX5_at 3 = .ok (.aload_n 0, 1) ∧ decode cX5_at 4 = .ok (.getfield 22, 3) ∧ decode cX5_at 7 = .ok (.if_icmp .ge 36, 3) ∧ decode cX5_at 10 = .ok (.iload_n 2, 1) ∧ decode cX5_at 11 = .ok (.bipush 10, 2) ∧ decode cX5_at 13 = .ok (.if_icmp .ge 30, 3) ∧ decode cX5_at 16 = .ok (.aload_n 0, 1) ∧ decode cX5_at 17 = .ok (.aload_n 0, 1) ∧ decode cX5_at 18 = .ok (.getfield 11, 3) ∧ decode cX5_at 21 = .ok (.iload_n 2, 1) ∧ decode cX5_at 22 = .ok (.aaload, 1) ∧ decode cX5_at 23 = .ok (.invokevirtual 46, 3) ∧ decode cX5_at 26 = .ok (.iload_n 1, 1) ∧ decode cX5_at 27 = .ok (.if_icmp .ne 10, 3) ∧ decode cX5_at 30 = .ok (.aload_n 0, 1) ∧ decode cX5_at 31 = .ok (.getfield 11, 3) ∧ decode cX5_at 34 = .ok (.iload_n 2, 1) ∧ decode cX5_at 35 = .ok (.aaload, 1) ∧ decode cX5_at 36 = .ok (.areturn, 1) ∧ decode cX5_at 37 = .ok (.iinc 2 1, 3) ∧ decode cX5_at 40 = .ok (.goto (-38), 3) ∧ decode cX5_at 43 = .ok (.aconst_null, 1) ∧ decode cX5_at 44 = .ok (.areturn, 1) ∧ True := dq_of (l := (0, .iconst 0, 1) :: (1, .istore_n 2, 1) :: (2, .iload_n 2, 1) :: (3, .aload_n 0, 1) :: (4, .getfield 22, 3) :: (7, .if_icmp .ge 36, 3) :: (10, .iload_n 2, 1) :: (11, .bipush 10, 2) :: (13, .if_icmp .ge 30, 3) :: (16, .aload_n 0, 1) :: (17, .aload_n 0, 1) :: (18, .getfield 11, 3) :: (21, .iload_n 2, 1) :: (22, .aaload, 1) :: (23, .invokevirtual 46, 3) :: (26, .iload_n 1, 1) :: (27, .if_icmp .ne 10, 3) :: (30, .aload_n 0, 1) :: (31, .getfield 11, 3) :: (34, .iload_n 2, 1) :: (35, .aaload, 1) :: (36, .areturn, 1) :: (37, .iinc 2 1, 3) :: (40, .goto (-38), 3) :: (43, .aconst_null, 1) :: (44, .areturn, 1) :: []) (by decide +kernel)
theorem e_X5_at_0 : decode cX5_at 0 = .ok (.iconst 0, 1) := D_X5_at_0.1
theorem e_X5_at_1 : decode cX5_at 1 = .ok (.istore_n 2, 1) := D_X5_at_0.2.1
theorem e_X5_at_2 : decode cX5_at 2 = .ok (.iload_n 2, 1) := D_X5_at_0.2.2.1
theorem e_X5_at_3 : decode cX5_at 3 = .ok (.aload_n 0, 1) := D_X5_at_0.2.2.2.1
theorem e_X5_at_4 : decode cX5_at 4 = .ok (.getfield 22, 3) := D_X5_at_0.2.2.2.2.1
theorem e_X5_at_7 : decode cX5_at 7 = .ok (.if_icmp .ge 36, 3) := D_X5_at_0.2.2.2.2.2.1
theorem e_X5_at_10 : decode cX5_at 10 = .ok (.iload_n 2, 1) := D_X5_at_0.2.2.2.2.2.2.1
theorem e_X5_at_11 : decode cX5_at 11 = .ok (.bipush 10, 2) := D_X5_at_0.2.2.2.2.2.2.2.1
theorem e_X5_at_13 : decode cX5_at 13 = .ok (.if_icmp .ge 30, 3) := D_X5_at_0.2.2.2.2.2.2.2.2.1
theorem e_X5_at_16 : decode cX5_at 16 = .ok (.aload_n 0, 1) := D_X5_at_0.2.2.2.2.2.2.2.2.2.1
theorem e_X5_at_17 : decode cX5_at 17 = .ok (.aload_n 0, 1) := D_X5_at_0.2.2.2.2.2.2.2.2.2.2.1
theorem e_X5_at_18 : decode cX5_at 18 = .ok (.getfield 11, 3) := D_X5_at_0.2.2.2.2.2.2.2.2.2.2.2.1
theorem e_X5_at_21 : decode cX5_at 21 = .ok (.iload_n 2, 1) := D_X5_at_0.2.2.2.2.2.2.2.2.2.2.2.2.1
theorem e_X5_at_22 : decode cX5_at 22 = .ok (.aaload, 1) := D_X5_at_0.2.2.2.2.2.2.2.2.2.2.2.2.2.1
theorem e_X5_at_23 : decode cX5_at 23 = .ok (.invokevirtual 46, 3) := D_X5_at_0.2.2.2.2.2.2.2.2.2.2.2.2.2.2.1
theorem e_X5_at_26 : decode cX5_at 26 = .ok (.iload_n 1, 1) := D_X5_at_0.2.2.2.2.2.2.2.2.2.2.2.2.2.2.2.1
theorem e_X5_at_27 : decode cX5_at 27 = .ok (.if_icmp .ne 10, 3) := D_X5_at_0.2.2.2.2.2.2.2.2.2.2.2.2.2.2.2.2.1
theorem e_X5_at_30 : decode cX5_at 30 = .ok (.aload_n 0, 1) := D_X5_at_0.2.2.2.2.2.2.2.2.2.2.2.2.2.2.2.2.2.1
theorem e_X5_at_31 : decode cX5_at 31 = .ok (.getfield 11, 3) := D_X5_at_0.2.2.2.2.2.2.2.2.2.2.2.2.2.2.2.2.2.2.1
theorem e_X5_at_34 : decode cX5_at 34 = .ok (.iload_n 2, 1) := D_X5_at_0.2.2.2.2.2.2.2.2.2.2.2.2.2.2.2.2.2.2.2.1
theorem e_X5_at_35 : decode cX5_at 35 = .ok (.aaload, 1) := D_X5_at_0.2.2.2.2.2.2.2.2.2.2.2.2.2.2.2.2.2.2.2.2.1
theorem e_X5_at_36 : decode cX5_at 36 = .ok (.areturn, 1) := D_X5_at_0.2.2.2.2.2.2.2.2.2.2.2.2.2.2.2.2.2.2.2.2.2.1
theorem e_X5_at_37 : decode cX5_at 37 = .ok (.iinc 2 1, 3) := D_X5_at_0.2.2.2.2.2.2.2.2.2.2.2.2.2.2.2.2.2.2.2.2.2.2.1
theorem e_X5_at_40 : decode cX5_at 40 = .ok (.goto (-38), 3) := D_X5_at_0.2.2.2.2.2.2.2.2.2.2.2.2.2.2.2.2.2.2.2.2.2.2.2.1
theorem e_X5_at_43 : decode cX5_at 43 = .ok (.aconst_null, 1) := D_X5_at_0.2.2.2.2.2.2.2.2.2.2.2.2.2.2.2.2.2.2.2.2.2.2.2.2.1
theorem e_X5_at_44 : decode cX5_at 44 = .ok (.areturn, 1) := D_X5_at_0.2.2.2.2.2.2.2.2.2.2.2.2.2.2.2.2.2.2.2.2.2.2.2.2.2.1
set_option maxRecDepth 100000 in
theorem D_X5_next_0 : decode cX5_next 0 = .ok (.aconst_null, 1) ∧ decode cX5_next 1 = .ok (.astore_n 1, 1) ∧ decode cX5_next 2 = .ok (.iconst 0, 1) ∧ decode cX5_next 3 = .ok (.istore_n 2, 1) ∧ decode cX5_next 4 = .ok (.iload_n 2, 1) ∧ decode cX5_next 5 = .ok (.aload_n 0, 1) ∧ decode cX5_next 6 = .ok (.getfield 22, 3) ∧ decode cX5_next 9 = .ok (.if_icmp .ge 40, 3) ∧ decode cX5_next 12 = .ok (.iload_n 2, 1) ∧ decode cX5_next 13 = .ok (.bipush 10, 2) ∧ decode cX5_next 15 = .ok (.if_icmp .ge 34, 3) ∧ decode cX5_next 18 = .ok (.aload_n 1, 1) ∧ decode cX5_next 19 = .ok (.ifnull 17, 3) ∧ decode cX5_next 22 = .ok (.aload_n 0, 1) ∧ decode cX5_next 23 = .ok (.aload_n 0, 1) ∧ decode cX5_next 24 = .ok (.getfield 11, 3) ∧ decode cX5_next 27 = .ok (.iload_n 2, 1) ∧ decode cX5_next 28 = .ok (.aaload, 1) ∧ decode cX5_next 29 = .ok (.aload_n 1, 1) ∧ decode cX5_next 30 = .ok (.invokevirtual 42, 3) ∧ decode cX5_next 33 = .ok (.ifCond .eq 10, 3) ∧ decode cX5_next 36 = .ok (.aload_n 0, 1) ∧ decode cX5_next 37 = .ok (.getfield 11, 3) ∧ decode cX5_next 40 = .ok (.iload_n 2, 1) ∧ decode cX5_next 41 = .ok (.aaload, 1) ∧ decode cX5_next 42 = .ok (.astore_n 1, 1) ∧ decode cX5_next 43 = .ok (.iinc 2 1, 3) ∧ decode cX5_next 46 = .ok (.goto (-42), 3) ∧ decode cX5_next 49 = .ok (.aload_n 1, 1) ∧ decode cX5_next 50 = .ok (.ifnull 10, 3) ∧ decode cX5_next 53 = .ok (.aload_n 1, 1) ∧ decode cX5_next 54 = .ok (.getfield 35, 3) ∧ decode cX5_next 57 = .ok (.ifCond .eq 7, 3) ∧ decode cX5_next 60 = .ok (.aconst_null, 1) ∧ decode cX5_next 61 = .ok (.goto 4, 3) ∧ decode cX5_next 64 = .ok (.aload_n 1, 1) ∧ decode cX5_next 65 = .ok (.areturn, 1) ∧ True := dq_of (l := (0, .aconst_null, 1) :: (1, .astore_n 1, 1) :: (2, .iconst 0, 1) :: (3, .istore_n 2, 1) :: (4, .iload_n 2, 1) :: (5, .aload_n 0, 1) :: (6, .getfield 22, 3) :: (9, .if_icmp .ge 40, 3) :: (12, .iload_n 2, 1) :: (13, .bipush 10, 2) :: (15, .if_icmp .ge 34, 3) :: (18, .aload_n 1, 1) :: (19, .ifnull 17, 3) :: (22, .aload_n 0, 1) :: (23, .aload_n 0, 1) :: (24, .getfield 11, 3) :: (27, .iload_n 2, 1) :: (28, .aaload, 1) :: (29, .aload_n 1, 1) :: (30, .invokevirtual 42, 3) :: (33, .ifCond .eq 10, 3) :: (36, .aload_n 0, 1) :: (37, .getfield 11, 3) :: (40, .iload_n 2, 1) :: (41, .aaload, 1) :: (42, .astore_n 1, 1) :: (43, .iinc 2 1, 3) :: (46, .goto (-42), 3) :: (49, .aload_n 1, 1) :: (50, .ifnull 10, 3) :: (53, .aload_n 1, 1) :: (54, .getfield 35, 3) :: (57, .ifCond .eq 7, 3) :: (60, .aconst_null, 1) :: (61, .goto 4, 3) :: (64, .aload_n 1, 1) :: (65, .areturn, 1) :: []) (by decide +kernel)
theorem e_X5_next_0 : decode cX5_next 0 = .ok (.aconst_null, 1) := D_X5_next_0.1
theorem e_X5_next_1 : decode cX5_next 1 = .ok (.astore_n 1, 1) := D_X5_next_0.2.1
theorem e_X5_next_2 : decode cX5_next 2 = .ok (.iconst 0, 1) := D_X5_next_0.2.2.1
theorem e_X5_next_3 : decode cX5_next 3 = .ok (.istore_n 2, 1) := D_X5_next_0.2.2.2.1
theorem e_X5_next_4 : decode cX5_next 4 = .ok (.iload_n 2, 1) := D_X5_next_0.2.2.2.2.1
theorem e_X5_next_5 : decode cX5_next 5 = .ok (.aload_n 0, 1) := D_X5_next_0.2.2.2.2.2.1
theorem e_X5_next_6 : decode cX5_next 6 = .ok (.getfield 22, 3) := D_X5_next_0.2.2.2.2.2.2.1
theorem e_X5_next_9 : decode cX5_next 9 = .ok (.if_icmp .ge 40, 3) := D_X5_next_0.2.2.2.2.2.2.2.1
theorem e_X5_next_12 : decode cX5_next 12 = .ok (.iload_n 2, 1) := D_X5_next_0.2.2.2.2.2.2.2.2.1
theorem e_X5_next_13 : decode cX5_next 13 = .ok (.bipush 10, 2) := D_X5_next_0.2.2.2.2.2.2.2.2.2.1
theorem e_X5_next_15 : decode cX5_next 15 = .ok (.if_icmp .ge 34, 3) := D_X5_next_0.2.2.2.2.2.2.2.2.2.2.1
theorem e_X5_next_18 : decode cX5_next 18 = .ok (.aload_n 1, 1) := D_X5_next_0.2.2.2.2.2.2.2.2.2.2.2.1
theorem e_X5_next_19 : decode cX5_next 19 = .ok (.ifnull 17, 3) := D_X5_next_0.2.2.2.2.2.2.2.2.2.2.2.2.1
theorem e_X5_next_22 : decode cX5_next 22 = .ok (.aload_n 0, 1) := D_X5_next_0.2.2.2.2.2.2.2.2.2.2.2.2.2.1
theorem e_X5_next_23 : decode cX5_next 23 = .ok (.aload_n 0, 1) := D_X5_next_0.2.2.2.2.2.2.2.2.2.2.2.2.2.2.1
theorem e_X5_next_24 : decode cX5_next 24 = .ok (.getfield 11, 3) := D_X5_next_0.2.2.2.2.2.2.2.2.2.2.2.2.2.2.2.1
theorem e_X5_next_27 : decode cX5_next 27 = .ok (.iload_n 2, 1) := D_X5_next_0.2.2.2.2.2.2.2.2.2.2.2.2.2.2.2.2.1
theorem e_X5_next_28 : decode cX5_next 28 = .ok (.aaload, 1) := D_X5_next_0.2.2.2.2.2.2.2.2.2.2.2.2.2.2.2.2.2.1
theorem e_X5_next_29 : decode cX5_next 29 = .ok (.aload_n 1, 1) := D_X5_next_0.2.2.2.2.2.2.2.2.2.2.2.2.2.2.2.2.2.2.1
theorem e_X5_next_30 : decode cX5_next 30 = .ok (.invokevirtual 42, 3) := D_X5_next_0.2.2.2.2.2.2.2.2.2.2.2.2.2.2.2.2.2.2.2.1
theorem e_X5_next_33 : decode cX5_next 33 = .ok (.ifCond .eq 10, 3) := D_X5_next_0.2.2.2.2.2.2.2.2.2.2.2.2.2.2.2.2.2.2.2.2.1
theorem e_X5_next_36 : decode cX5_next 36 = .ok (.aload_n 0, 1) := D_X5_next_0.2.2.2.2.2.2.2.2.2.2.2.2.2.2.2.2.2.2.2.2.2.1
theorem e_X5_next_37 : decode cX5_next 37 = .ok (.getfield 11, 3) := D_X5_next_0.2.2.2.2.2.2.2.2.2.2.2.2.2.2.2.2.2.2.2.2.2.2.1
theorem e_X5_next_40 : decode cX5_next 40 = .ok (.iload_n 2, 1) := D_X5_next_0.2.2.2.2.2.2.2.2.2.2.2.2.2.2.2.2.2.2.2.2.2.2.2.1
theorem e_X5_next_41 : decode cX5_next 41 = .ok (.aaload, 1) := D_X5_next_0.2.2.2.2.2.2.2.2.2.2.2.2.2.2.2.2.2.2.2.2.2.2.2.2.1
theorem e_X5_next_42 : decode cX5_next 42 = .ok (.astore_n 1, 1) := D_X5_next_0.2.2.2.2.2.2.2.2.2.2.2.2.2.2.2.2.2.2.2.2.2.2.2.2.2.1
theorem e_X5_next_43 : decode cX5_next 43 = .ok (.iinc 2 1, 3) := D_X5_next_0.2.2.2.2.2.2.2.2.2.2.2.2.2.2.2.2.2.2.2.2.2.2.2.2.2.2.1
theorem e_X5_next_46 : decode cX5_next 46 = .ok (.goto (-42), 3) := D_X5_next_0.2.2.2.2.2.2.2.2.2.2.2.2.2.2.2.2.2.2.2.2.2.2.2.2.2.2.2.1
theorem e_X5_next_49 : decode cX5_next 49 = .ok (.aload_n 1, 1) := D_X5_next_0.2.2.2.2.2.2.2.2.2.2.2.2.2.2.2.2.2.2.2.2.2.2.2.2.2.2.2.2.1
theorem e_X5_next_50 : decode cX5_next 50 = .ok (.ifnull 10, 3) := D_X5_next_0.2.2.2.2.2.2.2.2.2.2.2.2.2.2.2.2.2.2.2.2.2.2.2.2.2.2.2.2.2.1
theorem e_X5_next_53 : decode cX5_next 53 = .ok (.aload_n 1, 1) := D_X5_next_0.2.2.2.2.2.2.2.2.2.2.2.2.2.2.2.2.2.2.2.2.2.2.2.2.2.2.2.2.2.2.1
theorem e_X5_next_54 : decode cX5_next 54 = .ok (.getfield 35, 3) := D_X5_next_0.2.2.2.2.2.2.2.2.2.2.2.2.2.2.2.2.2.2.2.2.2.2.2.2.2.2.2.2.2.2.2.1
theorem e_X5_next_57 : decode cX5_next 57 = .ok (.ifCond .eq 7, 3) := D_X5_next_0.2.2.2.2.2.2.2.2.2.2.2.2.2.2.2.2.2.2.2.2.2.2.2.2.2.2.2.2.2.2.2.2.1
theorem e_X5_next_60 : decode cX5_next 60 = .ok (.aconst_null, 1) := D_X5_next_0.2.2.2.2.2.2.2.2.2.2.2.2.2.2.2.2.2.2.2.2.2.2.2.2.2.2.2.2.2.2.2.2.2.1
theorem e_X5_next_61 : decode cX5_next 61 = .ok (.goto 4, 3) := D_X5_next_0.2.2.2.2.2.2.2.2.2.2.2.2.2.2.2.2.2.2.2.2.2.2.2.2.2.2.2.2.2.2.2.2.2.2.1
theorem e_X5_next_64 : decode cX5_next 64 = .ok (.aload_n 1, 1) := D_X5_next_0.2.2.2.2.2.2.2.2.2.2.2.2.2.2.2.2.2.2.2.2.2.2.2.2.2.2.2.2.2.2.2.2.2.2.2.1
theorem e_X5_next_65 : decode cX5_next 65 = .ok (.areturn, 1) := D_X5_next_0.2.2.2.2.2.2.2.2.2.2.2.2.2.2.2.2.2.2.2.2.2.2.2.2.2.2.2.2.2.2.2.2.2.2.2.2.1
set_option maxRecDepth 100000 in
theorem D_X5_sheetsToPrint_0 : decode cX5_sheetsToPrint 0 = .ok (.iconst 0, 1) ∧ decode cX5_sheetsToPrint 1 = .ok (.istore_n 3, 1) ∧ decode cX5_sheetsToPrint 2 = .ok (.iconst 0, 1) ∧ decode cX5_sheetsToPrint 3 = .ok (.istore 4, 2) ∧ decode cX5_sheetsToPrint 5 = .ok (.iload 4, 2) ∧ decode cX5_sheetsToPrint 7 = .ok (.aload_n 0, 1) ∧ decode cX5_sheetsToPrint 8 = .ok (.getfield 22, 3) ∧ decode cX5_sheetsToPrint 11 = .ok (.if_icmp .ge 55, 3) ∧ decode cX5_sheetsToPrint 14 = .ok (.iload 4, 2) ∧ decode cX5_sheetsToPrint 16 = .ok (.bipush 10, 2) ∧ decode cX5_sheetsToPrint 18 = .ok (.if_icmp .ge 48, 3) ∧ decode cX5_sheetsToPrint 21 = .ok (.aload_n 0, 1) ∧ decode cX5_sheetsToPrint 22 = .ok (.getfield 11, 3) ∧ decode cX5_sheetsToPrint 25 = .ok (.iload 4, 2) ∧ decode cX5_sheetsToPrint 27 = .ok (.aaload, 1) ∧ decode cX5_sheetsToPrint 28 = .ok (.iload_n 1, 1) ∧ decode cX5_sheetsToPrint 29 = .ok (.iload_n 2, 1) ∧ decode cX5_sheetsToPrint 30 = .ok (.invokevirtual 50, 3) ∧ decode cX5_sheetsToPrint 33 = .ok (.ifCond .eq 27, 3) ∧ decode cX5_sheetsToPrint 36 = .ok (.iload_n 3, 1) ∧ decode cX5_sheetsToPrint 37 = .ok (.aload_n 0, 1) ∧ decode cX5_sheetsToPrint 38 = .ok (.getfield 11, 3) ∧ decode cX5_sheetsToPrint 41 = .ok (.iload 4, 2) ∧ decode cX5_sheetsToPrint 43 = .ok (.aaload, 1) ∧ decode cX5_sheetsToPrint 44 = .ok (.getfield 54, 3) ∧ decode cX5_sheetsToPrint 47 = .ok (.aload_n 0, 1) ∧ decode cX5_sheetsToPrint 48 = .ok (.getfield 11, 3) ∧ decode cX5_sheetsToPrint 51 = .ok (.iload 4, 2) ∧ decode cX5_sheetsToPrint 53 = .ok (.aaload, 1) ∧ decode cX5_sheetsToPrint 54 = .ok (.getfield 57, 3) ∧ decode cX5_sheetsToPrint 57 = .ok (.isub, 1) ∧ decode cX5_sheetsToPrint 58 = .ok (.iadd, 1) ∧ decode cX5_sheetsToPrint 59 = .ok (.istore_n 3, 1) ∧ decode cX5_sheetsToPrint 60 = .ok (.iinc 4 1, 3) ∧ decode cX5_sheetsToPrint 63 = .ok (.goto (-58), 3) ∧ decode cX5_sheetsToPrint 66 = .ok (.iload_n 3, 1) ∧ decode cX5_sheetsToPrint 67 = .ok (.ireturn, 1) ∧ True := dq_of (l := (0, .iconst 0, 1) :: (1, .istore_n 3, 1) :: (2, .iconst 0, 1) :: (3, .istore 4, 2) :: (5, .iload 4, 2) :: (7, .aload_n 0, 1) :: (8, .getfield 22, 3) :: (11, .if_icmp .ge 55, 3) :: (14, .iload 4, 2) :: (16, .bipush 10, 2) :: (18, .if_icmp .ge 48, 3) :: (21, .aload_n 0, 1) :: (22, .getfield 11, 3) :: (25, .iload 4, 2) :: (27, .aaload, 1) :: (28, .iload_n 1, 1) :: (29, .iload_n 2, 1) :: (30, .invokevirtual 50, 3) :: (33, .ifCond .eq 27, 3) :: (36, .iload_n 3, 1) :: (37, .aload_n 0, 1) :: (38, .getfield 11, 3) :: (41, .iload 4, 2) :: (43, .aaload, 1) :: (44, .getfield 54, 3) :: (47, .aload_n 0, 1) :: (48, .getfield 11, 3) :: (51, .iload 4, 2) :: (53, .aaload, 1) :: (54, .getfield 57, 3) :: (57, .isub, 1) :: (58, .iadd, 1) :: (59, .istore_n 3, 1) :: (60, .iinc 4 1, 3) :: (63, .goto (-58), 3) :: (66, .iload_n 3, 1) :: (67, .ireturn, 1) :: []) (by decide +kernel)
theorem e_X5_sheetsToPrint_0 : decode cX5_sheetsToPrint 0 = .ok (.iconst 0, 1) := D_X5_sheetsToPrint_0.1
theorem e_X5_sheetsToPrint_1 : decode cX5_sheetsToPrint 1 = .ok (.istore_n 3, 1) := D_X5_sheetsToPrint_0.2.1
theorem e_X5_sheetsToPrint_2 : decode cX5_sheetsToPrint 2 = .ok (.iconst 0, 1) := D_X5_sheetsToPrint_0.2.2.1
theorem e_X5_sheetsToPrint_3 : decode cX5_sheetsToPrint 3 = .ok (.istore 4, 2) := D_X5_sheetsToPrint_0.2.2.2.1
theorem e_X5_sheetsToPrint_5 : decode cX5_sheetsToPrint 5 = .ok (.iload 4, 2) := D_X5_sheetsToPrint_0.2.2.2.2.1
theorem e_X5_sheetsToPrint_7 : decode cX5_sheetsToPrint 7 = .ok (.aload_n 0, 1) := D_X5_sheetsToPrint_0.2.2.2.2.2.1
theorem e_X5_sheetsToPrint_8 : decode cX5_sheetsToPrint 8 = .ok (.getfield 22, 3) := D_X5_sheetsToPrint_0.2.2.2.2.2.2.1
theorem e_X5_sheetsToPrint_11 : decode cX5_sheetsToPrint 11 = .ok (.if_icmp .ge 55, 3) := D_X5_sheetsToPrint_0.2.2.2.2.2.2.2.1
theorem e_X5_sheetsToPrint_14 : decode cX5_sheetsToPrint 14 = .ok (.iload 4, 2) := D_X5_sheetsToPrint_0.2.2.2.2.2.2.2.2.1
theorem e_X5_sheetsToPrint_16 : decode cX5_sheetsToPrint 16 = .ok (.bipush 10, 2) := D_X5_sheetsToPrint_0.2.2.2.2.2.2.2.2.2.1
theorem e_X5_sheetsToPrint_18 : decode cX5_sheetsToPrint 18 = .ok (.if_icmp .ge 48, 3) := D_X5_sheetsToPrint_0.2.2.2.2.2.2.2.2.2.2.1
theorem e_X5_sheetsToPrint_21 : decode cX5_sheetsToPrint 21 = .ok (.aload_n 0, 1) := D_X5_sheetsToPrint_0.2.2.2.2.2.2.2.2.2.2.2.1
theorem e_X5_sheetsToPrint_22 : decode cX5_sheetsToPrint 22 = .ok (.getfield 11, 3) := D_X5_sheetsToPrint_0.2.2.2.2.2.2.2.2.2.2.2.2.1
theorem e_X5_sheetsToPrint_25 : decode cX5_sheetsToPrint 25 = .ok (.iload 4, 2) := D_X5_sheetsToPrint_0.2.2.2.2.2.2.2.2.2.2.2.2.2.1
theorem e_X5_sheetsToPrint_27 : decode cX5_sheetsToPrint 27 = .ok (.aaload, 1) := D_X5_sheetsToPrint_0.2.2.2.2.2.2.2.2.2.2.2.2.2.2.1
theorem e_X5_sheetsToPrint_28 : decode cX5_sheetsToPrint 28 = .ok (.iload_n 1, 1) := D_X5_sheetsToPrint_0.2.2.2.2.2.2.2.2.2.2.2.2.2.2.2.1
theorem e_X5_sheetsToPrint_29 : decode cX5_sheetsToPrint 29 = .ok (.iload_n 2, 1) := D_X5_sheetsToPrint_0.2.2.2.2.2.2.2.2.2.2.2.2.2.2.2.2.1
theorem e_X5_sheetsToPrint_30 : decode cX5_sheetsToPrint 30 = .ok (.invokevirtual 50, 3) := D_X5_sheetsToPrint_0.2.2.2.2.2.2.2.2.2.2.2.2.2.2.2.2.2.1
theorem e_X5_sheetsToPrint_33 : decode cX5_sheetsToPrint 33 = .ok (.ifCond .eq 27, 3) := D_X5_sheetsToPrint_0.2.2.2.2.2.2.2.2.2.2.2.2.2.2.2.2.2.2.1
theorem e_X5_sheetsToPrint_36 : decode cX5_sheetsToPrint 36 = .ok (.iload_n 3, 1) := D_X5_sheetsToPrint_0.2.2.2.2.2.2.2.2.2.2.2.2.2.2.2.2.2.2.2.1
theorem e_X5_sheetsToPrint_37 : decode cX5_sheetsToPrint 37 = .ok (.aload_n 0, 1) := D_X5_sheetsToPrint_0.2.2.2.2.2.2.2.2.2.2.2.2.2.2.2.2.2.2.2.2.1
theorem e_X5_sheetsToPrint_38 : decode cX5_sheetsToPrint 38 = .ok (.getfield 11, 3) := D_X5_sheetsToPrint_0.2.2.2.2.2.2.2.2.2.2.2.2.2.2.2.2.2.2.2.2.2.1
theorem e_X5_sheetsToPrint_41 : decode cX5_sheetsToPrint 41 = .ok (.iload 4, 2) := D_X5_sheetsToPrint_0.2.2.2.2.2.2.2.2.2.2.2.2.2.2.2.2.2.2.2.2.2.2.1
theorem e_X5_sheetsToPrint_43 : decode cX5_sheetsToPrint 43 = .ok (.aaload, 1) := D_X5_sheetsToPrint_0.2.2.2.2.2.2.2.2.2.2.2.2.2.2.2.2.2.2.2.2.2.2.2.1
theorem e_X5_sheetsToPrint_44 : decode cX5_sheetsToPrint 44 = .ok (.getfield 54, 3) := D_X5_sheetsToPrint_0.2.2.2.2.2.2.2.2.2.2.2.2.2.2.2.2.2.2.2.2.2.2.2.2.1
theorem e_X5_sheetsToPrint_47 : decode cX5_sheetsToPrint 47 = .ok (.aload_n 0, 1) := D_X5_sheetsToPrint_0.2.2.2.2.2.2.2.2.2.2.2.2.2.2.2.2.2.2.2.2.2.2.2.2.2.1
theorem e_X5_sheetsToPrint_48 : decode cX5_sheetsToPrint 48 = .ok (.getfield 11, 3) := D_X5_sheetsToPrint_0.2.2.2.2.2.2.2.2.2.2.2.2.2.2.2.2.2.2.2.2.2.2.2.2.2.2.1
theorem e_X5_sheetsToPrint_51 : decode cX5_sheetsToPrint 51 = .ok (.iload 4, 2) := D_X5_sheetsToPrint_0.2.2.2.2.2.2.2.2.2.2.2.2.2.2.2.2.2.2.2.2.2.2.2.2.2.2.2.1
theorem e_X5_sheetsToPrint_53 : decode cX5_sheetsToPrint 53 = .ok (.aaload, 1) := D_X5_sheetsToPrint_0.2.2.2.2.2.2.2.2.2.2.2.2.2.2.2.2.2.2.2.2.2.2.2.2.2.2.2.2.1
theorem e_X5_sheetsToPrint_54 : decode cX5_sheetsToPrint 54 = .ok (.getfield 57, 3) := D_X5_sheetsToPrint_0.2.2.2.2.2.2.2.2.2.2.2.2.2.2.2.2.2.2.2.2.2.2.2.2.2.2.2.2.2.1
theorem e_X5_sheetsToPrint_57 : decode cX5_sheetsToPrint 57 = .ok (.isub, 1) := D_X5_sheetsToPrint_0.2.2.2.2.2.2.2.2.2.2.2.2.2.2.2.2.2.2.2.2.2.2.2.2.2.2.2.2.2.2.1
theorem e_X5_sheetsToPrint_58 : decode cX5_sheetsToPrint 58 = .ok (.iadd, 1) := D_X5_sheetsToPrint_0.2.2.2.2.2.2.2.2.2.2.2.2.2.2.2.2.2.2.2.2.2.2.2.2.2.2.2.2.2.2.2.1
theorem e_X5_sheetsToPrint_59 : decode cX5_sheetsToPrint 59 = .ok (.istore_n 3, 1) := D_X5_sheetsToPrint_0.2.2.2.2.2.2.2.2.2.2.2.2.2.2.2.2.2.2.2.2.2.2.2.2.2.2.2.2.2.2.2.2.1
theorem e_X5_sheetsToPrint_60 : decode cX5_sheetsToPrint 60 = .ok (.iinc 4 1, 3) := D_X5_sheetsToPrint_0.2.2.2.2.2.2.2.2.2.2.2.2.2.2.2.2.2.2.2.2.2.2.2.2.2.2.2.2.2.2.2.2.2.1
theorem e_X5_sheetsToPrint_63 : decode cX5_sheetsToPrint 63 = .ok (.goto (-58), 3) := D_X5_sheetsToPrint_0.2.2.2.2.2.2.2.2.2.2.2.2.2.2.2.2.2.2.2.2.2.2.2.2.2.2.2.2.2.2.2.2.2.2.1
theorem e_X5_sheetsToPrint_66 : decode cX5_sheetsToPrint 66 = .ok (.iload_n 3, 1) := D_X5_sheetsToPrint_0.2.2.2.2.2.2.2.2.2.2.2.2.2.2.2.2.2.2.2.2.2.2.2.2.2.2.2.2.2.2.2.2.2.2.2.1
theorem e_X5_sheetsToPrint_67 : decode cX5_sheetsToPrint 67 = .ok (.ireturn, 1) := D_X5_sheetsToPrint_0.2.2.2.2.2.2.2.2.2.2.2.2.2.2.2.2.2.2.2.2.2.2.2.2.2.2.2.2.2.2.2.2.2.2.2.2.1
set_option maxRecDepth 100000 in
theorem D_X6_init_0 : decode cX6_init 0 = .ok (.aload_n 0, 1) ∧ decode cX6_init 1 = .ok (.invokespecial 3, 3) ∧ decode cX6_init 4 = .ok (.aload_n 0, 1) ∧ decode cX6_init 5 = .ok (.iconst 4, 1) ∧ decode cX6_init 6 = .ok (.newarray .int, 2) ∧ decode cX6_init 8 = .ok (.dup, 1) ∧ decode cX6_init 9 = .ok (.iconst 0, 1) ∧ decode cX6_init 10 = .ok (.iconst 1, 1) ∧ decode cX6_init 11 = .ok (.iastore, 1) ∧ decode cX6_init 12 = .ok (.dup, 1) ∧ decode cX6_init 13 = .ok (.iconst 1, 1) ∧ decode cX6_init 14 = .ok (.iconst 1, 1) ∧ decode cX6_init 15 = .ok (.iastore, 1) ∧ decode cX6_init 16 = .ok (.dup, 1) ∧ decode cX6_init 17 = .ok (.iconst 2, 1) ∧ decode cX6_init 18 = .ok (.iconst 1, 1) ∧ decode cX6_init 19 = .ok (.iastore, 1) ∧ decode cX6_init 20 = .ok (.dup, 1) ∧ decode cX6_init 21 = .ok (.iconst 3, 1) ∧ decode cX6_init 22 = .ok (.iconst 1, 1) ∧ decode cX6_init 23 = .ok (.iastore, 1) ∧ decode cX6_init 24 = .ok (.putfield 9, 3) ∧ decode cX6_init 27 = .ok (.aload_n 0, 1) ∧ decode cX6_init 28 = .ok (.iconst 4, 1) ∧ decode cX6_init 29 = .ok (.newarray .int, 2) ∧ decode cX6_init 31 = .ok (.putfield 15, 3) ∧ decode cX6_init 34 = .ok (.aload_n 0, 1) ∧ decode cX6_init 35 = .ok (.iconst 4, 1) ∧ decode cX6_init 36 = .ok (.newarray .int, 2) ∧ decode cX6_init 38 = .ok (.putfield 18, 3) ∧ decode cX6_init 41 = .ok (.return_, 1) ∧ True := dq_of (l := (0, .aload_n 0, 1) :: (1, .invokespecial 3, 3) :: (4, .aload_n 0, 1) :: (5, .iconst 4, 1) :: (6, .newarray .int, 2) :: (8, .dup, 1) :: (9, .iconst 0, 1) :: (10, .iconst 1, 1) :: (11, .iastore, 1) :: (12, .dup, 1) :: (13, .iconst 1, 1) :: (14, .iconst 1, 1) :: (15, .iastore, 1) :: (16, .dup, 1) :: (17, .iconst 2, 1) :: (18, .iconst 1, 1) :: (19, .iastore, 1) :: (20, .dup, 1) :: (21, .iconst 3, 1) :: (22, .iconst 1, 1) :: (23, .iastore, 1) :: (24, .putfield 9, 3) :: (27, .aload_n 0, 1) :: (28, .iconst 4, 1) :: (29, .newarray .int, 2) :: (31, .putfield 15, 3) :: (34, .aload_n 0, 1) :: (35, .iconst 4, 1) :: (36, .newarray .int, 2) :: (38, .putfield 18, 3) :: (41, .return_, 1) :: []) (by decide +kernel)
theorem e_X6_init_0 : decode cX6_init 0 = .ok (.aload_n 0, 1) := D_X6_init_0.1
theorem e_X6_init_1 : decode cX6_init 1 = .ok (.invokespecial 3, 3) := D_X6_init_0.2.1
theorem e_X6_init_4 : decode cX6_init 4 = .ok (.aload_n 0, 1) := D_X6_init_0.2.2.1
theorem e_X6_init_5 : decode cX6_init 5 = .ok (.iconst 4, 1) := D_X6_init_0.2.2.2.1
theorem e_X6_init_6 : decode cX6_init 6 = .ok (.newarray .int, 2) := D_X6_init_0.2.2.2.2.1
theorem e_X6_init_8 : decode cX6_init 8 = .ok (.dup, 1) := D_X6_init_0.2.2.2.2.2.1
theorem e_X6_init_9 : decode cX6_init 9 = .ok (.iconst 0, 1) := D_X6_init_0.2.2.2.2.2.2.1
theorem e_X6_init_10 : decode cX6_init 10 = .ok (.iconst 1, 1) := D_X6_init_0.2.2.2.2.2.2.2.1
theorem e_X6_init_11 : decode cX6_init 11 = .ok (.iastore, 1) := D_X6_init_0.2.2.2.2.2.2.2.2.1
theorem e_X6_init_12 : decode cX6_init 12 = .ok (.dup, 1) := D_X6_init_0.2.2.2.2.2.2.2.2.2.1
theorem e_X6_init_13 : decode cX6_init 13 = .ok (.iconst 1, 1) := D_X6_init_0.2.2.2.2.2.2.2.2.2.2.1
theorem e_X6_init_14 : decode cX6_init 14 = .ok (.iconst 1, 1) := D_X6_init_0.2.2.2.2.2.2.2.2.2.2.2.1
theorem e_X6_init_15 : decode cX6_init 15 = .ok (.iastore, 1) := D_X6_init_0.2.2.2.2.2.2.2.2.2.2.2.2.1
theorem e_X6_init_16 : decode cX6_init 16 = .ok (.dup, 1) := D_X6_init_0.2.2.2.2.2.2.2.2.2.2.2.2.2.1
theorem e_X6_init_17 : decode cX6_init 17 = .ok (.iconst 2, 1) := D_X6_init_0.2.2.2.2.2.2.2.2.2.2.2.2.2.2.1
theorem e_X6_init_18 : decode cX6_init 18 = .ok (.iconst 1, 1) := D_X6_init_0.2.2.2.2.2.2.2.2.2.2.2.2.2.2.2.1
theorem e_X6_init_19 : decode cX6_init 19 = .ok (.iastore, 1) := D_X6_init_0.2.2.2.2.2.2.2.2.2.2.2.2.2.2.2.2.1
theorem e_X6_init_20 : decode cX6_init 20 = .ok (.dup, 1) := D_X6_init_0.2.2.2.2.2.2.2.2.2.2.2.2.2.2.2.2.2.1
theorem e_X6_init_21 : decode cX6_init 21 = .ok (.iconst 3, 1) := D_X6_init_0.2.2.2.2.2.2.2.2.2.2.2.2.2.2.2.2.2.2.1
theorem e_X6_init_22 : decode cX6_init 22 = .ok (.iconst 1, 1) := D_X6_init_0.2.2.2.2.2.2.2.2.2.2.2.2.2.2.2.2.2.2.2.1
theorem e_X6_init_23 : decode cX6_init 23 = .ok (.iastore, 1) := D_X6_init_0.2.2.2.2.2.2.2.2.2.2.2.2.2.2.2.2.2.2.2.2.1
theorem e_X6_init_24 : decode cX6_init 24 = .ok (.putfield 9, 3) := D_X6_init_0.2.2.2.2.2.2.2.2.2.2.2.2.2.2.2.2.2.2.2.2.2.1
theorem e_X6_init_27 : decode cX6_init 27 = .ok (.aload_n 0, 1) := D_X6_init_0.2.2.2.2.2.2.2.2.2.2.2.2.2.2.2.2.2.2.2.2.2.2.1
theorem e_X6_init_28 : decode cX6_init 28 = .ok (.iconst 4, 1) := D_X6_init_0.2.2.2.2.2.2.2.2.2.2.2.2.2.2.2.2.2.2.2.2.2.2.2.1
theorem e_X6_init_29 : decode cX6_init 29 = .ok (.newarray .int, 2) := D_X6_init_0.2.2.2.2.2.2.2.2.2.2.2.2.2.2.2.2.2.2.2.2.2.2.2.2.1
theorem e_X6_init_31 : decode cX6_init 31 = .ok (.putfield 15, 3) := D_X6_init_0.2.2.2.2.2.2.2.2.2.2.2.2.2.2.2.2.2.2.2.2.2.2.2.2.2.1
theorem e_X6_init_34 : decode cX6_init 34 = .ok (.aload_n 0, 1) := D_X6_init_0.2.2.2.2.2.2.2.2.2.2.2.2.2.2.2.2.2.2.2.2.2.2.2.2.2.2.1
theorem e_X6_init_35 : decode cX6_init 35 = .ok (.iconst 4, 1) := D_X6_init_0.2.2.2.2.2.2.2.2.2.2.2.2.2.2.2.2.2.2.2.2.2.2.2.2.2.2.2.1
theorem e_X6_init_36 : decode cX6_init 36 = .ok (.newarray .int, 2) := D_X6_init_0.2.2.2.2.2.2.2.2.2.2.2.2.2.2.2.2.2.2.2.2.2.2.2.2.2.2.2.2.1
theorem e_X6_init_38 : decode cX6_init 38 = .ok (.putfield 18, 3) := D_X6_init_0.2.2.2.2.2.2.2.2.2.2.2.2.2.2.2.2.2.2.2.2.2.2.2.2.2.2.2.2.2.1
theorem e_X6_init_41 : decode cX6_init 41 = .ok (.return_, 1) := D_X6_init_0.2.2.2.2.2.2.2.2.2.2.2.2.2.2.2.2.2.2.2.2.2.2.2.2.2.2.2.2.2.2.1
set_option maxRecDepth 100000 in
theorem D_X6_copyFrom_0 : decode cX6_copyFrom 0 = .ok (.aload_n 1, 1) ∧ decode cX6_copyFrom 1 = .ok (.getfield 9, 3) ∧ decode cX6_copyFrom 4 = .ok (.iconst 0, 1) ∧ decode cX6_copyFrom 5 = .ok (.aload_n 0, 1) ∧ decode cX6_copyFrom 6 = .ok (.getfield 9, 3) ∧ decode cX6_copyFrom 9 = .ok (.iconst 0, 1) ∧ decode cX6_copyFrom 10 = .ok (.iconst 4, 1) ∧ decode cX6_copyFrom 11 = .ok (.invokestatic 21, 3) ∧ decode cX6_copyFrom 14 = .ok (.aload_n 1, 1) ∧ decode cX6_copyFrom 15 = .ok (.getfield 15, 3) ∧ decode cX6_copyFrom 18 = .ok (.iconst 0, 1) ∧ decode cX6_copyFrom 19 = .ok (.aload_n 0, 1) ∧ decode cX6_copyFrom 20 = .ok (.getfield 15, 3) ∧ decode cX6_copyFrom 23 = .ok (.iconst 0, 1) ∧ decode cX6_copyFrom 24 = .ok (.iconst 4, 1) ∧ decode cX6_copyFrom 25 = .ok (.invokestatic 21, 3) ∧ decode cX6_copyFrom 28 = .ok (.aload_n 1, 1) ∧ decode cX6_copyFrom 29 = .ok (.getfield 18, 3) ∧ decode cX6_copyFrom 32 = .ok (.iconst 0, 1) ∧ decode cX6_copyFrom 33 = .ok (.aload_n 0, 1) ∧ decode cX6_copyFrom 34 = .ok (.getfield 18, 3) ∧ decode cX6_copyFrom 37 = .ok (.iconst 0, 1) ∧ decode cX6_copyFrom 38 = .ok (.iconst 4, 1) ∧ decode cX6_copyFrom 39 = .ok (.invokestatic 21, 3) ∧ decode cX6_copyFrom 42 = .ok (.return_, 1) ∧ True := dq_of (l := (0, .aload_n 1, 1) :: (1, .getfield 9, 3) :: (4, .iconst 0, 1) :: (5, .aload_n 0, 1) :: (6, .getfield 9, 3) :: (9, .iconst 0, 1) :: (10, .iconst 4, 1) :: (11, .invokestatic 21, 3) :: (14, .aload_n 1, 1) :: (15, .getfield 15, 3) :: (18, .iconst 0, 1) :: (19, .aload_n 0, 1) :: (20, .getfield 15, 3) :: (23, .iconst 0, 1) :: (24, .iconst 4, 1) :: (25, .invokestatic 21, 3) :: (28, .aload_n 1, 1) :: (29, .getfield 18, 3) :: (32, .iconst 0, 1) :: (33, .aload_n 0, 1) :: (34, .getfield 18, 3) :: (37, .iconst 0, 1) :: (38, .iconst 4, 1) :: (39, .invokestatic 21, 3) :: (42, .return_, 1) :: []) (by decide +kernel)
theorem e_X6_copyFrom_0 : decode cX6_copyFrom 0 = .ok (.aload_n 1, 1) := D_X6_copyFrom_0.1
theorem e_X6_copyFrom_1 : decode cX6_copyFrom 1 = .ok (.getfield 9, 3) := D_X6_copyFrom_0.2.1
theorem e_X6_copyFrom_4 : decode cX6_copyFrom 4 = .ok (.iconst 0, 1) := D_X6_copyFrom_0.2.2.1
theorem e_X6_copyFrom_5 : decode cX6_copyFrom 5 = .ok (.aload_n 0, 1) := D_X6_copyFrom_0.2.2.2.1
theorem e_X6_copyFrom_6 : decode cX6_copyFrom 6 = .ok (.getfield 9, 3) := D_X6_copyFrom_0.2.2.2.2.1
theorem e_X6_copyFrom_9 : decode cX6_copyFrom 9 = .ok (.iconst 0, 1) := D_X6_copyFrom_0.2.2.2.2.2.1
theorem e_X6_copyFrom_10 : decode cX6_copyFrom 10 = .ok (.iconst 4, 1) := D_X6_copyFrom_0.2.2.2.2.2.2.1
theorem e_X6_copyFrom_11 : decode cX6_copyFrom 11 = .ok (.invokestatic 21, 3) := D_X6_copyFrom_0.2.2.2.2.2.2.2.1
theorem e_X6_copyFrom_14 : decode cX6_copyFrom 14 = .ok (.aload_n 1, 1) := D_X6_copyFrom_0.2.2.2.2.2.2.2.2.1
theorem e_X6_copyFrom_15 : decode cX6_copyFrom 15 = .ok (.getfield 15, 3) := D_X6_copyFrom_0.2.2.2.2.2.2.2.2.2.1
theorem e_X6_copyFrom_18 : decode cX6_copyFrom 18 = .ok (.iconst 0, 1) := D_X6_copyFrom_0.2.2.2.2.2.2.2.2.2.2.1
theorem e_X6_copyFrom_19 : decode cX6_copyFrom 19 = .ok (.aload_n 0, 1) := D_X6_copyFrom_0.2.2.2.2.2.2.2.2.2.2.2.1
theorem e_X6_copyFrom_20 : decode cX6_copyFrom 20 = .ok (.getfield 15, 3) := D_X6_copyFrom_0.2.2.2.2.2.2.2.2.2.2.2.2.1
theorem e_X6_copyFrom_23 : decode cX6_copyFrom 23 = .ok (.iconst 0, 1) := D_X6_copyFrom_0.2.2.2.2.2.2.2.2.2.2.2.2.2.1
theorem e_X6_copyFrom_24 : decode cX6_copyFrom 24 = .ok (.iconst 4, 1) := D_X6_copyFrom_0.2.2.2.2.2.2.2.2.2.2.2.2.2.2.1
theorem e_X6_copyFrom_25 : decode cX6_copyFrom 25 = .ok (.invokestatic 21, 3) := D_X6_copyFrom_0.2.2.2.2.2.2.2.2.2.2.2.2.2.2.2.1
theorem e_X6_copyFrom_28 : decode cX6_copyFrom 28 = .ok (.aload_n 1, 1) := D_X6_copyFrom_0.2.2.2.2.2.2.2.2.2.2.2.2.2.2.2.2.1
theorem e_X6_copyFrom_29 : decode cX6_copyFrom 29 = .ok (.getfield 18, 3) := D_X6_copyFrom_0.2.2.2.2.2.2.2.2.2.2.2.2.2.2.2.2.2.1
theorem e_X6_copyFrom_32 : decode cX6_copyFrom 32 = .ok (.iconst 0, 1) := D_X6_copyFrom_0.2.2.2.2.2.2.2.2.2.2.2.2.2.2.2.2.2.2.1
theorem e_X6_copyFrom_33 : decode cX6_copyFrom 33 = .ok (.aload_n 0, 1) := D_X6_copyFrom_0.2.2.2.2.2.2.2.2.2.2.2.2.2.2.2.2.2.2.2.1
theorem e_X6_copyFrom_34 : decode cX6_copyFrom 34 = .ok (.getfield 18, 3) := D_X6_copyFrom_0.2.2.2.2.2.2.2.2.2.2.2.2.2.2.2.2.2.2.2.2.1
theorem e_X6_copyFrom_37 : decode cX6_copyFrom 37 = .ok (.iconst 0, 1) := D_X6_copyFrom_0.2.2.2.2.2.2.2.2.2.2.2.2.2.2.2.2.2.2.2.2.2.1
theorem e_X6_copyFrom_38 : decode cX6_copyFrom 38 = .ok (.iconst 4, 1) := D_X6_copyFrom_0.2.2.2.2.2.2.2.2.2.2.2.2.2.2.2.2.2.2.2.2.2.2.1
theorem e_X6_copyFrom_39 : decode cX6_copyFrom 39 = .ok (.invokestatic 21, 3) := D_X6_copyFrom_0.2.2.2.2.2.2.2.2.2.2.2.2.2.2.2.2.2.2.2.2.2.2.2.1
theorem e_X6_copyFrom_42 : decode cX6_copyFrom 42 = .ok (.return_, 1) := D_X6_copyFrom_0.2.2.2.2.2.2.2.2.2.2.2.2.2.2.2.2.2.2.2.2.2.2.2.2.1
set_option maxRecDepth 100000 in
theorem D_X6_change_0 : decode cX6_change 0 = .ok (.iload_n 1, 1) ∧ decode cX6_change 1 = .ok (.iconst 4, 1) ∧ decode cX6_change 2 = .ok (.invokestatic 27, 3) ∧ decode cX6_change 5 = .ok (.ifCond .ne 5, 3) ∧ decode cX6_change 8 = .ok (.iconst 0, 1) ∧ decode cX6_change 9 = .ok (.ireturn, 1) ∧ decode cX6_change 10 = .ok (.aload_n 0, 1) ∧ decode cX6_change 11 = .ok (.getfield 18, 3) ∧ decode cX6_change 14 = .ok (.iload_n 1, 1) ∧ decode cX6_change 15 = .ok (.iaload, 1) ∧ decode cX6_change 16 = .ok (.istore 4, 2) ∧ decode cX6_change 18 = .ok (.aload_n 0, 1) ∧ decode cX6_change 19 = .ok (.getfield 9, 3) ∧ decode cX6_change 22 = .ok (.iload_n 1, 1) ∧ decode cX6_change 23 = .ok (.iload_n 2, 1) ∧ decode cX6_change 24 = .ok (.iastore, 1) ∧ decode cX6_change 25 = .ok (.aload_n 0, 1) ∧ decode cX6_change 26 = .ok (.getfield 15, 3) ∧ decode cX6_change 29 = .ok (.iload_n 1, 1) ∧ decode cX6_change 30 = .ok (.iload_n 3, 1) ∧ decode cX6_change 31 = .ok (.iastore, 1) ∧ decode cX6_change 32 = .ok (.aload_n 0, 1) ∧ decode cX6_change 33 = .ok (.getfield 18, 3) ∧ decode cX6_change 36 = .ok (.iload_n 1, 1) ∧ decode cX6_change 37 = .ok (.iconst 0, 1) ∧ decode cX6_change 38 = .ok (.iastore, 1) ∧ decode cX6_change 39 = .ok (.iload 4, 2) ∧ decode cX6_change 41 = .ok (.ireturn, 1) ∧ True := dq_of (l := (0, .iload_n 1, 1) :: (1, .iconst 4, 1) :: (2, .invokestatic 27, 3) :: (5, .ifCond .ne 5, 3) :: (8, .iconst 0, 1) :: (9, .ireturn, 1) :: (10, .aload_n 0, 1) :: (11, .getfield 18, 3) :: (14, .iload_n 1, 1) :: (15, .iaload, 1) :: (16, .istore 4, 2) :: (18, .aload_n 0, 1) :: (19, .getfield 9, 3) :: (22, .iload_n 1, 1) :: (23, .iload_n 2, 1) :: (24, .iastore, 1) :: (25, .aload_n 0, 1) :: (26, .getfield 15, 3) :: (29, .iload_n 1, 1) :: (30, .iload_n 3, 1) :: (31, .iastore, 1) :: (32, .aload_n 0, 1) :: (33, .getfield 18, 3) :: (36, .iload_n 1, 1) :: (37, .iconst 0, 1) :: (38, .iastore, 1) :: (39, .iload 4, 2) :: (41, .ireturn, 1) :: []) (by decide +kernel)
theorem e_X6_change_0 : decode cX6_change 0 = .ok (.iload_n 1, 1) := D_X6_change_0.1
theorem e_X6_change_1 : decode cX6_change 1 = .ok (.iconst 4, 1) := D_X6_change_0.2.1
theorem e_X6_change_2 : decode cX6_change 2 = .ok (.invokestatic 27, 3) := D_X6_change_0.2.2.1
theorem e_X6_change_5 : decode cX6_change 5 = .ok (.ifCond .ne 5, 3) := D_X6_change_0.2.2.2.1
theorem e_X6_change_8 : decode cX6_change 8 = .ok (.iconst 0, 1) := D_X6_change_0.2.2.2.2.1
theorem e_X6_change_9 : decode cX6_change 9 = .ok (.ireturn, 1) := D_X6_change_0.2.2.2.2.2.1
theorem e_X6_change_10 : decode cX6_change 10 = .ok (.aload_n 0, 1) := D_X6_change_0.2.2.2.2.2.2.1
theorem e_X6_change_11 : decode cX6_change 11 = .ok (.getfield 18, 3) := D_X6_change_0.2.2.2.2.2.2.2.1
theorem e_X6_change_14 : decode cX6_change 14 = .ok (.iload_n 1, 1) := D_X6_change_0.2.2.2.2.2.2.2.2.1
theorem e_X6_change_15 : decode cX6_change 15 = .ok (.iaload, 1) := D_X6_change_0.2.2.2.2.2.2.2.2.2.1
theorem e_X6_change_16 : decode cX6_change 16 = .ok (.istore 4, 2) := D_X6_change_0.2.2.2.2.2.2.2.2.2.2.1
theorem e_X6_change_18 : decode cX6_change 18 = .ok (.aload_n 0, 1) := D_X6_change_0.2.2.2.2.2.2.2.2.2.2.2.1
theorem e_X6_change_19 : decode cX6_change 19 = .ok (.getfield 9, 3) := D_X6_change_0.2.2.2.2.2.2.2.2.2.2.2.2.1
theorem e_X6_change_22 : decode cX6_change 22 = .ok (.iload_n 1, 1) := D_X6_change_0.2.2.2.2.2.2.2.2.2.2.2.2.2.1
theorem e_X6_change_23 : decode cX6_change 23 = .ok (.iload_n 2, 1) := D_X6_change_0.2.2.2.2.2.2.2.2.2.2.2.2.2.2.1
theorem e_X6_change_24 : decode cX6_change 24 = .ok (.iastore, 1) := D_X6_change_0.2.2.2.2.2.2.2.2.2.2.2.2.2.2.2.1
theorem e_X6_change_25 : decode cX6_change 25 = .ok (.aload_n 0, 1) := D_X6_change_0.2.2.2.2.2.2.2.2.2.2.2.2.2.2.2.2.1
theorem e_X6_change_26 : decode cX6_change 26 = .ok (.getfield 15, 3) := D_X6_change_0.2.2.2.2.2.2.2.2.2.2.2.2.2.2.2.2.2.1
theorem e_X6_change_29 : decode cX6_change 29 = .ok (.iload_n 1, 1) := D_X6_change_0.2.2.2.2.2.2.2.2.2.2.2.2.2.2.2.2.2.2.1
theorem e_X6_change_30 : decode cX6_change 30 = .ok (.iload_n 3, 1) := D_X6_change_0.2.2.2.2.2.2.2.2.2.2.2.2.2.2.2.2.2.2.2.1
theorem e_X6_change_31 : decode cX6_change 31 = .ok (.iastore, 1) := D_X6_change_0.2.2.2.2.2.2.2.2.2.2.2.2.2.2.2.2.2.2.2.2.1
theorem e_X6_change_32 : decode cX6_change 32 = .ok (.aload_n 0, 1) := D_X6_change_0.2.2.2.2.2.2.2.2.2.2.2.2.2.2.2.2.2.2.2.2.2.1
theorem e_X6_change_33 : decode cX6_change 33 = .ok (.getfield 18, 3) := D_X6_change_0.2.2.2.2.2.2.2.2.2.2.2.2.2.2.2.2.2.2.2.2.2.2.1
theorem e_X6_change_36 : decode cX6_change 36 = .ok (.iload_n 1, 1) := D_X6_change_0.2.2.2.2.2.2.2.2.2.2.2.2.2.2.2.2.2.2.2.2.2.2.2.1
theorem e_X6_change_37 : decode cX6_change 37 = .ok (.iconst 0, 1) := D_X6_change_0.2.2.2.2.2.2.2.2.2.2.2.2.2.2.2.2.2.2.2.2.2.2.2.2.1
theorem e_X6_change_38 : decode cX6_change 38 = .ok (.iastore, 1) := D_X6_change_0.2.2.2.2.2.2.2.2.2.2.2.2.2.2.2.2.2.2.2.2.2.2.2.2.2.1
theorem e_X6_change_39 : decode cX6_change 39 = .ok (.iload 4, 2) := D_X6_change_0.2.2.2.2.2.2.2.2.2.2.2.2.2.2.2.2.2.2.2.2.2.2.2.2.2.2.1
theorem e_X6_change_41 : decode cX6_change 41 = .ok (.ireturn, 1) := D_X6_change_0.2.2.2.2.2.2.2.2.2.2.2.2.2.2.2.2.2.2.2.2.2.2.2.2.2.2.2.1
set_option maxRecDepth 100000 in
theorem D_X6_sheetsOf_0 : decode cX6_sheetsOf 0 = .ok (.iconst 0, 1) ∧ decode cX6_sheetsOf 1 = .ok (.istore_n 3, 1) ∧ decode cX6_sheetsOf 2 = .ok (.iconst 0, 1) ∧ decode cX6_sheetsOf 3 = .ok (.istore 4, 2) ∧ decode cX6_sheetsOf 5 = .ok (.iload 4, 2) ∧ decode cX6_sheetsOf 7 = .ok (.iconst 4, 1) ∧ decode cX6_sheetsOf 8 = .ok (.if_icmp .ge 41, 3) ∧ decode cX6_sheetsOf 11 = .ok (.aload_n 0, 1) ∧ decode cX6_sheetsOf 12 = .ok (.getfield 9, 3) ∧ decode cX6_sheetsOf 15 = .ok (.iload 4, 2) ∧ decode cX6_sheetsOf 17 = .ok (.iaload, 1) ∧ decode cX6_sheetsOf 18 = .ok (.iload_n 1, 1) ∧ decode cX6_sheetsOf 19 = .ok (.if_icmp .ne 24, 3) ∧ decode cX6_sheetsOf 22 = .ok (.aload_n 0, 1) ∧ decode cX6_sheetsOf 23 = .ok (.getfield 15, 3) ∧ decode cX6_sheetsOf 26 = .ok (.iload 4, 2) ∧ decode cX6_sheetsOf 28 = .ok (.iaload, 1) ∧ decode cX6_sheetsOf 29 = .ok (.iload_n 2, 1) ∧ decode cX6_sheetsOf 30 = .ok (.if_icmp .ne 13, 3) ∧ decode cX6_sheetsOf 33 = .ok (.iload_n 3, 1) ∧ decode cX6_sheetsOf 34 = .ok (.aload_n 0, 1) ∧ decode cX6_sheetsOf 35 = .ok (.getfield 18, 3) ∧ decode cX6_sheetsOf 38 = .ok (.iload 4, 2) ∧ decode cX6_sheetsOf 40 = .ok (.iaload, 1) ∧ decode cX6_sheetsOf 41 = .ok (.iadd, 1) ∧ decode cX6_sheetsOf 42 = .ok (.istore_n 3, 1) ∧ decode cX6_sheetsOf 43 = .ok (.iinc 4 1, 3) ∧ decode cX6_sheetsOf 46 = .ok (.goto (-41), 3) ∧ decode cX6_sheetsOf 49 = .ok (.iload_n 3, 1) ∧ decode cX6_sheetsOf 50 = .ok (.ireturn, 1) ∧ True := dq_of (l := (0, .iconst 0, 1) :: (1, .istore_n 3, 1) :: (2, .iconst 0, 1) :: (3, .istore 4, 2) :: (5, .iload 4, 2) :: (7, .iconst 4, 1) :: (8, .if_icmp .ge 41, 3) :: (11, .aload_n 0, 1) :: (12, .getfield 9, 3) :: (15, .iload 4, 2) :: (17, .iaload, 1) :: (18, .iload_n 1, 1) :: (19, .if_icmp .ne 24, 3) :: (22, .aload_n 0, 1) :: (23, .getfield 15, 3) :: (26, .iload 4, 2) :: (28, .iaload, 1) :: (29, .iload_n 2, 1) :: (30, .if_icmp .ne 13, 3) :: (33, .iload_n 3, 1) :: (34, .aload_n 0, 1) :: (35, .getfield 18, 3) :: (38, .iload 4, 2) :: (40, .iaload, 1) :: (41, .iadd, 1) :: (42, .istore_n 3, 1) :: (43, .iinc 4 1, 3) :: (46, .goto (-41), 3) :: (49, .iload_n 3, 1) :: (50, .ireturn, 1) :: []) (by decide +kernel)
theorem e_X6_sheetsOf_0 : decode cX6_sheetsOf 0 = .ok (.iconst 0, 1) := D_X6_sheetsOf_0.1
theorem e_X6_sheetsOf_1 : decode cX6_sheetsOf 1 = .ok (.istore_n 3, 1) := D_X6_sheetsOf_0.2.1
theorem e_X6_sheetsOf_2 : decode cX6_sheetsOf 2 = .ok (.iconst 0, 1) := D_X6_sheetsOf_0.2.2.1
theorem e_X6_sheetsOf_3 : decode cX6_sheetsOf 3 = .ok (.istore 4, 2) := D_X6_sheetsOf_0.2.2.2.1
theorem e_X6_sheetsOf_5 : decode cX6_sheetsOf 5 = .ok (.iload 4, 2) := D_X6_sheetsOf_0.2.2.2.2.1
theorem e_X6_sheetsOf_7 : decode cX6_sheetsOf 7 = .ok (.iconst 4, 1) := D_X6_sheetsOf_0.2.2.2.2.2.1
theorem e_X6_sheetsOf_8 : decode cX6_sheetsOf 8 = .ok (.if_icmp .ge 41, 3) := D_X6_sheetsOf_0.2.2.2.2.2.2.1
theorem e_X6_sheetsOf_11 : decode cX6_sheetsOf 11 = .ok (.aload_n 0, 1) := D_X6_sheetsOf_0.2.2.2.2.2.2.2.1
theorem e_X6_sheetsOf_12 : decode cX6_sheetsOf 12 = .ok (.getfield 9, 3) := D_X6_sheetsOf_0.2.2.2.2.2.2.2.2.1
theorem e_X6_sheetsOf_15 : decode cX6_sheetsOf 15 = .ok (.iload 4, 2) := D_X6_sheetsOf_0.2.2.2.2.2.2.2.2.2.1
theorem e_X6_sheetsOf_17 : decode cX6_sheetsOf 17 = .ok (.iaload, 1) := D_X6_sheetsOf_0.2.2.2.2.2.2.2.2.2.2.1
theorem e_X6_sheetsOf_18 : decode cX6_sheetsOf 18 = .ok (.iload_n 1, 1) := D_X6_sheetsOf_0.2.2.2.2.2.2.2.2.2.2.2.1
theorem e_X6_sheetsOf_19 : decode cX6_sheetsOf 19 = .ok (.if_icmp .ne 24, 3) := D_X6_sheetsOf_0.2.2.2.2.2.2.2.2.2.2.2.2.1
theorem e_X6_sheetsOf_22 : decode cX6_sheetsOf 22 = .ok (.aload_n 0, 1) := D_X6_sheetsOf_0.2.2.2.2.2.2.2.2.2.2.2.2.2.1
theorem e_X6_sheetsOf_23 : decode cX6_sheetsOf 23 = .ok (.getfield 15, 3) := D_X6_sheetsOf_0.2.2.2.2.2.2.2.2.2.2.2.2.2.2.1
theorem e_X6_sheetsOf_26 : decode cX6_sheetsOf 26 = .ok (.iload 4, 2) := D_X6_sheetsOf_0.2.2.2.2.2.2.2.2.2.2.2.2.2.2.2.1
theorem e_X6_sheetsOf_28 : decode cX6_sheetsOf 28 = .ok (.iaload, 1) := D_X6_sheetsOf_0.2.2.2.2.2.2.2.2.2.2.2.2.2.2.2.2.1
theorem e_X6_sheetsOf_29 : decode cX6_sheetsOf 29 = .ok (.iload_n 2, 1) := D_X6_sheetsOf_0.2.2.2.2.2.2.2.2.2.2.2.2.2.2.2.2.2.1
theorem e_X6_sheetsOf_30 : decode cX6_sheetsOf 30 = .ok (.if_icmp .ne 13, 3) := D_X6_sheetsOf_0.2.2.2.2.2.2.2.2.2.2.2.2.2.2.2.2.2.2.1
theorem e_X6_sheetsOf_33 : decode cX6_sheetsOf 33 = .ok (.iload_n 3, 1) := D_X6_sheetsOf_0.2.2.2.2.2.2.2.2.2.2.2.2.2.2.2.2.2.2.2.1
theorem e_X6_sheetsOf_34 : decode cX6_sheetsOf 34 = .ok (.aload_n 0, 1) := D_X6_sheetsOf_0.2.2.2.2.2.2.2.2.2.2.2.2.2.2.2.2.2.2.2.2.1
theorem e_X6_sheetsOf_35 : decode cX6_sheetsOf 35 = .ok (.getfield 18, 3) := D_X6_sheetsOf_0.2.2.2.2.2.2.2.2.2.2.2.2.2.2.2.2.2.2.2.2.2.1
theorem e_X6_sheetsOf_38 : decode cX6_sheetsOf 38 = .ok (.iload 4, 2) := D_X6_sheetsOf_0.2.2.2.2.2.2.2.2.2.2.2.2.2.2.2.2.2.2.2.2.2.2.1
theorem e_X6_sheetsOf_40 : decode cX6_sheetsOf 40 = .ok (.iaload, 1) := D_X6_sheetsOf_0.2.2.2.2.2.2.2.2.2.2.2.2.2.2.2.2.2.2.2.2.2.2.2.1
theorem e_X6_sheetsOf_41 : decode cX6_sheetsOf 41 = .ok (.iadd, 1) := D_X6_sheetsOf_0.2.2.2.2.2.2.2.2.2.2.2.2.2.2.2.2.2.2.2.2.2.2.2.2.1
theorem e_X6_sheetsOf_42 : decode cX6_sheetsOf 42 = .ok (.istore_n 3, 1) := D_X6_sheetsOf_0.2.2.2.2.2.2.2.2.2.2.2.2.2.2.2.2.2.2.2.2.2.2.2.2.2.1
theorem e_X6_sheetsOf_43 : decode cX6_sheetsOf 43 = .ok (.iinc 4 1, 3) := D_X6_sheetsOf_0.2.2.2.2.2.2.2.2.2.2.2.2.2.2.2.2.2.2.2.2.2.2.2.2.2.2.1
theorem e_X6_sheetsOf_46 : decode cX6_sheetsOf 46 = .ok (.goto (-41), 3) := D_X6_sheetsOf_0.2.2.2.2.2.2.2.2.2.2.2.2.2.2.2.2.2.2.2.2.2.2.2.2.2.2.2.1
theorem e_X6_sheetsOf_49 : decode cX6_sheetsOf 49 = .ok (.iload_n 3, 1) := D_X6_sheetsOf_0.2.2.2.2.2.2.2.2.2.2.2.2.2.2.2.2.2.2.2.2.2.2.2.2.2.2.2.2.1
theorem e_X6_sheetsOf_50 : decode cX6_sheetsOf 50 = .ok (.ireturn, 1) := D_X6_sheetsOf_0.2.2.2.2.2.2.2.2.2.2.2.2.2.2.2.2.2.2.2.2.2.2.2.2.2.2.2.2.2.1
set_option maxRecDepth 100000 in
theorem D_X6_lowestWith_0 : decode cX6_lowestWith 0 = .ok (.iconst 0, 1) ∧ decode cX6_lowestWith 1 = .ok (.istore_n 3, 1) ∧ decode cX6_lowestWith 2 = .ok (.iload_n 3, 1) ∧ decode cX6_lowestWith 3 = .ok (.iconst 4, 1) ∧ decode cX6_lowestWith 4 = .ok (.if_icmp .ge 40, 3) ∧ decode cX6_lowestWith 7 = .ok (.aload_n 0, 1) ∧ decode cX6_lowestWith 8 = .ok (.getfield 9, 3) ∧ decode cX6_lowestWith 11 = .ok (.iload_n 3, 1) ∧ decode cX6_lowestWith 12 = .ok (.iaload, 1) ∧ decode cX6_lowestWith 13 = .ok (.iload_n 1, 1) ∧ decode cX6_lowestWith 14 = .ok (.if_icmp .ne 24, 3) ∧ decode cX6_lowestWith 17 = .ok (.aload_n 0, 1) ∧ decode cX6_lowestWith 18 = .ok (.getfield 15, 3) ∧ decode cX6_lowestWith 21 = .ok (.iload_n 3, 1) ∧ decode cX6_lowestWith 22 = .ok (.iaload, 1) ∧ decode cX6_lowestWith 23 = .ok (.iload_n 2, 1) ∧ decode cX6_lowestWith 24 = .ok (.if_icmp .ne 14, 3) ∧ decode cX6_lowestWith 27 = .ok (.aload_n 0, 1) ∧ decode cX6_lowestWith 28 = .ok (.getfield 18, 3) ∧ decode cX6_lowestWith 31 = .ok (.iload_n 3, 1) ∧ decode cX6_lowestWith 32 = .ok (.iaload, 1) ∧ decode cX6_lowestWith 33 = .ok (.ifCond .le 5, 3) ∧ decode cX6_lowestWith 36 = .ok (.iload_n 3, 1) ∧ decode cX6_lowestWith 37 = .ok (.ireturn, 1) ∧ decode cX6_lowestWith 38 = .ok (.iinc 3 1, 3) ∧ decode cX6_lowestWith 41 = .ok (.goto (-39), 3) ∧ decode cX6_lowestWith 44 = .ok (.iconst (-1), 1) ∧ decode cX6_lowestWith 45 = .ok (.ireturn, 1) ∧ True := dq_of (l := (0, .iconst 0, 1) :: (1, .istore_n 3, 1) :: (2, .iload_n 3, 1) :: (3, .iconst 4, 1) :: (4, .if_icmp .ge 40, 3) :: (7, .aload_n 0, 1) :: (8, .getfield 9, 3) :: (11, .iload_n 3, 1) :: (12, .iaload, 1) :: (13, .iload_n 1, 1) :: (14, .if_icmp .ne 24, 3) :: (17, .aload_n 0, 1) :: (18, .getfield 15, 3) :: (21, .iload_n 3, 1) :: (22, .iaload, 1) :: (23, .iload_n 2, 1) :: (24, .if_icmp .ne 14, 3) :: (27, .aload_n 0, 1) :: (28, .getfield 18, 3) :: (31, .iload_n 3, 1) :: (32, .iaload, 1) :: (33, .ifCond .le 5, 3) :: (36, .iload_n 3, 1) :: (37, .ireturn, 1) :: (38, .iinc 3 1, 3) :: (41, .goto (-39), 3) :: (44, .iconst (-1), 1) :: (45, .ireturn, 1) :: []) (by decide +kernel)
theorem e_X6_lowestWith_0 : decode cX6_lowestWith 0 = .ok (.iconst 0, 1) := D_X6_lowestWith_0.1
theorem e_X6_lowestWith_1 : decode cX6_lowestWith 1 = .ok (.istore_n 3, 1) := D_X6_lowestWith_0.2.1
theorem e_X6_lowestWith_2 : decode cX6_lowestWith 2 = .ok (.iload_n 3, 1) := D_X6_lowestWith_0.2.2.1
theorem e_X6_lowestWith_3 : decode cX6_lowestWith 3 = .ok (.iconst 4, 1) := D_X6_lowestWith_0.2.2.2.1
theorem e_X6_lowestWith_4 : decode cX6_lowestWith 4 = .ok (.if_icmp .ge 40, 3) := D_X6_lowestWith_0.2.2.2.2.1
theorem e_X6_lowestWith_7 : decode cX6_lowestWith 7 = .ok (.aload_n 0, 1) := D_X6_lowestWith_0.2.2.2.2.2.1
theorem e_X6_lowestWith_8 : decode cX6_lowestWith 8 = .ok (.getfield 9, 3) := D_X6_lowestWith_0.2.2.2.2.2.2.1
theorem e_X6_lowestWith_11 : decode cX6_lowestWith 11 = .ok (.iload_n 3, 1) := D_X6_lowestWith_0.2.2.2.2.2.2.2.1
theorem e_X6_lowestWith_12 : decode cX6_lowestWith 12 = .ok (.iaload, 1) := D_X6_lowestWith_0.2.2.2.2.2.2.2.2.1
theorem e_X6_lowestWith_13 : decode cX6_lowestWith 13 = .ok (.iload_n 1, 1) := D_X6_lowestWith_0.2.2.2.2.2.2.2.2.2.1
theorem e_X6_lowestWith_14 : decode cX6_lowestWith 14 = .ok (.if_icmp .ne 24, 3) := D_X6_lowestWith_0.2.2.2.2.2.2.2.2.2.2.1
theorem e_X6_lowestWith_17 : decode cX6_lowestWith 17 = .ok (.aload_n 0, 1) := D_X6_lowestWith_0.2.2.2.2.2.2.2.2.2.2.2.1
theorem e_X6_lowestWith_18 : decode cX6_lowestWith 18 = .ok (.getfield 15, 3) := D_X6_lowestWith_0.2.2.2.2.2.2.2.2.2.2.2.2.1
theorem e_X6_lowestWith_21 : decode cX6_lowestWith 21 = .ok (.iload_n 3, 1) := D_X6_lowestWith_0.2.2.2.2.2.2.2.2.2.2.2.2.2.1
theorem e_X6_lowestWith_22 : decode cX6_lowestWith 22 = .ok (.iaload, 1) := D_X6_lowestWith_0.2.2.2.2.2.2.2.2.2.2.2.2.2.2.1
theorem e_X6_lowestWith_23 : decode cX6_lowestWith 23 = .ok (.iload_n 2, 1) := D_X6_lowestWith_0.2.2.2.2.2.2.2.2.2.2.2.2.2.2.2.1
theorem e_X6_lowestWith_24 : decode cX6_lowestWith 24 = .ok (.if_icmp .ne 14, 3) := D_X6_lowestWith_0.2.2.2.2.2.2.2.2.2.2.2.2.2.2.2.2.1
theorem e_X6_lowestWith_27 : decode cX6_lowestWith 27 = .ok (.aload_n 0, 1) := D_X6_lowestWith_0.2.2.2.2.2.2.2.2.2.2.2.2.2.2.2.2.2.1
theorem e_X6_lowestWith_28 : decode cX6_lowestWith 28 = .ok (.getfield 18, 3) := D_X6_lowestWith_0.2.2.2.2.2.2.2.2.2.2.2.2.2.2.2.2.2.2.1
theorem e_X6_lowestWith_31 : decode cX6_lowestWith 31 = .ok (.iload_n 3, 1) := D_X6_lowestWith_0.2.2.2.2.2.2.2.2.2.2.2.2.2.2.2.2.2.2.2.1
theorem e_X6_lowestWith_32 : decode cX6_lowestWith 32 = .ok (.iaload, 1) := D_X6_lowestWith_0.2.2.2.2.2.2.2.2.2.2.2.2.2.2.2.2.2.2.2.2.1
theorem e_X6_lowestWith_33 : decode cX6_lowestWith 33 = .ok (.ifCond .le 5, 3) := D_X6_lowestWith_0.2.2.2.2.2.2.2.2.2.2.2.2.2.2.2.2.2.2.2.2.2.1
theorem e_X6_lowestWith_36 : decode cX6_lowestWith 36 = .ok (.iload_n 3, 1) := D_X6_lowestWith_0.2.2.2.2.2.2.2.2.2.2.2.2.2.2.2.2.2.2.2.2.2.2.1
theorem e_X6_lowestWith_37 : decode cX6_lowestWith 37 = .ok (.ireturn, 1) := D_X6_lowestWith_0.2.2.2.2.2.2.2.2.2.2.2.2.2.2.2.2.2.2.2.2.2.2.2.1
theorem e_X6_lowestWith_38 : decode cX6_lowestWith 38 = .ok (.iinc 3 1, 3) := D_X6_lowestWith_0.2.2.2.2.2.2.2.2.2.2.2.2.2.2.2.2.2.2.2.2.2.2.2.2.1
theorem e_X6_lowestWith_41 : decode cX6_lowestWith 41 = .ok (.goto (-39), 3) := D_X6_lowestWith_0.2.2.2.2.2.2.2.2.2.2.2.2.2.2.2.2.2.2.2.2.2.2.2.2.2.1
theorem e_X6_lowestWith_44 : decode cX6_lowestWith 44 = .ok (.iconst (-1), 1) := D_X6_lowestWith_0.2.2.2.2.2.2.2.2.2.2.2.2.2.2.2.2.2.2.2.2.2.2.2.2.2.2.1
theorem e_X6_lowestWith_45 : decode cX6_lowestWith 45 = .ok (.ireturn, 1) := D_X6_lowestWith_0.2.2.2.2.2.2.2.2.2.2.2.2.2.2.2.2.2.2.2.2.2.2.2.2.2.2.2.1
set_option maxRecDepth 100000 in
theorem D_X6_takeSheet_0 : decode cX6_takeSheet 0 = .ok (.aload_n 0, 1) ∧ decode cX6_takeSheet 1 = .ok (.iload_n 1, 1) ∧ decode cX6_takeSheet 2 = .ok (.iload_n 2, 1) ∧ decode cX6_takeSheet 3 = .ok (.invokevirtual 31, 3) ∧ decode cX6_takeSheet 6 = .ok (.istore_n 3, 1) ∧ decode cX6_takeSheet 7 = .ok (.iload_n 3, 1) ∧ decode cX6_takeSheet 8 = .ok (.iconst (-1), 1) ∧ decode cX6_takeSheet 9 = .ok (.if_icmp .eq 13, 3) ∧ decode cX6_takeSheet 12 = .ok (.aload_n 0, 1) ∧ decode cX6_takeSheet 13 = .ok (.getfield 18, 3) ∧ decode cX6_takeSheet 16 = .ok (.iload_n 3, 1) ∧ decode cX6_takeSheet 17 = .ok (.dup2, 1) ∧ decode cX6_takeSheet 18 = .ok (.iaload, 1) ∧ decode cX6_takeSheet 19 = .ok (.iconst 1, 1) ∧ decode cX6_takeSheet 20 = .ok (.isub, 1) ∧ decode cX6_takeSheet 21 = .ok (.iastore, 1) ∧ decode cX6_takeSheet 22 = .ok (.return_, 1) ∧ True := dq_of (l := (0, .aload_n 0, 1) :: (1, .iload_n 1, 1) :: (2, .iload_n 2, 1) :: (3, .invokevirtual 31, 3) :: (6, .istore_n 3, 1) :: (7, .iload_n 3, 1) :: (8, .iconst (-1), 1) :: (9, .if_icmp .eq 13, 3) :: (12, .aload_n 0, 1) :: (13, .getfield 18, 3) :: (16, .iload_n 3, 1) :: (17, .dup2, 1) :: (18, .iaload, 1) :: (19, .iconst 1, 1) :: (20, .isub, 1) :: (21, .iastore, 1) :: (22, .return_, 1) :: []) (by decide +kernel)
theorem e_X6_takeSheet_0 : decode cX6_takeSheet 0 = .ok (.aload_n 0, 1) := D_X6_takeSheet_0.1
theorem e_X6_takeSheet_1 : decode cX6_takeSheet 1 = .ok (.iload_n 1, 1) := D_X6_takeSheet_0.2.1
theorem e_X6_takeSheet_2 : decode cX6_takeSheet 2 = .ok (.iload_n 2, 1) := D_X6_takeSheet_0.2.2.1
theorem e_X6_takeSheet_3 : decode cX6_takeSheet 3 = .ok (.invokevirtual 31, 3) := D_X6_takeSheet_0.2.2.2.1
theorem e_X6_takeSheet_6 : decode cX6_takeSheet 6 = .ok (.istore_n 3, 1) := D_X6_takeSheet_0.2.2.2.2.1
theorem e_X6_takeSheet_7 : decode cX6_takeSheet 7 = .ok (.iload_n 3, 1) := D_X6_takeSheet_0.2.2.2.2.2.1
theorem e_X6_takeSheet_8 : decode cX6_takeSheet 8 = .ok (.iconst (-1), 1) := D_X6_takeSheet_0.2.2.2.2.2.2.1
theorem e_X6_takeSheet_9 : decode cX6_takeSheet 9 = .ok (.if_icmp .eq 13, 3) := D_X6_takeSheet_0.2.2.2.2.2.2.2.1
theorem e_X6_takeSheet_12 : decode cX6_takeSheet 12 = .ok (.aload_n 0, 1) := D_X6_takeSheet_0.2.2.2.2.2.2.2.2.1
theorem e_X6_takeSheet_13 : decode cX6_takeSheet 13 = .ok (.getfield 18, 3) := D_X6_takeSheet_0.2.2.2.2.2.2.2.2.2.1
theorem e_X6_takeSheet_16 : decode cX6_takeSheet 16 = .ok (.iload_n 3, 1) := D_X6_takeSheet_0.2.2.2.2.2.2.2.2.2.2.1
theorem e_X6_takeSheet_17 : decode cX6_takeSheet 17 = .ok (.dup2, 1) := D_X6_takeSheet_0.2.2.2.2.2.2.2.2.2.2.2.1
theorem e_X6_takeSheet_18 : decode cX6_takeSheet 18 = .ok (.iaload, 1) := D_X6_takeSheet_0.2.2.2.2.2.2.2.2.2.2.2.2.1
theorem e_X6_takeSheet_19 : decode cX6_takeSheet 19 = .ok (.iconst 1, 1) := D_X6_takeSheet_0.2.2.2.2.2.2.2.2.2.2.2.2.2.1
theorem e_X6_takeSheet_20 : decode cX6_takeSheet 20 = .ok (.isub, 1) := D_X6_takeSheet_0.2.2.2.2.2.2.2.2.2.2.2.2.2.2.1
theorem e_X6_takeSheet_21 : decode cX6_takeSheet 21 = .ok (.iastore, 1) := D_X6_takeSheet_0.2.2.2.2.2.2.2.2.2.2.2.2.2.2.2.1
theorem e_X6_takeSheet_22 : decode cX6_takeSheet 22 = .ok (.return_, 1) := D_X6_takeSheet_0.2.2.2.2.2.2.2.2.2.2.2.2.2.2.2.2.1
set_option maxRecDepth 100000 in
theorem D_X7_init_0 : decode cX7_init 0 = .ok (.aload_n 0, 1) ∧ decode cX7_init 1 = .ok (.invokespecial 3, 3) ∧ decode cX7_init 4 = .ok (.aload_n 0, 1) ∧ decode cX7_init 5 = .ok (.new 9, 3) ∧ decode cX7_init 8 = .ok (.dup, 1) ∧ decode cX7_init 9 = .ok (.invokespecial 11, 3) ∧ decode cX7_init 12 = .ok (.putfield 12, 3) ∧ decode cX7_init 15 = .ok (.aload_n 0, 1) ∧ decode cX7_init 16 = .ok (.new 9, 3) ∧ decode cX7_init 19 = .ok (.dup, 1) ∧ decode cX7_init 20 = .ok (.invokespecial 11, 3) ∧ decode cX7_init 23 = .ok (.putfield 16, 3) ∧ decode cX7_init 26 = .ok (.aload_n 0, 1) ∧ decode cX7_init 27 = .ok (.new 19, 3) ∧ decode cX7_init 30 = .ok (.dup, 1) ∧ decode cX7_init 31 = .ok (.invokespecial 21, 3) ∧ decode cX7_init 34 = .ok (.putfield 22, 3) ∧ decode cX7_init 37 = .ok (.aload_n 0, 1) ∧ decode cX7_init 38 = .ok (.new 26, 3) ∧ decode cX7_init 41 = .ok (.dup, 1) ∧ decode cX7_init 42 = .ok (.invokespecial 28, 3) ∧ decode cX7_init 45 = .ok (.putfield 29, 3) ∧ decode cX7_init 48 = .ok (.aload_n 0, 1) ∧ decode cX7_init 49 = .ok (.new 33, 3) ∧ decode cX7_init 52 = .ok (.dup, 1) ∧ decode cX7_init 53 = .ok (.invokespecial 35, 3) ∧ decode cX7_init 56 = .ok (.putfield 36, 3) ∧ decode cX7_init 59 = .ok (.return_, 1) ∧ True := dq_of (l := (0, .aload_n 0, 1) :: (1, .invokespecial 3, 3) :: (4, .aload_n 0, 1) :: (5, .new 9, 3) :: (8, .dup, 1) :: (9, .invokespecial 11, 3) :: (12, .putfield 12, 3) :: (15, .aload_n 0, 1) :: (16, .new 9, 3) :: (19, .dup, 1) :: (20, .invokespecial 11, 3) :: (23, .putfield 16, 3) :: (26, .aload_n 0, 1) :: (27, .new 19, 3) :: (30, .dup, 1) :: (31, .invokespecial 21, 3) :: (34, .putfield 22, 3) :: (37, .aload_n 0, 1) :: (38, .new 26, 3) :: (41, .dup, 1) :: (42, .invokespecial 28, 3) :: (45, .putfield 29, 3) :: (48, .aload_n 0, 1) :: (49, .new 33, 3) :: (52, .dup, 1) :: (53, .invokespecial 35, 3) :: (56, .putfield 36, 3) :: (59, .return_, 1) :: []) (by decide +kernel)
theorem e_X7_init_0 : decode cX7_init 0 = .ok (.aload_n 0, 1) := D_X7_init_0.1
theorem e_X7_init_1 : decode cX7_init 1 = .ok (.invokespecial 3, 3) := D_X7_init_0.2.1
theorem e_X7_init_4 : decode cX7_init 4 = .ok (.aload_n 0, 1) := D_X7_init_0.2.2.1
theorem e_X7_init_5 : decode cX7_init 5 = .ok (.new 9, 3) := D_X7_init_0.2.2.2.1
theorem e_X7_init_8 : decode cX7_init 8 = .ok (.dup, 1) := D_X7_init_0.2.2.2.2.1
theorem e_X7_init_9 : decode cX7_init 9 = .ok (.invokespecial 11, 3) := D_X7_init_0.2.2.2.2.2.1
theorem e_X7_init_12 : decode cX7_init 12 = .ok (.putfield 12, 3) := D_X7_init_0.2.2.2.2.2.2.1
theorem e_X7_init_15 : decode cX7_init 15 = .ok (.aload_n 0, 1) := D_X7_init_0.2.2.2.2.2.2.2.1
theorem e_X7_init_16 : decode cX7_init 16 = .ok (.new 9, 3) := D_X7_init_0.2.2.2.2.2.2.2.2.1
theorem e_X7_init_19 : decode cX7_init 19 = .ok (.dup, 1) := D_X7_init_0.2.2.2.2.2.2.2.2.2.1
theorem e_X7_init_20 : decode cX7_init 20 = .ok (.invokespecial 11, 3) := D_X7_init_0.2.2.2.2.2.2.2.2.2.2.1
theorem e_X7_init_23 : decode cX7_init 23 = .ok (.putfield 16, 3) := D_X7_init_0.2.2.2.2.2.2.2.2.2.2.2.1
theorem e_X7_init_26 : decode cX7_init 26 = .ok (.aload_n 0, 1) := D_X7_init_0.2.2.2.2.2.2.2.2.2.2.2.2.1
theorem e_X7_init_27 : decode cX7_init 27 = .ok (.new 19, 3) := D_X7_init_0.2.2.2.2.2.2.2.2.2.2.2.2.2.1
theorem e_X7_init_30 : decode cX7_init 30 = .ok (.dup, 1) := D_X7_init_0.2.2.2.2.2.2.2.2.2.2.2.2.2.2.1
theorem e_X7_init_31 : decode cX7_init 31 = .ok (.invokespecial 21, 3) := D_X7_init_0.2.2.2.2.2.2.2.2.2.2.2.2.2.2.2.1
theorem e_X7_init_34 : decode cX7_init 34 = .ok (.putfield 22, 3) := D_X7_init_0.2.2.2.2.2.2.2.2.2.2.2.2.2.2.2.2.1
theorem e_X7_init_37 : decode cX7_init 37 = .ok (.aload_n 0, 1) := D_X7_init_0.2.2.2.2.2.2.2.2.2.2.2.2.2.2.2.2.2.1
theorem e_X7_init_38 : decode cX7_init 38 = .ok (.new 26, 3) := D_X7_init_0.2.2.2.2.2.2.2.2.2.2.2.2.2.2.2.2.2.2.1
theorem e_X7_init_41 : decode cX7_init 41 = .ok (.dup, 1) := D_X7_init_0.2.2.2.2.2.2.2.2.2.2.2.2.2.2.2.2.2.2.2.1
theorem e_X7_init_42 : decode cX7_init 42 = .ok (.invokespecial 28, 3) := D_X7_init_0.2.2.2.2.2.2.2.2.2.2.2.2.2.2.2.2.2.2.2.2.1
theorem e_X7_init_45 : decode cX7_init 45 = .ok (.putfield 29, 3) := D_X7_init_0.2.2.2.2.2.2.2.2.2.2.2.2.2.2.2.2.2.2.2.2.2.1
theorem e_X7_init_48 : decode cX7_init 48 = .ok (.aload_n 0, 1) := D_X7_init_0.2.2.2.2.2.2.2.2.2.2.2.2.2.2.2.2.2.2.2.2.2.2.1
theorem e_X7_init_49 : decode cX7_init 49 = .ok (.new 33, 3) := D_X7_init_0.2.2.2.2.2.2.2.2.2.2.2.2.2.2.2.2.2.2.2.2.2.2.2.1
theorem e_X7_init_52 : decode cX7_init 52 = .ok (.dup, 1) := D_X7_init_0.2.2.2.2.2.2.2.2.2.2.2.2.2.2.2.2.2.2.2.2.2.2.2.2.1
theorem e_X7_init_53 : decode cX7_init 53 = .ok (.invokespecial 35, 3) := D_X7_init_0.2.2.2.2.2.2.2.2.2.2.2.2.2.2.2.2.2.2.2.2.2.2.2.2.2.1
theorem e_X7_init_56 : decode cX7_init 56 = .ok (.putfield 36, 3) := D_X7_init_0.2.2.2.2.2.2.2.2.2.2.2.2.2.2.2.2.2.2.2.2.2.2.2.2.2.2.1
theorem e_X7_init_59 : decode cX7_init 59 = .ok (.return_, 1) := D_X7_init_0.2.2.2.2.2.2.2.2.2.2.2.2.2.2.2.2.2.2.2.2.2.2.2.2.2.2.2.1
set_option maxRecDepth 100000 in
theorem D_X7_fill_0 : decode cX7_fill 0 = .ok (.iload_n 1, 1) ∧ decode cX7_fill 1 = .ok (.iconst 4, 1) ∧ decode cX7_fill 2 = .ok (.invokestatic 40, 3) ∧ decode cX7_fill 5 = .ok (.ifCond .eq 14, 3) ∧ decode cX7_fill 8 = .ok (.iload_n 2, 1) ∧ decode cX7_fill 9 = .ok (.iconst 1, 1) ∧ decode cX7_fill 10 = .ok (.sipush 500, 3) ∧ decode cX7_fill 13 = .ok (.invokestatic 44, 3) ∧ decode cX7_fill 16 = .ok (.ifCond .ne 5, 3) ∧ decode cX7_fill 19 = .ok (.iconst (-1), 1) ∧ decode cX7_fill 20 = .ok (.ireturn, 1) ∧ decode cX7_fill 21 = .ok (.aload_n 0, 1) ∧ decode cX7_fill 22 = .ok (.getfield 12, 3) ∧ decode cX7_fill 25 = .ok (.getfield 48, 3) ∧ decode cX7_fill 28 = .ok (.getfield 52, 3) ∧ decode cX7_fill 31 = .ok (.iload_n 1, 1) ∧ decode cX7_fill 32 = .ok (.iaload, 1) ∧ decode cX7_fill 33 = .ok (.iload_n 2, 1) ∧ decode cX7_fill 34 = .ok (.iadd, 1) ∧ decode cX7_fill 35 = .ok (.istore_n 3, 1) ∧ decode cX7_fill 36 = .ok (.iload_n 3, 1) ∧ decode cX7_fill 37 = .ok (.sipush 500, 3) ∧ decode cX7_fill 40 = .ok (.if_icmp .le 6, 3) ∧ decode cX7_fill 43 = .ok (.bipush (-3), 2) ∧ decode cX7_fill 45 = .ok (.ireturn, 1) ∧ decode cX7_fill 46 = .ok (.aload_n 0, 1) ∧ decode cX7_fill 47 = .ok (.getfield 22, 3) ∧ decode cX7_fill 50 = .ok (.aload_n 0, 1) ∧ decode cX7_fill 51 = .ok (.getfield 12, 3) ∧ decode cX7_fill 54 = .ok (.invokevirtual 58, 3) ∧ decode cX7_fill 57 = .ok (.aload_n 0, 1) ∧ decode cX7_fill 58 = .ok (.getfield 12, 3) ∧ decode cX7_fill 61 = .ok (.getfield 48, 3) ∧ decode cX7_fill 64 = .ok (.getfield 52, 3) ∧ decode cX7_fill 67 = .ok (.iload_n 1, 1) ∧ decode cX7_fill 68 = .ok (.iload_n 3, 1) ∧ decode cX7_fill 69 = .ok (.iastore, 1) ∧ decode cX7_fill 70 = .ok (.iload_n 3, 1) ∧ decode cX7_fill 71 = .ok (.ireturn, 1) ∧ True := dq_of (l := (0, .iload_n 1, 1) :: (1, .iconst 4, 1) :: (2, .invokestatic 40, 3) :: (5, .ifCond .eq 14, 3) :: (8, .iload_n 2, 1) :: (9, .iconst 1, 1) :: (10, .sipush 500, 3) :: (13, .invokestatic 44, 3) :: (16, .ifCond .ne 5, 3) :: (19, .iconst (-1), 1) :: (20, .ireturn, 1) :: (21, .aload_n 0, 1) :: (22, .getfield 12, 3) :: (25, .getfield 48, 3) :: (28, .getfield 52, 3) :: (31, .iload_n 1, 1) :: (32, .iaload, 1) :: (33, .iload_n 2, 1) :: (34, .iadd, 1) :: (35, .istore_n 3, 1) :: (36, .iload_n 3, 1) :: (37, .sipush 500, 3) :: (40, .if_icmp .le 6, 3) :: (43, .bipush (-3), 2) :: (45, .ireturn, 1) :: (46, .aload_n 0, 1) :: (47, .getfield 22, 3) :: (50, .aload_n 0, 1) :: (51, .getfield 12, 3) :: (54, .invokevirtual 58, 3) :: (57, .aload_n 0, 1) :: (58, .getfield 12, 3) :: (61, .getfield 48, 3) :: (64, .getfield 52, 3) :: (67, .iload_n 1, 1) :: (68, .iload_n 3, 1) :: (69, .iastore, 1) :: (70, .iload_n 3, 1) :: (71, .ireturn, 1) :: []) (by decide +kernel)
theorem e_X7_fill_0 : decode cX7_fill 0 = .ok (.iload_n 1, 1) := D_X7_fill_0.1
theorem e_X7_fill_1 : decode cX7_fill 1 = .ok (.iconst 4, 1) := D_X7_fill_0.2.1
theorem e_X7_fill_2 : decode cX7_fill 2 = .ok (.invokestatic 40, 3) := D_X7_fill_0.2.2.1
theorem e_X7_fill_5 : decode cX7_fill 5 = .ok (.ifCond .eq 14, 3) := D_X7_fill_0.2.2.2.1
theorem e_X7_fill_8 : decode cX7_fill 8 = .ok (.iload_n 2, 1) := D_X7_fill_0.2.2.2.2.1
theorem e_X7_fill_9 : decode cX7_fill 9 = .ok (.iconst 1, 1) := D_X7_fill_0.2.2.2.2.2.1
theorem e_X7_fill_10 : decode cX7_fill 10 = .ok (.sipush 500, 3) := D_X7_fill_0.2.2.2.2.2.2.1
theorem e_X7_fill_13 : decode cX7_fill 13 = .ok (.invokestatic 44, 3) := D_X7_fill_0.2.2.2.2.2.2.2.1
theorem e_X7_fill_16 : decode cX7_fill 16 = .ok (.ifCond .ne 5, 3) := D_X7_fill_0.2.2.2.2.2.2.2.2.1
theorem e_X7_fill_19 : decode cX7_fill 19 = .ok (.iconst (-1), 1) := D_X7_fill_0.2.2.2.2.2.2.2.2.2.1
theorem e_X7_fill_20 : decode cX7_fill 20 = .ok (.ireturn, 1) := D_X7_fill_0.2.2.2.2.2.2.2.2.2.2.1
theorem e_X7_fill_21 : decode cX7_fill 21 = .ok (.aload_n 0, 1) := D_X7_fill_0.2.2.2.2.2.2.2.2.2.2.2.1
theorem e_X7_fill_22 : decode cX7_fill 22 = .ok (.getfield 12, 3) := D_X7_fill_0.2.2.2.2.2.2.2.2.2.2.2.2.1
theorem e_X7_fill_25 : decode cX7_fill 25 = .ok (.getfield 48, 3) := D_X7_fill_0.2.2.2.2.2.2.2.2.2.2.2.2.2.1
theorem e_X7_fill_28 : decode cX7_fill 28 = .ok (.getfield 52, 3) := D_X7_fill_0.2.2.2.2.2.2.2.2.2.2.2.2.2.2.1
theorem e_X7_fill_31 : decode cX7_fill 31 = .ok (.iload_n 1, 1) := D_X7_fill_0.2.2.2.2.2.2.2.2.2.2.2.2.2.2.2.1
theorem e_X7_fill_32 : decode cX7_fill 32 = .ok (.iaload, 1) := D_X7_fill_0.2.2.2.2.2.2.2.2.2.2.2.2.2.2.2.2.1
theorem e_X7_fill_33 : decode cX7_fill 33 = .ok (.iload_n 2, 1) := D_X7_fill_0.2.2.2.2.2.2.2.2.2.2.2.2.2.2.2.2.2.1
theorem e_X7_fill_34 : decode cX7_fill 34 = .ok (.iadd, 1) := D_X7_fill_0.2.2.2.2.2.2.2.2.2.2.2.2.2.2.2.2.2.2.1
theorem e_X7_fill_35 : decode cX7_fill 35 = .ok (.istore_n 3, 1) := D_X7_fill_0.2.2.2.2.2.2.2.2.2.2.2.2.2.2.2.2.2.2.2.1
theorem e_X7_fill_36 : decode cX7_fill 36 = .ok (.iload_n 3, 1) := D_X7_fill_0.2.2.2.2.2.2.2.2.2.2.2.2.2.2.2.2.2.2.2.2.1
theorem e_X7_fill_37 : decode cX7_fill 37 = .ok (.sipush 500, 3) := D_X7_fill_0.2.2.2.2.2.2.2.2.2.2.2.2.2.2.2.2.2.2.2.2.2.1
theorem e_X7_fill_40 : decode cX7_fill 40 = .ok (.if_icmp .le 6, 3) := D_X7_fill_0.2.2.2.2.2.2.2.2.2.2.2.2.2.2.2.2.2.2.2.2.2.2.1
theorem e_X7_fill_43 : decode cX7_fill 43 = .ok (.bipush (-3), 2) := D_X7_fill_0.2.2.2.2.2.2.2.2.2.2.2.2.2.2.2.2.2.2.2.2.2.2.2.1
theorem e_X7_fill_45 : decode cX7_fill 45 = .ok (.ireturn, 1) := D_X7_fill_0.2.2.2.2.2.2.2.2.2.2.2.2.2.2.2.2.2.2.2.2.2.2.2.2.1
theorem e_X7_fill_46 : decode cX7_fill 46 = .ok (.aload_n 0, 1) := D_X7_fill_0.2.2.2.2.2.2.2.2.2.2.2.2.2.2.2.2.2.2.2.2.2.2.2.2.2.1
theorem e_X7_fill_47 : decode cX7_fill 47 = .ok (.getfield 22, 3) := D_X7_fill_0.2.2.2.2.2.2.2.2.2.2.2.2.2.2.2.2.2.2.2.2.2.2.2.2.2.2.1
theorem e_X7_fill_50 : decode cX7_fill 50 = .ok (.aload_n 0, 1) := D_X7_fill_0.2.2.2.2.2.2.2.2.2.2.2.2.2.2.2.2.2.2.2.2.2.2.2.2.2.2.2.1
theorem e_X7_fill_51 : decode cX7_fill 51 = .ok (.getfield 12, 3) := D_X7_fill_0.2.2.2.2.2.2.2.2.2.2.2.2.2.2.2.2.2.2.2.2.2.2.2.2.2.2.2.2.1
theorem e_X7_fill_54 : decode cX7_fill 54 = .ok (.invokevirtual 58, 3) := D_X7_fill_0.2.2.2.2.2.2.2.2.2.2.2.2.2.2.2.2.2.2.2.2.2.2.2.2.2.2.2.2.2.1
theorem e_X7_fill_57 : decode cX7_fill 57 = .ok (.aload_n 0, 1) := D_X7_fill_0.2.2.2.2.2.2.2.2.2.2.2.2.2.2.2.2.2.2.2.2.2.2.2.2.2.2.2.2.2.2.1
theorem e_X7_fill_58 : decode cX7_fill 58 = .ok (.getfield 12, 3) := D_X7_fill_0.2.2.2.2.2.2.2.2.2.2.2.2.2.2.2.2.2.2.2.2.2.2.2.2.2.2.2.2.2.2.2.1
theorem e_X7_fill_61 : decode cX7_fill 61 = .ok (.getfield 48, 3) := D_X7_fill_0.2.2.2.2.2.2.2.2.2.2.2.2.2.2.2.2.2.2.2.2.2.2.2.2.2.2.2.2.2.2.2.2.1
theorem e_X7_fill_64 : decode cX7_fill 64 = .ok (.getfield 52, 3) := D_X7_fill_0.2.2.2.2.2.2.2.2.2.2.2.2.2.2.2.2.2.2.2.2.2.2.2.2.2.2.2.2.2.2.2.2.2.1
theorem e_X7_fill_67 : decode cX7_fill 67 = .ok (.iload_n 1, 1) := D_X7_fill_0.2.2.2.2.2.2.2.2.2.2.2.2.2.2.2.2.2.2.2.2.2.2.2.2.2.2.2.2.2.2.2.2.2.2.1
theorem e_X7_fill_68 : decode cX7_fill 68 = .ok (.iload_n 3, 1) := D_X7_fill_0.2.2.2.2.2.2.2.2.2.2.2.2.2.2.2.2.2.2.2.2.2.2.2.2.2.2.2.2.2.2.2.2.2.2.2.1
theorem e_X7_fill_69 : decode cX7_fill 69 = .ok (.iastore, 1) := D_X7_fill_0.2.2.2.2.2.2.2.2.2.2.2.2.2.2.2.2.2.2.2.2.2.2.2.2.2.2.2.2.2.2.2.2.2.2.2.2.1
theorem e_X7_fill_70 : decode cX7_fill 70 = .ok (.iload_n 3, 1) := D_X7_fill_0.2.2.2.2.2.2.2.2.2.2.2.2.2.2.2.2.2.2.2.2.2.2.2.2.2.2.2.2.2.2.2.2.2.2.2.2.2.1
theorem e_X7_fill_71 : decode cX7_fill 71 = .ok (.ireturn, 1) := D_X7_fill_0.2.2.2.2.2.2.2.2.2.2.2.2.2.2.2.2.2.2.2.2.2.2.2.2.2.2.2.2.2.2.2.2.2.2.2.2.2.2.1
set_option maxRecDepth 100000 in
theorem D_X7_load_0 : decode cX7_load 0 = .ok (.iload_n 1, 1) ∧ decode cX7_load 1 = .ok (.iconst 4, 1) ∧ decode cX7_load 2 = .ok (.invokestatic 40, 3) ∧ decode cX7_load 5 = .ok (.ifCond .eq 11, 3) ∧ decode cX7_load 8 = .ok (.iload_n 2, 1) ∧ decode cX7_load 9 = .ok (.iload_n 3, 1) ∧ decode cX7_load 10 = .ok (.invokestatic 62, 3) ∧ decode cX7_load 13 = .ok (.ifCond .ne 5, 3) ∧ decode cX7_load 16 = .ok (.iconst (-1), 1) ∧ decode cX7_load 17 = .ok (.ireturn, 1) ∧ decode cX7_load 18 = .ok (.aload_n 0, 1) ∧ decode cX7_load 19 = .ok (.getfield 22, 3) ∧ decode cX7_load 22 = .ok (.aload_n 0, 1) ∧ decode cX7_load 23 = .ok (.getfield 12, 3) ∧ decode cX7_load 26 = .ok (.invokevirtual 58, 3) ∧ decode cX7_load 29 = .ok (.aload_n 0, 1) ∧ decode cX7_load 30 = .ok (.getfield 12, 3) ∧ decode cX7_load 33 = .ok (.getfield 48, 3) ∧ decode cX7_load 36 = .ok (.iload_n 1, 1) ∧ decode cX7_load 37 = .ok (.iload_n 2, 1) ∧ decode cX7_load 38 = .ok (.iload_n 3, 1) ∧ decode cX7_load 39 = .ok (.invokevirtual 65, 3) ∧ decode cX7_load 42 = .ok (.ireturn, 1) ∧ True := dq_of (l := (0, .iload_n 1, 1) :: (1, .iconst 4, 1) :: (2, .invokestatic 40, 3) :: (5, .ifCond .eq 11, 3) :: (8, .iload_n 2, 1) :: (9, .iload_n 3, 1) :: (10, .invokestatic 62, 3) :: (13, .ifCond .ne 5, 3) :: (16, .iconst (-1), 1) :: (17, .ireturn, 1) :: (18, .aload_n 0, 1) :: (19, .getfield 22, 3) :: (22, .aload_n 0, 1) :: (23, .getfield 12, 3) :: (26, .invokevirtual 58, 3) :: (29, .aload_n 0, 1) :: (30, .getfield 12, 3) :: (33, .getfield 48, 3) :: (36, .iload_n 1, 1) :: (37, .iload_n 2, 1) :: (38, .iload_n 3, 1) :: (39, .invokevirtual 65, 3) :: (42, .ireturn, 1) :: []) (by decide +kernel)
theorem e_X7_load_0 : decode cX7_load 0 = .ok (.iload_n 1, 1) := D_X7_load_0.1
theorem e_X7_load_1 : decode cX7_load 1 = .ok (.iconst 4, 1) := D_X7_load_0.2.1
theorem e_X7_load_2 : decode cX7_load 2 = .ok (.invokestatic 40, 3) := D_X7_load_0.2.2.1
theorem e_X7_load_5 : decode cX7_load 5 = .ok (.ifCond .eq 11, 3) := D_X7_load_0.2.2.2.1
theorem e_X7_load_8 : decode cX7_load 8 = .ok (.iload_n 2, 1) := D_X7_load_0.2.2.2.2.1
theorem e_X7_load_9 : decode cX7_load 9 = .ok (.iload_n 3, 1) := D_X7_load_0.2.2.2.2.2.1
theorem e_X7_load_10 : decode cX7_load 10 = .ok (.invokestatic 62, 3) := D_X7_load_0.2.2.2.2.2.2.1
theorem e_X7_load_13 : decode cX7_load 13 = .ok (.ifCond .ne 5, 3) := D_X7_load_0.2.2.2.2.2.2.2.1
theorem e_X7_load_16 : decode cX7_load 16 = .ok (.iconst (-1), 1) := D_X7_load_0.2.2.2.2.2.2.2.2.1
theorem e_X7_load_17 : decode cX7_load 17 = .ok (.ireturn, 1) := D_X7_load_0.2.2.2.2.2.2.2.2.2.1
theorem e_X7_load_18 : decode cX7_load 18 = .ok (.aload_n 0, 1) := D_X7_load_0.2.2.2.2.2.2.2.2.2.2.1
theorem e_X7_load_19 : decode cX7_load 19 = .ok (.getfield 22, 3) := D_X7_load_0.2.2.2.2.2.2.2.2.2.2.2.1
theorem e_X7_load_22 : decode cX7_load 22 = .ok (.aload_n 0, 1) := D_X7_load_0.2.2.2.2.2.2.2.2.2.2.2.2.1
theorem e_X7_load_23 : decode cX7_load 23 = .ok (.getfield 12, 3) := D_X7_load_0.2.2.2.2.2.2.2.2.2.2.2.2.2.1
theorem e_X7_load_26 : decode cX7_load 26 = .ok (.invokevirtual 58, 3) := D_X7_load_0.2.2.2.2.2.2.2.2.2.2.2.2.2.2.1
theorem e_X7_load_29 : decode cX7_load 29 = .ok (.aload_n 0, 1) := D_X7_load_0.2.2.2.2.2.2.2.2.2.2.2.2.2.2.2.1
theorem e_X7_load_30 : decode cX7_load 30 = .ok (.getfield 12, 3) := D_X7_load_0.2.2.2.2.2.2.2.2.2.2.2.2.2.2.2.2.1
theorem e_X7_load_33 : decode cX7_load 33 = .ok (.getfield 48, 3) := D_X7_load_0.2.2.2.2.2.2.2.2.2.2.2.2.2.2.2.2.2.1
theorem e_X7_load_36 : decode cX7_load 36 = .ok (.iload_n 1, 1) := D_X7_load_0.2.2.2.2.2.2.2.2.2.2.2.2.2.2.2.2.2.2.1
theorem e_X7_load_37 : decode cX7_load 37 = .ok (.iload_n 2, 1) := D_X7_load_0.2.2.2.2.2.2.2.2.2.2.2.2.2.2.2.2.2.2.2.1
theorem e_X7_load_38 : decode cX7_load 38 = .ok (.iload_n 3, 1) := D_X7_load_0.2.2.2.2.2.2.2.2.2.2.2.2.2.2.2.2.2.2.2.2.1
theorem e_X7_load_39 : decode cX7_load 39 = .ok (.invokevirtual 65, 3) := D_X7_load_0.2.2.2.2.2.2.2.2.2.2.2.2.2.2.2.2.2.2.2.2.2.1
theorem e_X7_load_42 : decode cX7_load 42 = .ok (.ireturn, 1) := D_X7_load_0.2.2.2.2.2.2.2.2.2.2.2.2.2.2.2.2.2.2.2.2.2.2.1
set_option maxRecDepth 100000 in
theorem D_X7_tray_0 : decode cX7_tray 0 = .ok (.iload_n 1, 1) ∧ decode cX7_tray 1 = .ok (.iconst 4, 1) ∧ decode cX7_tray 2 = .ok (.invokestatic 40, 3) ∧ decode cX7_tray 5 = .ok (.ifCond .ne 5, 3) ∧ decode cX7_tray 8 = .ok (.iconst (-1), 1) ∧ decode cX7_tray 9 = .ok (.ireturn, 1) ∧ decode cX7_tray 10 = .ok (.aload_n 0, 1) ∧ decode cX7_tray 11 = .ok (.getfield 12, 3) ∧ decode cX7_tray 14 = .ok (.getfield 48, 3) ∧ decode cX7_tray 17 = .ok (.astore_n 3, 1) ∧ decode cX7_tray 18 = .ok (.iload_n 2, 1) ∧ decode cX7_tray 19 = .ok (.tableswitch 67 0 3 #[29, 36, 43, 50], 29) ∧ decode cX7_tray 48 = .ok (.aload_n 3, 1) ∧ decode cX7_tray 49 = .ok (.getfield 69, 3) ∧ decode cX7_tray 52 = .ok (.iload_n 1, 1) ∧ decode cX7_tray 53 = .ok (.iaload, 1) ∧ decode cX7_tray 54 = .ok (.ireturn, 1) ∧ decode cX7_tray 55 = .ok (.aload_n 3, 1) ∧ decode cX7_tray 56 = .ok (.getfield 72, 3) ∧ decode cX7_tray 59 = .ok (.iload_n 1, 1) ∧ decode cX7_tray 60 = .ok (.iaload, 1) ∧ decode cX7_tray 61 = .ok (.ireturn, 1) ∧ decode cX7_tray 62 = .ok (.aload_n 3, 1) ∧ decode cX7_tray 63 = .ok (.getfield 52, 3) ∧ decode cX7_tray 66 = .ok (.iload_n 1, 1) ∧ decode cX7_tray 67 = .ok (.iaload, 1) ∧ decode cX7_tray 68 = .ok (.ireturn, 1) ∧ decode cX7_tray 69 = .ok (.aload_n 3, 1) ∧ decode cX7_tray 70 = .ok (.aload_n 3, 1) ∧ decode cX7_tray 71 = .ok (.getfield 69, 3) ∧ decode cX7_tray 74 = .ok (.iload_n 1, 1) ∧ decode cX7_tray 75 = .ok (.iaload, 1) ∧ decode cX7_tray 76 = .ok (.aload_n 3, 1) ∧ decode cX7_tray 77 = .ok (.getfield 72, 3) ∧ decode cX7_tray 80 = .ok (.iload_n 1, 1) ∧ decode cX7_tray 81 = .ok (.iaload, 1) ∧ decode cX7_tray 82 = .ok (.invokevirtual 75, 3) ∧ decode cX7_tray 85 = .ok (.ireturn, 1) ∧ decode cX7_tray 86 = .ok (.iconst (-1), 1) ∧ decode cX7_tray 87 = .ok (.ireturn, 1) ∧ True := dq_of (l := (0, .iload_n 1, 1) :: (1, .iconst 4, 1) :: (2, .invokestatic 40, 3) :: (5, .ifCond .ne 5, 3) :: (8, .iconst (-1), 1) :: (9, .ireturn, 1) :: (10, .aload_n 0, 1) :: (11, .getfield 12, 3) :: (14, .getfield 48, 3) :: (17, .astore_n 3, 1) :: (18, .iload_n 2, 1) :: (19, .tableswitch 67 0 3 #[29, 36, 43, 50], 29) :: (48, .aload_n 3, 1) :: (49, .getfield 69, 3) :: (52, .iload_n 1, 1) :: (53, .iaload, 1) :: (54, .ireturn, 1) :: (55, .aload_n 3, 1) :: (56, .getfield 72, 3) :: (59, .iload_n 1, 1) :: (60, .iaload, 1) :: (61, .ireturn, 1) :: (62, .aload_n 3, 1) :: (63, .getfield 52, 3) :: (66, .iload_n 1, 1) :: (67, .iaload, 1) :: (68, .ireturn, 1) :: (69, .aload_n 3, 1) :: (70, .aload_n 3, 1) :: (71, .getfield 69, 3) :: (74, .iload_n 1, 1) :: (75, .iaload, 1) :: (76, .aload_n 3, 1) :: (77, .getfield 72, 3) :: (80, .iload_n 1, 1) :: (81, .iaload, 1) :: (82, .invokevirtual 75, 3) :: (85, .ireturn, 1) :: (86, .iconst (-1), 1) :: (87, .ireturn, 1) :: []) (by decide +kernel)
theorem e_X7_tray_0 : decode cX7_tray 0 = .ok (.iload_n 1, 1) := D_X7_tray_0.1
theorem e_X7_tray_1 : decode cX7_tray 1 = .ok (.iconst 4, 1) := D_X7_tray_0.2.1
theorem e_X7_tray_2 : decode cX7_tray 2 = .ok (.invokestatic 40, 3) := D_X7_tray_0.2.2.1
theorem e_X7_tray_5 : decode cX7_tray 5 = .ok (.ifCond .ne 5, 3) := D_X7_tray_0.2.2.2.1
theorem e_X7_tray_8 : decode cX7_tray 8 = .ok (.iconst (-1), 1) := D_X7_tray_0.2.2.2.2.1
theorem e_X7_tray_9 : decode cX7_tray 9 = .ok (.ireturn, 1) := D_X7_tray_0.2.2.2.2.2.1
theorem e_X7_tray_10 : decode cX7_tray 10 = .ok (.aload_n 0, 1) := D_X7_tray_0.2.2.2.2.2.2.1
theorem e_X7_tray_11 : decode cX7_tray 11 = .ok (.getfield 12, 3) := D_X7_tray_0.2.2.2.2.2.2.2.1
theorem e_X7_tray_14 : decode cX7_tray 14 = .ok (.getfield 48, 3) := D_X7_tray_0.2.2.2.2.2.2.2.2.1
theorem e_X7_tray_17 : decode cX7_tray 17 = .ok (.astore_n 3, 1) := D_X7_tray_0.2.2.2.2.2.2.2.2.2.1
theorem e_X7_tray_18 : decode cX7_tray 18 = .ok (.iload_n 2, 1) := D_X7_tray_0.2.2.2.2.2.2.2.2.2.2.1
theorem e_X7_tray_19 : decode cX7_tray 19 = .ok (.tableswitch 67 0 3 #[29, 36, 43, 50], 29) := D_X7_tray_0.2.2.2.2.2.2.2.2.2.2.2.1
theorem e_X7_tray_48 : decode cX7_tray 48 = .ok (.aload_n 3, 1) := D_X7_tray_0.2.2.2.2.2.2.2.2.2.2.2.2.1
theorem e_X7_tray_49 : decode cX7_tray 49 = .ok (.getfield 69, 3) := D_X7_tray_0.2.2.2.2.2.2.2.2.2.2.2.2.2.1
theorem e_X7_tray_52 : decode cX7_tray 52 = .ok (.iload_n 1, 1) := D_X7_tray_0.2.2.2.2.2.2.2.2.2.2.2.2.2.2.1
theorem e_X7_tray_53 : decode cX7_tray 53 = .ok (.iaload, 1) := D_X7_tray_0.2.2.2.2.2.2.2.2.2.2.2.2.2.2.2.1
theorem e_X7_tray_54 : decode cX7_tray 54 = .ok (.ireturn, 1) := D_X7_tray_0.2.2.2.2.2.2.2.2.2.2.2.2.2.2.2.2.1
theorem e_X7_tray_55 : decode cX7_tray 55 = .ok (.aload_n 3, 1) := D_X7_tray_0.2.2.2.2.2.2.2.2.2.2.2.2.2.2.2.2.2.1
theorem e_X7_tray_56 : decode cX7_tray 56 = .ok (.getfield 72, 3) := D_X7_tray_0.2.2.2.2.2.2.2.2.2.2.2.2.2.2.2.2.2.2.1
theorem e_X7_tray_59 : decode cX7_tray 59 = .ok (.iload_n 1, 1) := D_X7_tray_0.2.2.2.2.2.2.2.2.2.2.2.2.2.2.2.2.2.2.2.1
theorem e_X7_tray_60 : decode cX7_tray 60 = .ok (.iaload, 1) := D_X7_tray_0.2.2.2.2.2.2.2.2.2.2.2.2.2.2.2.2.2.2.2.2.1
theorem e_X7_tray_61 : decode cX7_tray 61 = .ok (.ireturn, 1) := D_X7_tray_0.2.2.2.2.2.2.2.2.2.2.2.2.2.2.2.2.2.2.2.2.2.1
theorem e_X7_tray_62 : decode cX7_tray 62 = .ok (.aload_n 3, 1) := D_X7_tray_0.2.2.2.2.2.2.2.2.2.2.2.2.2.2.2.2.2.2.2.2.2.2.1
theorem e_X7_tray_63 : decode cX7_tray 63 = .ok (.getfield 52, 3) := D_X7_tray_0.2.2.2.2.2.2.2.2.2.2.2.2.2.2.2.2.2.2.2.2.2.2.2.1
theorem e_X7_tray_66 : decode cX7_tray 66 = .ok (.iload_n 1, 1) := D_X7_tray_0.2.2.2.2.2.2.2.2.2.2.2.2.2.2.2.2.2.2.2.2.2.2.2.2.1
theorem e_X7_tray_67 : decode cX7_tray 67 = .ok (.iaload, 1) := D_X7_tray_0.2.2.2.2.2.2.2.2.2.2.2.2.2.2.2.2.2.2.2.2.2.2.2.2.2.1
theorem e_X7_tray_68 : decode cX7_tray 68 = .ok (.ireturn, 1) := D_X7_tray_0.2.2.2.2.2.2.2.2.2.2.2.2.2.2.2.2.2.2.2.2.2.2.2.2.2.2.1
theorem e_X7_tray_69 : decode cX7_tray 69 = .ok (.aload_n 3, 1) := D_X7_tray_0.2.2.2.2.2.2.2.2.2.2.2.2.2.2.2.2.2.2.2.2.2.2.2.2.2.2.2.1
theorem e_X7_tray_70 : decode cX7_tray 70 = .ok (.aload_n 3, 1) := D_X7_tray_0.2.2.2.2.2.2.2.2.2.2.2.2.2.2.2.2.2.2.2.2.2.2.2.2.2.2.2.2.1
theorem e_X7_tray_71 : decode cX7_tray 71 = .ok (.getfield 69, 3) := D_X7_tray_0.2.2.2.2.2.2.2.2.2.2.2.2.2.2.2.2.2.2.2.2.2.2.2.2.2.2.2.2.2.1
theorem e_X7_tray_74 : decode cX7_tray 74 = .ok (.iload_n 1, 1) := D_X7_tray_0.2.2.2.2.2.2.2.2.2.2.2.2.2.2.2.2.2.2.2.2.2.2.2.2.2.2.2.2.2.2.1
theorem e_X7_tray_75 : decode cX7_tray 75 = .ok (.iaload, 1) := D_X7_tray_0.2.2.2.2.2.2.2.2.2.2.2.2.2.2.2.2.2.2.2.2.2.2.2.2.2.2.2.2.2.2.2.1
theorem e_X7_tray_76 : decode cX7_tray 76 = .ok (.aload_n 3, 1) := D_X7_tray_0.2.2.2.2.2.2.2.2.2.2.2.2.2.2.2.2.2.2.2.2.2.2.2.2.2.2.2.2.2.2.2.2.1
theorem e_X7_tray_77 : decode cX7_tray 77 = .ok (.getfield 72, 3) := D_X7_tray_0.2.2.2.2.2.2.2.2.2.2.2.2.2.2.2.2.2.2.2.2.2.2.2.2.2.2.2.2.2.2.2.2.2.1
theorem e_X7_tray_80 : decode cX7_tray 80 = .ok (.iload_n 1, 1) := D_X7_tray_0.2.2.2.2.2.2.2.2.2.2.2.2.2.2.2.2.2.2.2.2.2.2.2.2.2.2.2.2.2.2.2.2.2.2.1
theorem e_X7_tray_81 : decode cX7_tray 81 = .ok (.iaload, 1) := D_X7_tray_0.2.2.2.2.2.2.2.2.2.2.2.2.2.2.2.2.2.2.2.2.2.2.2.2.2.2.2.2.2.2.2.2.2.2.2.1
theorem e_X7_tray_82 : decode cX7_tray 82 = .ok (.invokevirtual 75, 3) := D_X7_tray_0.2.2.2.2.2.2.2.2.2.2.2.2.2.2.2.2.2.2.2.2.2.2.2.2.2.2.2.2.2.2.2.2.2.2.2.2.1
theorem e_X7_tray_85 : decode cX7_tray 85 = .ok (.ireturn, 1) := D_X7_tray_0.2.2.2.2.2.2.2.2.2.2.2.2.2.2.2.2.2.2.2.2.2.2.2.2.2.2.2.2.2.2.2.2.2.2.2.2.2.1
theorem e_X7_tray_86 : decode cX7_tray 86 = .ok (.iconst (-1), 1) := D_X7_tray_0.2.2.2.2.2.2.2.2.2.2.2.2.2.2.2.2.2.2.2.2.2.2.2.2.2.2.2.2.2.2.2.2.2.2.2.2.2.2.1
theorem e_X7_tray_87 : decode cX7_tray 87 = .ok (.ireturn, 1) := D_X7_tray_0.2.2.2.2.2.2.2.2.2.2.2.2.2.2.2.2.2.2.2.2.2.2.2.2.2.2.2.2.2.2.2.2.2.2.2.2.2.2.2.1
set_option maxRecDepth 100000 in
theorem D_X7_staples_0 : decode cX7_staples 0 = .ok (.iload_n 1, 1) ∧ decode cX7_staples 1 = .ok (.iconst 0, 1) ∧ decode cX7_staples 2 = .ok (.sipush 5000, 3) ∧ decode cX7_staples 5 = .ok (.invokestatic 44, 3) ∧ decode cX7_staples 8 = .ok (.ifCond .ne 5, 3) ∧ decode cX7_staples 11 = .ok (.iconst (-1), 1) ∧ decode cX7_staples 12 = .ok (.ireturn, 1) ∧ decode cX7_staples 13 = .ok (.aload_n 0, 1) ∧ decode cX7_staples 14 = .ok (.getfield 22, 3) ∧ decode cX7_staples 17 = .ok (.aload_n 0, 1) ∧ decode cX7_staples 18 = .ok (.getfield 12, 3) ∧ decode cX7_staples 21 = .ok (.invokevirtual 58, 3) ∧ decode cX7_staples 24 = .ok (.aload_n 0, 1) ∧ decode cX7_staples 25 = .ok (.getfield 12, 3) ∧ decode cX7_staples 28 = .ok (.getfield 79, 3) ∧ decode cX7_staples 31 = .ok (.istore_n 2, 1) ∧ decode cX7_staples 32 = .ok (.aload_n 0, 1) ∧ decode cX7_staples 33 = .ok (.getfield 12, 3) ∧ decode cX7_staples 36 = .ok (.iload_n 1, 1) ∧ decode cX7_staples 37 = .ok (.putfield 79, 3) ∧ decode cX7_staples 40 = .ok (.iload_n 2, 1) ∧ decode cX7_staples 41 = .ok (.ireturn, 1) ∧ True := dq_of (l := (0, .iload_n 1, 1) :: (1, .iconst 0, 1) :: (2, .sipush 5000, 3) :: (5, .invokestatic 44, 3) :: (8, .ifCond .ne 5, 3) :: (11, .iconst (-1), 1) :: (12, .ireturn, 1) :: (13, .aload_n 0, 1) :: (14, .getfield 22, 3) :: (17, .aload_n 0, 1) :: (18, .getfield 12, 3) :: (21, .invokevirtual 58, 3) :: (24, .aload_n 0, 1) :: (25, .getfield 12, 3) :: (28, .getfield 79, 3) :: (31, .istore_n 2, 1) :: (32, .aload_n 0, 1) :: (33, .getfield 12, 3) :: (36, .iload_n 1, 1) :: (37, .putfield 79, 3) :: (40, .iload_n 2, 1) :: (41, .ireturn, 1) :: []) (by decide +kernel)
theorem e_X7_staples_0 : decode cX7_staples 0 = .ok (.iload_n 1, 1) := D_X7_staples_0.1
theorem e_X7_staples_1 : decode cX7_staples 1 = .ok (.iconst 0, 1) := D_X7_staples_0.2.1
theorem e_X7_staples_2 : decode cX7_staples 2 = .ok (.sipush 5000, 3) := D_X7_staples_0.2.2.1
theorem e_X7_staples_5 : decode cX7_staples 5 = .ok (.invokestatic 44, 3) := D_X7_staples_0.2.2.2.1
theorem e_X7_staples_8 : decode cX7_staples 8 = .ok (.ifCond .ne 5, 3) := D_X7_staples_0.2.2.2.2.1
theorem e_X7_staples_11 : decode cX7_staples 11 = .ok (.iconst (-1), 1) := D_X7_staples_0.2.2.2.2.2.1
theorem e_X7_staples_12 : decode cX7_staples 12 = .ok (.ireturn, 1) := D_X7_staples_0.2.2.2.2.2.2.1
theorem e_X7_staples_13 : decode cX7_staples 13 = .ok (.aload_n 0, 1) := D_X7_staples_0.2.2.2.2.2.2.2.1
theorem e_X7_staples_14 : decode cX7_staples 14 = .ok (.getfield 22, 3) := D_X7_staples_0.2.2.2.2.2.2.2.2.1
theorem e_X7_staples_17 : decode cX7_staples 17 = .ok (.aload_n 0, 1) := D_X7_staples_0.2.2.2.2.2.2.2.2.2.1
theorem e_X7_staples_18 : decode cX7_staples 18 = .ok (.getfield 12, 3) := D_X7_staples_0.2.2.2.2.2.2.2.2.2.2.1
theorem e_X7_staples_21 : decode cX7_staples 21 = .ok (.invokevirtual 58, 3) := D_X7_staples_0.2.2.2.2.2.2.2.2.2.2.2.1
theorem e_X7_staples_24 : decode cX7_staples 24 = .ok (.aload_n 0, 1) := D_X7_staples_0.2.2.2.2.2.2.2.2.2.2.2.2.1
theorem e_X7_staples_25 : decode cX7_staples 25 = .ok (.getfield 12, 3) := D_X7_staples_0.2.2.2.2.2.2.2.2.2.2.2.2.2.1
theorem e_X7_staples_28 : decode cX7_staples 28 = .ok (.getfield 79, 3) := D_X7_staples_0.2.2.2.2.2.2.2.2.2.2.2.2.2.2.1
theorem e_X7_staples_31 : decode cX7_staples 31 = .ok (.istore_n 2, 1) := D_X7_staples_0.2.2.2.2.2.2.2.2.2.2.2.2.2.2.2.1
theorem e_X7_staples_32 : decode cX7_staples 32 = .ok (.aload_n 0, 1) := D_X7_staples_0.2.2.2.2.2.2.2.2.2.2.2.2.2.2.2.2.1
theorem e_X7_staples_33 : decode cX7_staples 33 = .ok (.getfield 12, 3) := D_X7_staples_0.2.2.2.2.2.2.2.2.2.2.2.2.2.2.2.2.2.1
theorem e_X7_staples_36 : decode cX7_staples 36 = .ok (.iload_n 1, 1) := D_X7_staples_0.2.2.2.2.2.2.2.2.2.2.2.2.2.2.2.2.2.2.1
theorem e_X7_staples_37 : decode cX7_staples 37 = .ok (.putfield 79, 3) := D_X7_staples_0.2.2.2.2.2.2.2.2.2.2.2.2.2.2.2.2.2.2.2.1
theorem e_X7_staples_40 : decode cX7_staples 40 = .ok (.iload_n 2, 1) := D_X7_staples_0.2.2.2.2.2.2.2.2.2.2.2.2.2.2.2.2.2.2.2.2.1
theorem e_X7_staples_41 : decode cX7_staples 41 = .ok (.ireturn, 1) := D_X7_staples_0.2.2.2.2.2.2.2.2.2.2.2.2.2.2.2.2.2.2.2.2.2.1
set_option maxRecDepth 100000 in
theorem D_X7_emptyBin_0 : decode cX7_emptyBin 0 = .ok (.aload_n 0, 1) ∧ decode cX7_emptyBin 1 = .ok (.getfield 22, 3) ∧ decode cX7_emptyBin 4 = .ok (.aload_n 0, 1) ∧ decode cX7_emptyBin 5 = .ok (.getfield 12, 3) ∧ decode cX7_emptyBin 8 = .ok (.invokevirtual 58, 3) ∧ decode cX7_emptyBin 11 = .ok (.aload_n 0, 1) ∧ decode cX7_emptyBin 12 = .ok (.getfield 12, 3) ∧ decode cX7_emptyBin 15 = .ok (.getfield 83, 3) ∧ decode cX7_emptyBin 18 = .ok (.istore_n 1, 1) ∧ decode cX7_emptyBin 19 = .ok (.aload_n 0, 1) ∧ decode cX7_emptyBin 20 = .ok (.getfield 12, 3) ∧ decode cX7_emptyBin 23 = .ok (.iconst 0, 1) ∧ decode cX7_emptyBin 24 = .ok (.putfield 83, 3) ∧ decode cX7_emptyBin 27 = .ok (.iload_n 1, 1) ∧ decode cX7_emptyBin 28 = .ok (.ireturn, 1) ∧ True := dq_of (l := (0, .aload_n 0, 1) :: (1, .getfield 22, 3) :: (4, .aload_n 0, 1) :: (5, .getfield 12, 3) :: (8, .invokevirtual 58, 3) :: (11, .aload_n 0, 1) :: (12, .getfield 12, 3) :: (15, .getfield 83, 3) :: (18, .istore_n 1, 1) :: (19, .aload_n 0, 1) :: (20, .getfield 12, 3) :: (23, .iconst 0, 1) :: (24, .putfield 83, 3) :: (27, .iload_n 1, 1) :: (28, .ireturn, 1) :: []) (by decide +kernel)
theorem e_X7_emptyBin_0 : decode cX7_emptyBin 0 = .ok (.aload_n 0, 1) := D_X7_emptyBin_0.1
theorem e_X7_emptyBin_1 : decode cX7_emptyBin 1 = .ok (.getfield 22, 3) := D_X7_emptyBin_0.2.1
theorem e_X7_emptyBin_4 : decode cX7_emptyBin 4 = .ok (.aload_n 0, 1) := D_X7_emptyBin_0.2.2.1
theorem e_X7_emptyBin_5 : decode cX7_emptyBin 5 = .ok (.getfield 12, 3) := D_X7_emptyBin_0.2.2.2.1
theorem e_X7_emptyBin_8 : decode cX7_emptyBin 8 = .ok (.invokevirtual 58, 3) := D_X7_emptyBin_0.2.2.2.2.1
theorem e_X7_emptyBin_11 : decode cX7_emptyBin 11 = .ok (.aload_n 0, 1) := D_X7_emptyBin_0.2.2.2.2.2.1
theorem e_X7_emptyBin_12 : decode cX7_emptyBin 12 = .ok (.getfield 12, 3) := D_X7_emptyBin_0.2.2.2.2.2.2.1
theorem e_X7_emptyBin_15 : decode cX7_emptyBin 15 = .ok (.getfield 83, 3) := D_X7_emptyBin_0.2.2.2.2.2.2.2.1
theorem e_X7_emptyBin_18 : decode cX7_emptyBin 18 = .ok (.istore_n 1, 1) := D_X7_emptyBin_0.2.2.2.2.2.2.2.2.1
theorem e_X7_emptyBin_19 : decode cX7_emptyBin 19 = .ok (.aload_n 0, 1) := D_X7_emptyBin_0.2.2.2.2.2.2.2.2.2.1
theorem e_X7_emptyBin_20 : decode cX7_emptyBin 20 = .ok (.getfield 12, 3) := D_X7_emptyBin_0.2.2.2.2.2.2.2.2.2.2.1
theorem e_X7_emptyBin_23 : decode cX7_emptyBin 23 = .ok (.iconst 0, 1) := D_X7_emptyBin_0.2.2.2.2.2.2.2.2.2.2.2.1
theorem e_X7_emptyBin_24 : decode cX7_emptyBin 24 = .ok (.putfield 83, 3) := D_X7_emptyBin_0.2.2.2.2.2.2.2.2.2.2.2.2.1
theorem e_X7_emptyBin_27 : decode cX7_emptyBin 27 = .ok (.iload_n 1, 1) := D_X7_emptyBin_0.2.2.2.2.2.2.2.2.2.2.2.2.2.1
theorem e_X7_emptyBin_28 : decode cX7_emptyBin 28 = .ok (.ireturn, 1) := D_X7_emptyBin_0.2.2.2.2.2.2.2.2.2.2.2.2.2.2.1
set_option maxRecDepth 100000 in
theorem D_X7_set_0 : decode cX7_set 0 = .ok (.iload_n 1, 1) ∧ decode cX7_set 1 = .ok (.bipush 6, 2) ∧ decode cX7_set 3 = .ok (.invokestatic 40, 3) ∧ decode cX7_set 6 = .ok (.ifCond .eq 20, 3) ∧ decode cX7_set 9 = .ok (.iload_n 2, 1) ∧ decode cX7_set 10 = .ok (.getstatic 86, 3) ∧ decode cX7_set 13 = .ok (.iload_n 1, 1) ∧ decode cX7_set 14 = .ok (.iaload, 1) ∧ decode cX7_set 15 = .ok (.getstatic 89, 3) ∧ decode cX7_set 18 = .ok (.iload_n 1, 1) ∧ decode cX7_set 19 = .ok (.iaload, 1) ∧ decode cX7_set 20 = .ok (.invokestatic 44, 3) ∧ decode cX7_set 23 = .ok (.ifCond .ne 5, 3) ∧ decode cX7_set 26 = .ok (.iconst (-1), 1) ∧ decode cX7_set 27 = .ok (.ireturn, 1) ∧ decode cX7_set 28 = .ok (.aload_n 0, 1) ∧ decode cX7_set 29 = .ok (.getfield 22, 3) ∧ decode cX7_set 32 = .ok (.aload_n 0, 1) ∧ decode cX7_set 33 = .ok (.getfield 12, 3) ∧ decode cX7_set 36 = .ok (.invokevirtual 58, 3) ∧ decode cX7_set 39 = .ok (.aload_n 0, 1) ∧ decode cX7_set 40 = .ok (.getfield 12, 3) ∧ decode cX7_set 43 = .ok (.getfield 92, 3) ∧ decode cX7_set 46 = .ok (.iload_n 1, 1) ∧ decode cX7_set 47 = .ok (.iaload, 1) ∧ decode cX7_set 48 = .ok (.istore_n 3, 1) ∧ decode cX7_set 49 = .ok (.aload_n 0, 1) ∧ decode cX7_set 50 = .ok (.getfield 12, 3) ∧ decode cX7_set 53 = .ok (.getfield 92, 3) ∧ decode cX7_set 56 = .ok (.iload_n 1, 1) ∧ decode cX7_set 57 = .ok (.iload_n 2, 1) ∧ decode cX7_set 58 = .ok (.iastore, 1) ∧ decode cX7_set 59 = .ok (.iload_n 3, 1) ∧ decode cX7_set 60 = .ok (.ireturn, 1) ∧ True := dq_of (l := (0, .iload_n 1, 1) :: (1, .bipush 6, 2) :: (3, .invokestatic 40, 3) :: (6, .ifCond .eq 20, 3) :: (9, .iload_n 2, 1) :: (10, .getstatic 86, 3) :: (13, .iload_n 1, 1) :: (14, .iaload, 1) :: (15, .getstatic 89, 3) :: (18, .iload_n 1, 1) :: (19, .iaload, 1) :: (20, .invokestatic 44, 3) :: (23, .ifCond .ne 5, 3) :: (26, .iconst (-1), 1) :: (27, .ireturn, 1) :: (28, .aload_n 0, 1) :: (29, .getfield 22, 3) :: (32, .aload_n 0, 1) :: (33, .getfield 12, 3) :: (36, .invokevirtual 58, 3) :: (39, .aload_n 0, 1) :: (40, .getfield 12, 3) :: (43, .getfield 92, 3) :: (46, .iload_n 1, 1) :: (47, .iaload, 1) :: (48, .istore_n 3, 1) :: (49, .aload_n 0, 1) :: (50, .getfield 12, 3) :: (53, .getfield 92, 3) :: (56, .iload_n 1, 1) :: (57, .iload_n 2, 1) :: (58, .iastore, 1) :: (59, .iload_n 3, 1) :: (60, .ireturn, 1) :: []) (by decide +kernel)
theorem e_X7_set_0 : decode cX7_set 0 = .ok (.iload_n 1, 1) := D_X7_set_0.1
theorem e_X7_set_1 : decode cX7_set 1 = .ok (.bipush 6, 2) := D_X7_set_0.2.1
theorem e_X7_set_3 : decode cX7_set 3 = .ok (.invokestatic 40, 3) := D_X7_set_0.2.2.1
theorem e_X7_set_6 : decode cX7_set 6 = .ok (.ifCond .eq 20, 3) := D_X7_set_0.2.2.2.1
theorem e_X7_set_9 : decode cX7_set 9 = .ok (.iload_n 2, 1) := D_X7_set_0.2.2.2.2.1
theorem e_X7_set_10 : decode cX7_set 10 = .ok (.getstatic 86, 3) := D_X7_set_0.2.2.2.2.2.1
theorem e_X7_set_13 : decode cX7_set 13 = .ok (.iload_n 1, 1) := D_X7_set_0.2.2.2.2.2.2.1
theorem e_X7_set_14 : decode cX7_set 14 = .ok (.iaload, 1) := D_X7_set_0.2.2.2.2.2.2.2.1
theorem e_X7_set_15 : decode cX7_set 15 = .ok (.getstatic 89, 3) := D_X7_set_0.2.2.2.2.2.2.2.2.1
theorem e_X7_set_18 : decode cX7_set 18 = .ok (.iload_n 1, 1) := D_X7_set_0.2.2.2.2.2.2.2.2.2.1
theorem e_X7_set_19 : decode cX7_set 19 = .ok (.iaload, 1) := D_X7_set_0.2.2.2.2.2.2.2.2.2.2.1
theorem e_X7_set_20 : decode cX7_set 20 = .ok (.invokestatic 44, 3) := D_X7_set_0.2.2.2.2.2.2.2.2.2.2.2.1
theorem e_X7_set_23 : decode cX7_set 23 = .ok (.ifCond .ne 5, 3) := D_X7_set_0.2.2.2.2.2.2.2.2.2.2.2.2.1
theorem e_X7_set_26 : decode cX7_set 26 = .ok (.iconst (-1), 1) := D_X7_set_0.2.2.2.2.2.2.2.2.2.2.2.2.2.1
theorem e_X7_set_27 : decode cX7_set 27 = .ok (.ireturn, 1) := D_X7_set_0.2.2.2.2.2.2.2.2.2.2.2.2.2.2.1
theorem e_X7_set_28 : decode cX7_set 28 = .ok (.aload_n 0, 1) := D_X7_set_0.2.2.2.2.2.2.2.2.2.2.2.2.2.2.2.1
theorem e_X7_set_29 : decode cX7_set 29 = .ok (.getfield 22, 3) := D_X7_set_0.2.2.2.2.2.2.2.2.2.2.2.2.2.2.2.2.1
theorem e_X7_set_32 : decode cX7_set 32 = .ok (.aload_n 0, 1) := D_X7_set_0.2.2.2.2.2.2.2.2.2.2.2.2.2.2.2.2.2.1
theorem e_X7_set_33 : decode cX7_set 33 = .ok (.getfield 12, 3) := D_X7_set_0.2.2.2.2.2.2.2.2.2.2.2.2.2.2.2.2.2.2.1
theorem e_X7_set_36 : decode cX7_set 36 = .ok (.invokevirtual 58, 3) := D_X7_set_0.2.2.2.2.2.2.2.2.2.2.2.2.2.2.2.2.2.2.2.1
theorem e_X7_set_39 : decode cX7_set 39 = .ok (.aload_n 0, 1) := D_X7_set_0.2.2.2.2.2.2.2.2.2.2.2.2.2.2.2.2.2.2.2.2.1
theorem e_X7_set_40 : decode cX7_set 40 = .ok (.getfield 12, 3) := D_X7_set_0.2.2.2.2.2.2.2.2.2.2.2.2.2.2.2.2.2.2.2.2.2.1
theorem e_X7_set_43 : decode cX7_set 43 = .ok (.getfield 92, 3) := D_X7_set_0.2.2.2.2.2.2.2.2.2.2.2.2.2.2.2.2.2.2.2.2.2.2.1
theorem e_X7_set_46 : decode cX7_set 46 = .ok (.iload_n 1, 1) := D_X7_set_0.2.2.2.2.2.2.2.2.2.2.2.2.2.2.2.2.2.2.2.2.2.2.2.1
theorem e_X7_set_47 : decode cX7_set 47 = .ok (.iaload, 1) := D_X7_set_0.2.2.2.2.2.2.2.2.2.2.2.2.2.2.2.2.2.2.2.2.2.2.2.2.1
theorem e_X7_set_48 : decode cX7_set 48 = .ok (.istore_n 3, 1) := D_X7_set_0.2.2.2.2.2.2.2.2.2.2.2.2.2.2.2.2.2.2.2.2.2.2.2.2.2.1
theorem e_X7_set_49 : decode cX7_set 49 = .ok (.aload_n 0, 1) := D_X7_set_0.2.2.2.2.2.2.2.2.2.2.2.2.2.2.2.2.2.2.2.2.2.2.2.2.2.2.1
theorem e_X7_set_50 : decode cX7_set 50 = .ok (.getfield 12, 3) := D_X7_set_0.2.2.2.2.2.2.2.2.2.2.2.2.2.2.2.2.2.2.2.2.2.2.2.2.2.2.2.1
theorem e_X7_set_53 : decode cX7_set 53 = .ok (.getfield 92, 3) := D_X7_set_0.2.2.2.2.2.2.2.2.2.2.2.2.2.2.2.2.2.2.2.2.2.2.2.2.2.2.2.2.1
theorem e_X7_set_56 : decode cX7_set 56 = .ok (.iload_n 1, 1) := D_X7_set_0.2.2.2.2.2.2.2.2.2.2.2.2.2.2.2.2.2.2.2.2.2.2.2.2.2.2.2.2.2.1
theorem e_X7_set_57 : decode cX7_set 57 = .ok (.iload_n 2, 1) := D_X7_set_0.2.2.2.2.2.2.2.2.2.2.2.2.2.2.2.2.2.2.2.2.2.2.2.2.2.2.2.2.2.2.1
theorem e_X7_set_58 : decode cX7_set 58 = .ok (.iastore, 1) := D_X7_set_0.2.2.2.2.2.2.2.2.2.2.2.2.2.2.2.2.2.2.2.2.2.2.2.2.2.2.2.2.2.2.2.1
theorem e_X7_set_59 : decode cX7_set 59 = .ok (.iload_n 3, 1) := D_X7_set_0.2.2.2.2.2.2.2.2.2.2.2.2.2.2.2.2.2.2.2.2.2.2.2.2.2.2.2.2.2.2.2.2.1
theorem e_X7_set_60 : decode cX7_set 60 = .ok (.ireturn, 1) := D_X7_set_0.2.2.2.2.2.2.2.2.2.2.2.2.2.2.2.2.2.2.2.2.2.2.2.2.2.2.2.2.2.2.2.2.2.1
set_option maxRecDepth 100000 in
theorem D_X7_job_0 : decode cX7_job 0 = .ok (.iload_n 3, 1) ∧ decode cX7_job 1 = .ok (.iload 4, 2) ∧ decode cX7_job 3 = .ok (.invokestatic 62, 3) ∧ decode cX7_job 6 = .ok (.ifCond .eq 14, 3) ∧ decode cX7_job 9 = .ok (.iload 5, 2) ∧ decode cX7_job 11 = .ok (.iconst 0, 1) ∧ decode cX7_job 12 = .ok (.bipush 11, 2) ∧ decode cX7_job 14 = .ok (.invokestatic 44, 3) ∧ decode cX7_job 17 = .ok (.ifCond .ne 5, 3) ∧ decode cX7_job 20 = .ok (.iconst (-1), 1) ∧ decode cX7_job 21 = .ok (.ireturn, 1) ∧ decode cX7_job 22 = .ok (.aload_n 0, 1) ∧ decode cX7_job 23 = .ok (.getfield 36, 3) ∧ decode cX7_job 26 = .ok (.iload_n 1, 1) ∧ decode cX7_job 27 = .ok (.iload_n 2, 1) ∧ decode cX7_job 28 = .ok (.iload_n 3, 1) ∧ decode cX7_job 29 = .ok (.iload 4, 2) ∧ decode cX7_job 31 = .ok (.iload 5, 2) ∧ decode cX7_job 33 = .ok (.invokevirtual 95, 3) ∧ decode cX7_job 36 = .ok (.aload_n 0, 1) ∧ decode cX7_job 37 = .ok (.getfield 36, 3) ∧ decode cX7_job 40 = .ok (.invokevirtual 99, 3) ∧ decode cX7_job 43 = .ok (.ifCond .ne 5, 3) ∧ decode cX7_job 46 = .ok (.iconst (-1), 1) ∧ decode cX7_job 47 = .ok (.ireturn, 1) ∧ decode cX7_job 48 = .ok (.aload_n 0, 1) ∧ decode cX7_job 49 = .ok (.getfield 36, 3) ∧ decode cX7_job 52 = .ok (.aload_n 0, 1) ∧ decode cX7_job 53 = .ok (.getfield 12, 3) ∧ decode cX7_job 56 = .ok (.getfield 92, 3) ∧ decode cX7_job 59 = .ok (.iconst 3, 1) ∧ decode cX7_job 60 = .ok (.iaload, 1) ∧ decode cX7_job 61 = .ok (.invokevirtual 103, 3) ∧ decode cX7_job 64 = .ok (.istore 6, 2) ∧ decode cX7_job 66 = .ok (.iload 6, 2) ∧ decode cX7_job 68 = .ok (.ifCond .eq 12, 3) ∧ decode cX7_job 71 = .ok (.aload_n 0, 1) ∧ decode cX7_job 72 = .ok (.iload 6, 2) ∧ decode cX7_job 74 = .ok (.putfield 107, 3) ∧ decode cX7_job 77 = .ok (.bipush (-2), 2) ∧ True := dq_of (l := (0, .iload_n 3, 1) :: (1, .iload 4, 2) :: (3, .invokestatic 62, 3) :: (6, .ifCond .eq 14, 3) :: (9, .iload 5, 2) :: (11, .iconst 0, 1) :: (12, .bipush 11, 2) :: (14, .invokestatic 44, 3) :: (17, .ifCond .ne 5, 3) :: (20, .iconst (-1), 1) :: (21, .ireturn, 1) :: (22, .aload_n 0, 1) :: (23, .getfield 36, 3) :: (26, .iload_n 1, 1) :: (27, .iload_n 2, 1) :: (28, .iload_n 3, 1) :: (29, .iload 4, 2) :: (31, .iload 5, 2) :: (33, .invokevirtual 95, 3) :: (36, .aload_n 0, 1) :: (37, .getfield 36, 3) :: (40, .invokevirtual 99, 3) :: (43, .ifCond .ne 5, 3) :: (46, .iconst (-1), 1) :: (47, .ireturn, 1) :: (48, .aload_n 0, 1) :: (49, .getfield 36, 3) :: (52, .aload_n 0, 1) :: (53, .getfield 12, 3) :: (56, .getfield 92, 3) :: (59, .iconst 3, 1) :: (60, .iaload, 1) :: (61, .invokevirtual 103, 3) :: (64, .istore 6, 2) :: (66, .iload 6, 2) :: (68, .ifCond .eq 12, 3) :: (71, .aload_n 0, 1) :: (72, .iload 6, 2) :: (74, .putfield 107, 3) :: (77, .bipush (-2), 2) :: []) (by decide +kernel)
theorem e_X7_job_0 : decode cX7_job 0 = .ok (.iload_n 3, 1) := D_X7_job_0.1
theorem e_X7_job_1 : decode cX7_job 1 = .ok (.iload 4, 2) := D_X7_job_0.2.1
theorem e_X7_job_3 : decode cX7_job 3 = .ok (.invokestatic 62, 3) := D_X7_job_0.2.2.1
theorem e_X7_job_6 : decode cX7_job 6 = .ok (.ifCond .eq 14, 3) := D_X7_job_0.2.2.2.1
theorem e_X7_job_9 : decode cX7_job 9 = .ok (.iload 5, 2) := D_X7_job_0.2.2.2.2.1
theorem e_X7_job_11 : decode cX7_job 11 = .ok (.iconst 0, 1) := D_X7_job_0.2.2.2.2.2.1
theorem e_X7_job_12 : decode cX7_job 12 = .ok (.bipush 11, 2) := D_X7_job_0.2.2.2.2.2.2.1
theorem e_X7_job_14 : decode cX7_job 14 = .ok (.invokestatic 44, 3) := D_X7_job_0.2.2.2.2.2.2.2.1
theorem e_X7_job_17 : decode cX7_job 17 = .ok (.ifCond .ne 5, 3) := D_X7_job_0.2.2.2.2.2.2.2.2.1
theorem e_X7_job_20 : decode cX7_job 20 = .ok (.iconst (-1), 1) := D_X7_job_0.2.2.2.2.2.2.2.2.2.1
theorem e_X7_job_21 : decode cX7_job 21 = .ok (.ireturn, 1) := D_X7_job_0.2.2.2.2.2.2.2.2.2.2.1
theorem e_X7_job_22 : decode cX7_job 22 = .ok (.aload_n 0, 1) := D_X7_job_0.2.2.2.2.2.2.2.2.2.2.2.1
theorem e_X7_job_23 : decode cX7_job 23 = .ok (.getfield 36, 3) := D_X7_job_0.2.2.2.2.2.2.2.2.2.2.2.2.1
theorem e_X7_job_26 : decode cX7_job 26 = .ok (.iload_n 1, 1) := D_X7_job_0.2.2.2.2.2.2.2.2.2.2.2.2.2.1
theorem e_X7_job_27 : decode cX7_job 27 = .ok (.iload_n 2, 1) := D_X7_job_0.2.2.2.2.2.2.2.2.2.2.2.2.2.2.1
theorem e_X7_job_28 : decode cX7_job 28 = .ok (.iload_n 3, 1) := D_X7_job_0.2.2.2.2.2.2.2.2.2.2.2.2.2.2.2.1
theorem e_X7_job_29 : decode cX7_job 29 = .ok (.iload 4, 2) := D_X7_job_0.2.2.2.2.2.2.2.2.2.2.2.2.2.2.2.2.1
theorem e_X7_job_31 : decode cX7_job 31 = .ok (.iload 5, 2) := D_X7_job_0.2.2.2.2.2.2.2.2.2.2.2.2.2.2.2.2.2.1
theorem e_X7_job_33 : decode cX7_job 33 = .ok (.invokevirtual 95, 3) := D_X7_job_0.2.2.2.2.2.2.2.2.2.2.2.2.2.2.2.2.2.2.1
theorem e_X7_job_36 : decode cX7_job 36 = .ok (.aload_n 0, 1) := D_X7_job_0.2.2.2.2.2.2.2.2.2.2.2.2.2.2.2.2.2.2.2.1
theorem e_X7_job_37 : decode cX7_job 37 = .ok (.getfield 36, 3) := D_X7_job_0.2.2.2.2.2.2.2.2.2.2.2.2.2.2.2.2.2.2.2.2.1
theorem e_X7_job_40 : decode cX7_job 40 = .ok (.invokevirtual 99, 3) := D_X7_job_0.2.2.2.2.2.2.2.2.2.2.2.2.2.2.2.2.2.2.2.2.2.1
theorem e_X7_job_43 : decode cX7_job 43 = .ok (.ifCond .ne 5, 3) := D_X7_job_0.2.2.2.2.2.2.2.2.2.2.2.2.2.2.2.2.2.2.2.2.2.2.1
theorem e_X7_job_46 : decode cX7_job 46 = .ok (.iconst (-1), 1) := D_X7_job_0.2.2.2.2.2.2.2.2.2.2.2.2.2.2.2.2.2.2.2.2.2.2.2.1
theorem e_X7_job_47 : decode cX7_job 47 = .ok (.ireturn, 1) := D_X7_job_0.2.2.2.2.2.2.2.2.2.2.2.2.2.2.2.2.2.2.2.2.2.2.2.2.1
theorem e_X7_job_48 : decode cX7_job 48 = .ok (.aload_n 0, 1) := D_X7_job_0.2.2.2.2.2.2.2.2.2.2.2.2.2.2.2.2.2.2.2.2.2.2.2.2.2.1
theorem e_X7_job_49 : decode cX7_job 49 = .ok (.getfield 36, 3) := D_X7_job_0.2.2.2.2.2.2.2.2.2.2.2.2.2.2.2.2.2.2.2.2.2.2.2.2.2.2.1
theorem e_X7_job_52 : decode cX7_job 52 = .ok (.aload_n 0, 1) := D_X7_job_0.2.2.2.2.2.2.2.2.2.2.2.2.2.2.2.2.2.2.2.2.2.2.2.2.2.2.2.1
theorem e_X7_job_53 : decode cX7_job 53 = .ok (.getfield 12, 3) := D_X7_job_0.2.2.2.2.2.2.2.2.2.2.2.2.2.2.2.2.2.2.2.2.2.2.2.2.2.2.2.2.1
theorem e_X7_job_56 : decode cX7_job 56 = .ok (.getfield 92, 3) := D_X7_job_0.2.2.2.2.2.2.2.2.2.2.2.2.2.2.2.2.2.2.2.2.2.2.2.2.2.2.2.2.2.1
theorem e_X7_job_59 : decode cX7_job 59 = .ok (.iconst 3, 1) := D_X7_job_0.2.2.2.2.2.2.2.2.2.2.2.2.2.2.2.2.2.2.2.2.2.2.2.2.2.2.2.2.2.2.1
theorem e_X7_job_60 : decode cX7_job 60 = .ok (.iaload, 1) := D_X7_job_0.2.2.2.2.2.2.2.2.2.2.2.2.2.2.2.2.2.2.2.2.2.2.2.2.2.2.2.2.2.2.2.1
theorem e_X7_job_61 : decode cX7_job 61 = .ok (.invokevirtual 103, 3) := D_X7_job_0.2.2.2.2.2.2.2.2.2.2.2.2.2.2.2.2.2.2.2.2.2.2.2.2.2.2.2.2.2.2.2.2.1
theorem e_X7_job_64 : decode cX7_job 64 = .ok (.istore 6, 2) := D_X7_job_0.2.2.2.2.2.2.2.2.2.2.2.2.2.2.2.2.2.2.2.2.2.2.2.2.2.2.2.2.2.2.2.2.2.1
theorem e_X7_job_66 : decode cX7_job 66 = .ok (.iload 6, 2) := D_X7_job_0.2.2.2.2.2.2.2.2.2.2.2.2.2.2.2.2.2.2.2.2.2.2.2.2.2.2.2.2.2.2.2.2.2.2.1
theorem e_X7_job_68 : decode cX7_job 68 = .ok (.ifCond .eq 12, 3) := D_X7_job_0.2.2.2.2.2.2.2.2.2.2.2.2.2.2.2.2.2.2.2.2.2.2.2.2.2.2.2.2.2.2.2.2.2.2.2.1
theorem e_X7_job_71 : decode cX7_job 71 = .ok (.aload_n 0, 1) := D_X7_job_0.2.2.2.2.2.2.2.2.2.2.2.2.2.2.2.2.2.2.2.2.2.2.2.2.2.2.2.2.2.2.2.2.2.2.2.2.1
theorem e_X7_job_72 : decode cX7_job 72 = .ok (.iload 6, 2) := D_X7_job_0.2.2.2.2.2.2.2.2.2.2.2.2.2.2.2.2.2.2.2.2.2.2.2.2.2.2.2.2.2.2.2.2.2.2.2.2.2.1
theorem e_X7_job_74 : decode cX7_job 74 = .ok (.putfield 107, 3) := D_X7_job_0.2.2.2.2.2.2.2.2.2.2.2.2.2.2.2.2.2.2.2.2.2.2.2.2.2.2.2.2.2.2.2.2.2.2.2.2.2.2.1
theorem e_X7_job_77 : decode cX7_job 77 = .ok (.bipush (-2), 2) := D_X7_job_0.2.2.2.2.2.2.2.2.2.2.2.2.2.2.2.2.2.2.2.2.2.2.2.2.2.2.2.2.2.2.2.2.2.2.2.2.2.2.2.1
set_option maxRecDepth 100000 in
theorem D_X7_job_1 : decode cX7_job 79 = .ok (.ireturn, 1) ∧ decode cX7_job 80 = .ok (.aload_n 0, 1) ∧ decode cX7_job 81 = .ok (.getfield 12, 3) ∧ decode cX7_job 84 = .ok (.getfield 110, 3) ∧ decode cX7_job 87 = .ok (.invokevirtual 114, 3) ∧ decode cX7_job 90 = .ok (.iconst 1, 1) ∧ decode cX7_job 91 = .ok (.if_icmp .ge 6, 3) ∧ decode cX7_job 94 = .ok (.bipush (-3), 2) ∧ decode cX7_job 96 = .ok (.ireturn, 1) ∧ decode cX7_job 97 = .ok (.aload_n 0, 1) ∧ decode cX7_job 98 = .ok (.getfield 22, 3) ∧ decode cX7_job 101 = .ok (.aload_n 0, 1) ∧ decode cX7_job 102 = .ok (.getfield 12, 3) ∧ decode cX7_job 105 = .ok (.invokevirtual 58, 3) ∧ decode cX7_job 108 = .ok (.aload_n 0, 1) ∧ decode cX7_job 109 = .ok (.getfield 12, 3) ∧ decode cX7_job 112 = .ok (.getfield 110, 3) ∧ decode cX7_job 115 = .ok (.aload_n 0, 1) ∧ decode cX7_job 116 = .ok (.getfield 36, 3) ∧ decode cX7_job 119 = .ok (.invokevirtual 120, 3) ∧ decode cX7_job 122 = .ok (.ireturn, 1) ∧ True := dq_of (l := (79, .ireturn, 1) :: (80, .aload_n 0, 1) :: (81, .getfield 12, 3) :: (84, .getfield 110, 3) :: (87, .invokevirtual 114, 3) :: (90, .iconst 1, 1) :: (91, .if_icmp .ge 6, 3) :: (94, .bipush (-3), 2) :: (96, .ireturn, 1) :: (97, .aload_n 0, 1) :: (98, .getfield 22, 3) :: (101, .aload_n 0, 1) :: (102, .getfield 12, 3) :: (105, .invokevirtual 58, 3) :: (108, .aload_n 0, 1) :: (109, .getfield 12, 3) :: (112, .getfield 110, 3) :: (115, .aload_n 0, 1) :: (116, .getfield 36, 3) :: (119, .invokevirtual 120, 3) :: (122, .ireturn, 1) :: []) (by decide +kernel)
theorem e_X7_job_79 : decode cX7_job 79 = .ok (.ireturn, 1) := D_X7_job_1.1
theorem e_X7_job_80 : decode cX7_job 80 = .ok (.aload_n 0, 1) := D_X7_job_1.2.1
theorem e_X7_job_81 : decode cX7_job 81 = .ok (.getfield 12, 3) := D_X7_job_1.2.2.1
theorem e_X7_job_84 : decode cX7_job 84 = .ok (.getfield 110, 3) := D_X7_job_1.2.2.2.1
theorem e_X7_job_87 : decode cX7_job 87 = .ok (.invokevirtual 114, 3) := D_X7_job_1.2.2.2.2.1
theorem e_X7_job_90 : decode cX7_job 90 = .ok (.iconst 1, 1) := D_X7_job_1.2.2.2.2.2.1
theorem e_X7_job_91 : decode cX7_job 91 = .ok (.if_icmp .ge 6, 3) := D_X7_job_1.2.2.2.2.2.2.1
theorem e_X7_job_94 : decode cX7_job 94 = .ok (.bipush (-3), 2) := D_X7_job_1.2.2.2.2.2.2.2.1
theorem e_X7_job_96 : decode cX7_job 96 = .ok (.ireturn, 1) := D_X7_job_1.2.2.2.2.2.2.2.2.1
theorem e_X7_job_97 : decode cX7_job 97 = .ok (.aload_n 0, 1) := D_X7_job_1.2.2.2.2.2.2.2.2.2.1
theorem e_X7_job_98 : decode cX7_job 98 = .ok (.getfield 22, 3) := D_X7_job_1.2.2.2.2.2.2.2.2.2.2.1
theorem e_X7_job_101 : decode cX7_job 101 = .ok (.aload_n 0, 1) := D_X7_job_1.2.2.2.2.2.2.2.2.2.2.2.1
theorem e_X7_job_102 : decode cX7_job 102 = .ok (.getfield 12, 3) := D_X7_job_1.2.2.2.2.2.2.2.2.2.2.2.2.1
theorem e_X7_job_105 : decode cX7_job 105 = .ok (.invokevirtual 58, 3) := D_X7_job_1.2.2.2.2.2.2.2.2.2.2.2.2.2.1
theorem e_X7_job_108 : decode cX7_job 108 = .ok (.aload_n 0, 1) := D_X7_job_1.2.2.2.2.2.2.2.2.2.2.2.2.2.2.1
theorem e_X7_job_109 : decode cX7_job 109 = .ok (.getfield 12, 3) := D_X7_job_1.2.2.2.2.2.2.2.2.2.2.2.2.2.2.2.1
theorem e_X7_job_112 : decode cX7_job 112 = .ok (.getfield 110, 3) := D_X7_job_1.2.2.2.2.2.2.2.2.2.2.2.2.2.2.2.2.1
theorem e_X7_job_115 : decode cX7_job 115 = .ok (.aload_n 0, 1) := D_X7_job_1.2.2.2.2.2.2.2.2.2.2.2.2.2.2.2.2.2.1
theorem e_X7_job_116 : decode cX7_job 116 = .ok (.getfield 36, 3) := D_X7_job_1.2.2.2.2.2.2.2.2.2.2.2.2.2.2.2.2.2.2.1
theorem e_X7_job_119 : decode cX7_job 119 = .ok (.invokevirtual 120, 3) := D_X7_job_1.2.2.2.2.2.2.2.2.2.2.2.2.2.2.2.2.2.2.2.1
theorem e_X7_job_122 : decode cX7_job 122 = .ok (.ireturn, 1) := D_X7_job_1.2.2.2.2.2.2.2.2.2.2.2.2.2.2.2.2.2.2.2.2.1
set_option maxRecDepth 100000 in
theorem D_X7_refusal_0 : decode cX7_refusal 0 = .ok (.aload_n 0, 1) ∧ decode cX7_refusal 1 = .ok (.getfield 107, 3) ∧ decode cX7_refusal 4 = .ok (.ifCond .ne 8, 3) ∧ decode cX7_refusal 7 = .ok (.bipush (-4), 2) ∧ decode cX7_refusal 9 = .ok (.goto 7, 3) ∧ decode cX7_refusal 12 = .ok (.aload_n 0, 1) ∧ decode cX7_refusal 13 = .ok (.getfield 107, 3) ∧ decode cX7_refusal 16 = .ok (.ireturn, 1) ∧ True := dq_of (l := (0, .aload_n 0, 1) :: (1, .getfield 107, 3) :: (4, .ifCond .ne 8, 3) :: (7, .bipush (-4), 2) :: (9, .goto 7, 3) :: (12, .aload_n 0, 1) :: (13, .getfield 107, 3) :: (16, .ireturn, 1) :: []) (by decide +kernel)
theorem e_X7_refusal_0 : decode cX7_refusal 0 = .ok (.aload_n 0, 1) := D_X7_refusal_0.1
theorem e_X7_refusal_1 : decode cX7_refusal 1 = .ok (.getfield 107, 3) := D_X7_refusal_0.2.1
theorem e_X7_refusal_4 : decode cX7_refusal 4 = .ok (.ifCond .ne 8, 3) := D_X7_refusal_0.2.2.1
theorem e_X7_refusal_7 : decode cX7_refusal 7 = .ok (.bipush (-4), 2) := D_X7_refusal_0.2.2.2.1
theorem e_X7_refusal_9 : decode cX7_refusal 9 = .ok (.goto 7, 3) := D_X7_refusal_0.2.2.2.2.1
theorem e_X7_refusal_12 : decode cX7_refusal 12 = .ok (.aload_n 0, 1) := D_X7_refusal_0.2.2.2.2.2.1
theorem e_X7_refusal_13 : decode cX7_refusal 13 = .ok (.getfield 107, 3) := D_X7_refusal_0.2.2.2.2.2.2.1
theorem e_X7_refusal_16 : decode cX7_refusal 16 = .ok (.ireturn, 1) := D_X7_refusal_0.2.2.2.2.2.2.2.1
set_option maxRecDepth 100000 in
theorem D_X7_hold_0 : decode cX7_hold 0 = .ok (.iload_n 1, 1) ∧ decode cX7_hold 1 = .ok (.ifCond .lt 12, 3) ∧ decode cX7_hold 4 = .ok (.iload_n 2, 1) ∧ decode cX7_hold 5 = .ok (.iconst 0, 1) ∧ decode cX7_hold 6 = .ok (.iconst 1, 1) ∧ decode cX7_hold 7 = .ok (.invokestatic 44, 3) ∧ decode cX7_hold 10 = .ok (.ifCond .ne 5, 3) ∧ decode cX7_hold 13 = .ok (.iconst (-1), 1) ∧ decode cX7_hold 14 = .ok (.ireturn, 1) ∧ decode cX7_hold 15 = .ok (.aload_n 0, 1) ∧ decode cX7_hold 16 = .ok (.getfield 12, 3) ∧ decode cX7_hold 19 = .ok (.getfield 110, 3) ∧ decode cX7_hold 22 = .ok (.iload_n 1, 1) ∧ decode cX7_hold 23 = .ok (.invokevirtual 124, 3) ∧ decode cX7_hold 26 = .ok (.astore_n 3, 1) ∧ decode cX7_hold 27 = .ok (.aload_n 3, 1) ∧ decode cX7_hold 28 = .ok (.ifnonnull 6, 3) ∧ decode cX7_hold 31 = .ok (.bipush (-4), 2) ∧ decode cX7_hold 33 = .ok (.ireturn, 1) ∧ decode cX7_hold 34 = .ok (.aload_n 0, 1) ∧ decode cX7_hold 35 = .ok (.getfield 22, 3) ∧ decode cX7_hold 38 = .ok (.aload_n 0, 1) ∧ decode cX7_hold 39 = .ok (.getfield 12, 3) ∧ decode cX7_hold 42 = .ok (.invokevirtual 58, 3) ∧ decode cX7_hold 45 = .ok (.aload_n 3, 1) ∧ decode cX7_hold 46 = .ok (.getfield 128, 3) ∧ decode cX7_hold 49 = .ok (.ifCond .eq 7, 3) ∧ decode cX7_hold 52 = .ok (.iconst 1, 1) ∧ decode cX7_hold 53 = .ok (.goto 4, 3) ∧ decode cX7_hold 56 = .ok (.iconst 0, 1) ∧ decode cX7_hold 57 = .ok (.istore 4, 2) ∧ decode cX7_hold 59 = .ok (.aload_n 3, 1) ∧ decode cX7_hold 60 = .ok (.iload_n 2, 1) ∧ decode cX7_hold 61 = .ok (.iconst 1, 1) ∧ decode cX7_hold 62 = .ok (.if_icmp .ne 7, 3) ∧ decode cX7_hold 65 = .ok (.iconst 1, 1) ∧ decode cX7_hold 66 = .ok (.goto 4, 3) ∧ decode cX7_hold 69 = .ok (.iconst 0, 1) ∧ decode cX7_hold 70 = .ok (.putfield 128, 3) ∧ decode cX7_hold 73 = .ok (.aload_n 3, 1) ∧ True := dq_of (l := (0, .iload_n 1, 1) :: (1, .ifCond .lt 12, 3) :: (4, .iload_n 2, 1) :: (5, .iconst 0, 1) :: (6, .iconst 1, 1) :: (7, .invokestatic 44, 3) :: (10, .ifCond .ne 5, 3) :: (13, .iconst (-1), 1) :: (14, .ireturn, 1) :: (15, .aload_n 0, 1) :: (16, .getfield 12, 3) :: (19, .getfield 110, 3) :: (22, .iload_n 1, 1) :: (23, .invokevirtual 124, 3) :: (26, .astore_n 3, 1) :: (27, .aload_n 3, 1) :: (28, .ifnonnull 6, 3) :: (31, .bipush (-4), 2) :: (33, .ireturn, 1) :: (34, .aload_n 0, 1) :: (35, .getfield 22, 3) :: (38, .aload_n 0, 1) :: (39, .getfield 12, 3) :: (42, .invokevirtual 58, 3) :: (45, .aload_n 3, 1) :: (46, .getfield 128, 3) :: (49, .ifCond .eq 7, 3) :: (52, .iconst 1, 1) :: (53, .goto 4, 3) :: (56, .iconst 0, 1) :: (57, .istore 4, 2) :: (59, .aload_n 3, 1) :: (60, .iload_n 2, 1) :: (61, .iconst 1, 1) :: (62, .if_icmp .ne 7, 3) :: (65, .iconst 1, 1) :: (66, .goto 4, 3) :: (69, .iconst 0, 1) :: (70, .putfield 128, 3) :: (73, .aload_n 3, 1) :: []) (by decide +kernel)
theorem e_X7_hold_0 : decode cX7_hold 0 = .ok (.iload_n 1, 1) := D_X7_hold_0.1
theorem e_X7_hold_1 : decode cX7_hold 1 = .ok (.ifCond .lt 12, 3) := D_X7_hold_0.2.1
theorem e_X7_hold_4 : decode cX7_hold 4 = .ok (.iload_n 2, 1) := D_X7_hold_0.2.2.1
theorem e_X7_hold_5 : decode cX7_hold 5 = .ok (.iconst 0, 1) := D_X7_hold_0.2.2.2.1
theorem e_X7_hold_6 : decode cX7_hold 6 = .ok (.iconst 1, 1) := D_X7_hold_0.2.2.2.2.1
theorem e_X7_hold_7 : decode cX7_hold 7 = .ok (.invokestatic 44, 3) := D_X7_hold_0.2.2.2.2.2.1
theorem e_X7_hold_10 : decode cX7_hold 10 = .ok (.ifCond .ne 5, 3) := D_X7_hold_0.2.2.2.2.2.2.1
theorem e_X7_hold_13 : decode cX7_hold 13 = .ok (.iconst (-1), 1) := D_X7_hold_0.2.2.2.2.2.2.2.1
theorem e_X7_hold_14 : decode cX7_hold 14 = .ok (.ireturn, 1) := D_X7_hold_0.2.2.2.2.2.2.2.2.1
theorem e_X7_hold_15 : decode cX7_hold 15 = .ok (.aload_n 0, 1) := D_X7_hold_0.2.2.2.2.2.2.2.2.2.1
theorem e_X7_hold_16 : decode cX7_hold 16 = .ok (.getfield 12, 3) := D_X7_hold_0.2.2.2.2.2.2.2.2.2.2.1
theorem e_X7_hold_19 : decode cX7_hold 19 = .ok (.getfield 110, 3) := D_X7_hold_0.2.2.2.2.2.2.2.2.2.2.2.1
theorem e_X7_hold_22 : decode cX7_hold 22 = .ok (.iload_n 1, 1) := D_X7_hold_0.2.2.2.2.2.2.2.2.2.2.2.2.1
theorem e_X7_hold_23 : decode cX7_hold 23 = .ok (.invokevirtual 124, 3) := D_X7_hold_0.2.2.2.2.2.2.2.2.2.2.2.2.2.1
theorem e_X7_hold_26 : decode cX7_hold 26 = .ok (.astore_n 3, 1) := D_X7_hold_0.2.2.2.2.2.2.2.2.2.2.2.2.2.2.1
theorem e_X7_hold_27 : decode cX7_hold 27 = .ok (.aload_n 3, 1) := D_X7_hold_0.2.2.2.2.2.2.2.2.2.2.2.2.2.2.2.1
theorem e_X7_hold_28 : decode cX7_hold 28 = .ok (.ifnonnull 6, 3) := D_X7_hold_0.2.2.2.2.2.2.2.2.2.2.2.2.2.2.2.2.1
theorem e_X7_hold_31 : decode cX7_hold 31 = .ok (.bipush (-4), 2) := D_X7_hold_0.2.2.2.2.2.2.2.2.2.2.2.2.2.2.2.2.2.1
theorem e_X7_hold_33 : decode cX7_hold 33 = .ok (.ireturn, 1) := D_X7_hold_0.2.2.2.2.2.2.2.2.2.2.2.2.2.2.2.2.2.2.1
theorem e_X7_hold_34 : decode cX7_hold 34 = .ok (.aload_n 0, 1) := D_X7_hold_0.2.2.2.2.2.2.2.2.2.2.2.2.2.2.2.2.2.2.2.1
theorem e_X7_hold_35 : decode cX7_hold 35 = .ok (.getfield 22, 3) := D_X7_hold_0.2.2.2.2.2.2.2.2.2.2.2.2.2.2.2.2.2.2.2.2.1
theorem e_X7_hold_38 : decode cX7_hold 38 = .ok (.aload_n 0, 1) := D_X7_hold_0.2.2.2.2.2.2.2.2.2.2.2.2.2.2.2.2.2.2.2.2.2.1
theorem e_X7_hold_39 : decode cX7_hold 39 = .ok (.getfield 12, 3) := D_X7_hold_0.2.2.2.2.2.2.2.2.2.2.2.2.2.2.2.2.2.2.2.2.2.2.1
theorem e_X7_hold_42 : decode cX7_hold 42 = .ok (.invokevirtual 58, 3) := D_X7_hold_0.2.2.2.2.2.2.2.2.2.2.2.2.2.2.2.2.2.2.2.2.2.2.2.1
theorem e_X7_hold_45 : decode cX7_hold 45 = .ok (.aload_n 3, 1) := D_X7_hold_0.2.2.2.2.2.2.2.2.2.2.2.2.2.2.2.2.2.2.2.2.2.2.2.2.1
theorem e_X7_hold_46 : decode cX7_hold 46 = .ok (.getfield 128, 3) := D_X7_hold_0.2.2.2.2.2.2.2.2.2.2.2.2.2.2.2.2.2.2.2.2.2.2.2.2.2.1
theorem e_X7_hold_49 : decode cX7_hold 49 = .ok (.ifCond .eq 7, 3) := D_X7_hold_0.2.2.2.2.2.2.2.2.2.2.2.2.2.2.2.2.2.2.2.2.2.2.2.2.2.2.1
theorem e_X7_hold_52 : decode cX7_hold 52 = .ok (.iconst 1, 1) := D_X7_hold_0.2.2.2.2.2.2.2.2.2.2.2.2.2.2.2.2.2.2.2.2.2.2.2.2.2.2.2.1
theorem e_X7_hold_53 : decode cX7_hold 53 = .ok (.goto 4, 3) := D_X7_hold_0.2.2.2.2.2.2.2.2.2.2.2.2.2.2.2.2.2.2.2.2.2.2.2.2.2.2.2.2.1
theorem e_X7_hold_56 : decode cX7_hold 56 = .ok (.iconst 0, 1) := D_X7_hold_0.2.2.2.2.2.2.2.2.2.2.2.2.2.2.2.2.2.2.2.2.2.2.2.2.2.2.2.2.2.1
theorem e_X7_hold_57 : decode cX7_hold 57 = .ok (.istore 4, 2) := D_X7_hold_0.2.2.2.2.2.2.2.2.2.2.2.2.2.2.2.2.2.2.2.2.2.2.2.2.2.2.2.2.2.2.1
theorem e_X7_hold_59 : decode cX7_hold 59 = .ok (.aload_n 3, 1) := D_X7_hold_0.2.2.2.2.2.2.2.2.2.2.2.2.2.2.2.2.2.2.2.2.2.2.2.2.2.2.2.2.2.2.2.1
theorem e_X7_hold_60 : decode cX7_hold 60 = .ok (.iload_n 2, 1) := D_X7_hold_0.2.2.2.2.2.2.2.2.2.2.2.2.2.2.2.2.2.2.2.2.2.2.2.2.2.2.2.2.2.2.2.2.1
theorem e_X7_hold_61 : decode cX7_hold 61 = .ok (.iconst 1, 1) := D_X7_hold_0.2.2.2.2.2.2.2.2.2.2.2.2.2.2.2.2.2.2.2.2.2.2.2.2.2.2.2.2.2.2.2.2.2.1
theorem e_X7_hold_62 : decode cX7_hold 62 = .ok (.if_icmp .ne 7, 3) := D_X7_hold_0.2.2.2.2.2.2.2.2.2.2.2.2.2.2.2.2.2.2.2.2.2.2.2.2.2.2.2.2.2.2.2.2.2.2.1
theorem e_X7_hold_65 : decode cX7_hold 65 = .ok (.iconst 1, 1) := D_X7_hold_0.2.2.2.2.2.2.2.2.2.2.2.2.2.2.2.2.2.2.2.2.2.2.2.2.2.2.2.2.2.2.2.2.2.2.2.1
theorem e_X7_hold_66 : decode cX7_hold 66 = .ok (.goto 4, 3) := D_X7_hold_0.2.2.2.2.2.2.2.2.2.2.2.2.2.2.2.2.2.2.2.2.2.2.2.2.2.2.2.2.2.2.2.2.2.2.2.2.1
theorem e_X7_hold_69 : decode cX7_hold 69 = .ok (.iconst 0, 1) := D_X7_hold_0.2.2.2.2.2.2.2.2.2.2.2.2.2.2.2.2.2.2.2.2.2.2.2.2.2.2.2.2.2.2.2.2.2.2.2.2.2.1
theorem e_X7_hold_70 : decode cX7_hold 70 = .ok (.putfield 128, 3) := D_X7_hold_0.2.2.2.2.2.2.2.2.2.2.2.2.2.2.2.2.2.2.2.2.2.2.2.2.2.2.2.2.2.2.2.2.2.2.2.2.2.2.1
theorem e_X7_hold_73 : decode cX7_hold 73 = .ok (.aload_n 3, 1) := D_X7_hold_0.2.2.2.2.2.2.2.2.2.2.2.2.2.2.2.2.2.2.2.2.2.2.2.2.2.2.2.2.2.2.2.2.2.2.2.2.2.2.2.1
set_option maxRecDepth 100000 in
theorem D_X7_hold_1 : decode cX7_hold 74 = .ok (.getfield 128, 3) ∧ decode cX7_hold 77 = .ok (.ifCond .eq 11, 3) ∧ decode cX7_hold 80 = .ok (.aload_n 0, 1) ∧ decode cX7_hold 81 = .ok (.getfield 12, 3) ∧ decode cX7_hold 84 = .ok (.aload_n 3, 1) ∧ decode cX7_hold 85 = .ok (.invokevirtual 132, 3) ∧ decode cX7_hold 88 = .ok (.iload 4, 2) ∧ decode cX7_hold 90 = .ok (.ireturn, 1) ∧ True := dq_of (l := (74, .getfield 128, 3) :: (77, .ifCond .eq 11, 3) :: (80, .aload_n 0, 1) :: (81, .getfield 12, 3) :: (84, .aload_n 3, 1) :: (85, .invokevirtual 132, 3) :: (88, .iload 4, 2) :: (90, .ireturn, 1) :: []) (by decide +kernel)
theorem e_X7_hold_74 : decode cX7_hold 74 = .ok (.getfield 128, 3) := D_X7_hold_1.1
theorem e_X7_hold_77 : decode cX7_hold 77 = .ok (.ifCond .eq 11, 3) := D_X7_hold_1.2.1
theorem e_X7_hold_80 : decode cX7_hold 80 = .ok (.aload_n 0, 1) := D_X7_hold_1.2.2.1
theorem e_X7_hold_81 : decode cX7_hold 81 = .ok (.getfield 12, 3) := D_X7_hold_1.2.2.2.1
theorem e_X7_hold_84 : decode cX7_hold 84 = .ok (.aload_n 3, 1) := D_X7_hold_1.2.2.2.2.1
theorem e_X7_hold_85 : decode cX7_hold 85 = .ok (.invokevirtual 132, 3) := D_X7_hold_1.2.2.2.2.2.1
theorem e_X7_hold_88 : decode cX7_hold 88 = .ok (.iload 4, 2) := D_X7_hold_1.2.2.2.2.2.2.1
theorem e_X7_hold_90 : decode cX7_hold 90 = .ok (.ireturn, 1) := D_X7_hold_1.2.2.2.2.2.2.2.1
set_option maxRecDepth 100000 in
theorem D_X7_cancel_0 : decode cX7_cancel 0 = .ok (.iload_n 1, 1) ∧ decode cX7_cancel 1 = .ok (.ifCond .ge 5, 3) ∧ decode cX7_cancel 4 = .ok (.iconst (-1), 1) ∧ decode cX7_cancel 5 = .ok (.ireturn, 1) ∧ decode cX7_cancel 6 = .ok (.aload_n 0, 1) ∧ decode cX7_cancel 7 = .ok (.getfield 12, 3) ∧ decode cX7_cancel 10 = .ok (.getfield 110, 3) ∧ decode cX7_cancel 13 = .ok (.iload_n 1, 1) ∧ decode cX7_cancel 14 = .ok (.invokevirtual 124, 3) ∧ decode cX7_cancel 17 = .ok (.astore_n 2, 1) ∧ decode cX7_cancel 18 = .ok (.aload_n 2, 1) ∧ decode cX7_cancel 19 = .ok (.ifnonnull 6, 3) ∧ decode cX7_cancel 22 = .ok (.bipush (-4), 2) ∧ decode cX7_cancel 24 = .ok (.ireturn, 1) ∧ decode cX7_cancel 25 = .ok (.aload_n 0, 1) ∧ decode cX7_cancel 26 = .ok (.getfield 22, 3) ∧ decode cX7_cancel 29 = .ok (.aload_n 0, 1) ∧ decode cX7_cancel 30 = .ok (.getfield 12, 3) ∧ decode cX7_cancel 33 = .ok (.invokevirtual 58, 3) ∧ decode cX7_cancel 36 = .ok (.aload_n 2, 1) ∧ decode cX7_cancel 37 = .ok (.getfield 136, 3) ∧ decode cX7_cancel 40 = .ok (.istore_n 3, 1) ∧ decode cX7_cancel 41 = .ok (.aload_n 0, 1) ∧ decode cX7_cancel 42 = .ok (.getfield 12, 3) ∧ decode cX7_cancel 45 = .ok (.aload_n 2, 1) ∧ decode cX7_cancel 46 = .ok (.invokevirtual 132, 3) ∧ decode cX7_cancel 49 = .ok (.aload_n 0, 1) ∧ decode cX7_cancel 50 = .ok (.getfield 12, 3) ∧ decode cX7_cancel 53 = .ok (.getfield 110, 3) ∧ decode cX7_cancel 56 = .ok (.aload_n 2, 1) ∧ decode cX7_cancel 57 = .ok (.invokevirtual 139, 3) ∧ decode cX7_cancel 60 = .ok (.aload_n 0, 1) ∧ decode cX7_cancel 61 = .ok (.getfield 12, 3) ∧ decode cX7_cancel 64 = .ok (.getfield 142, 3) ∧ decode cX7_cancel 67 = .ok (.bipush 6, 2) ∧ decode cX7_cancel 69 = .ok (.iconst 1, 1) ∧ decode cX7_cancel 70 = .ok (.invokevirtual 146, 3) ∧ decode cX7_cancel 73 = .ok (.iload_n 3, 1) ∧ decode cX7_cancel 74 = .ok (.ireturn, 1) ∧ True := dq_of (l := (0, .iload_n 1, 1) :: (1, .ifCond .ge 5, 3) :: (4, .iconst (-1), 1) :: (5, .ireturn, 1) :: (6, .aload_n 0, 1) :: (7, .getfield 12, 3) :: (10, .getfield 110, 3) :: (13, .iload_n 1, 1) :: (14, .invokevirtual 124, 3) :: (17, .astore_n 2, 1) :: (18, .aload_n 2, 1) :: (19, .ifnonnull 6, 3) :: (22, .bipush (-4), 2) :: (24, .ireturn, 1) :: (25, .aload_n 0, 1) :: (26, .getfield 22, 3) :: (29, .aload_n 0, 1) :: (30, .getfield 12, 3) :: (33, .invokevirtual 58, 3) :: (36, .aload_n 2, 1) :: (37, .getfield 136, 3) :: (40, .istore_n 3, 1) :: (41, .aload_n 0, 1) :: (42, .getfield 12, 3) :: (45, .aload_n 2, 1) :: (46, .invokevirtual 132, 3) :: (49, .aload_n 0, 1) :: (50, .getfield 12, 3) :: (53, .getfield 110, 3) :: (56, .aload_n 2, 1) :: (57, .invokevirtual 139, 3) :: (60, .aload_n 0, 1) :: (61, .getfield 12, 3) :: (64, .getfield 142, 3) :: (67, .bipush 6, 2) :: (69, .iconst 1, 1) :: (70, .invokevirtual 146, 3) :: (73, .iload_n 3, 1) :: (74, .ireturn, 1) :: []) (by decide +kernel)
theorem e_X7_cancel_0 : decode cX7_cancel 0 = .ok (.iload_n 1, 1) := D_X7_cancel_0.1
theorem e_X7_cancel_1 : decode cX7_cancel 1 = .ok (.ifCond .ge 5, 3) := D_X7_cancel_0.2.1
theorem e_X7_cancel_4 : decode cX7_cancel 4 = .ok (.iconst (-1), 1) := D_X7_cancel_0.2.2.1
theorem e_X7_cancel_5 : decode cX7_cancel 5 = .ok (.ireturn, 1) := D_X7_cancel_0.2.2.2.1
theorem e_X7_cancel_6 : decode cX7_cancel 6 = .ok (.aload_n 0, 1) := D_X7_cancel_0.2.2.2.2.1
theorem e_X7_cancel_7 : decode cX7_cancel 7 = .ok (.getfield 12, 3) := D_X7_cancel_0.2.2.2.2.2.1
theorem e_X7_cancel_10 : decode cX7_cancel 10 = .ok (.getfield 110, 3) := D_X7_cancel_0.2.2.2.2.2.2.1
theorem e_X7_cancel_13 : decode cX7_cancel 13 = .ok (.iload_n 1, 1) := D_X7_cancel_0.2.2.2.2.2.2.2.1
theorem e_X7_cancel_14 : decode cX7_cancel 14 = .ok (.invokevirtual 124, 3) := D_X7_cancel_0.2.2.2.2.2.2.2.2.1
theorem e_X7_cancel_17 : decode cX7_cancel 17 = .ok (.astore_n 2, 1) := D_X7_cancel_0.2.2.2.2.2.2.2.2.2.1
theorem e_X7_cancel_18 : decode cX7_cancel 18 = .ok (.aload_n 2, 1) := D_X7_cancel_0.2.2.2.2.2.2.2.2.2.2.1
theorem e_X7_cancel_19 : decode cX7_cancel 19 = .ok (.ifnonnull 6, 3) := D_X7_cancel_0.2.2.2.2.2.2.2.2.2.2.2.1
theorem e_X7_cancel_22 : decode cX7_cancel 22 = .ok (.bipush (-4), 2) := D_X7_cancel_0.2.2.2.2.2.2.2.2.2.2.2.2.1
theorem e_X7_cancel_24 : decode cX7_cancel 24 = .ok (.ireturn, 1) := D_X7_cancel_0.2.2.2.2.2.2.2.2.2.2.2.2.2.1
theorem e_X7_cancel_25 : decode cX7_cancel 25 = .ok (.aload_n 0, 1) := D_X7_cancel_0.2.2.2.2.2.2.2.2.2.2.2.2.2.2.1
theorem e_X7_cancel_26 : decode cX7_cancel 26 = .ok (.getfield 22, 3) := D_X7_cancel_0.2.2.2.2.2.2.2.2.2.2.2.2.2.2.2.1
theorem e_X7_cancel_29 : decode cX7_cancel 29 = .ok (.aload_n 0, 1) := D_X7_cancel_0.2.2.2.2.2.2.2.2.2.2.2.2.2.2.2.2.1
theorem e_X7_cancel_30 : decode cX7_cancel 30 = .ok (.getfield 12, 3) := D_X7_cancel_0.2.2.2.2.2.2.2.2.2.2.2.2.2.2.2.2.2.1
theorem e_X7_cancel_33 : decode cX7_cancel 33 = .ok (.invokevirtual 58, 3) := D_X7_cancel_0.2.2.2.2.2.2.2.2.2.2.2.2.2.2.2.2.2.2.1
theorem e_X7_cancel_36 : decode cX7_cancel 36 = .ok (.aload_n 2, 1) := D_X7_cancel_0.2.2.2.2.2.2.2.2.2.2.2.2.2.2.2.2.2.2.2.1
theorem e_X7_cancel_37 : decode cX7_cancel 37 = .ok (.getfield 136, 3) := D_X7_cancel_0.2.2.2.2.2.2.2.2.2.2.2.2.2.2.2.2.2.2.2.2.1
theorem e_X7_cancel_40 : decode cX7_cancel 40 = .ok (.istore_n 3, 1) := D_X7_cancel_0.2.2.2.2.2.2.2.2.2.2.2.2.2.2.2.2.2.2.2.2.2.1
theorem e_X7_cancel_41 : decode cX7_cancel 41 = .ok (.aload_n 0, 1) := D_X7_cancel_0.2.2.2.2.2.2.2.2.2.2.2.2.2.2.2.2.2.2.2.2.2.2.1
theorem e_X7_cancel_42 : decode cX7_cancel 42 = .ok (.getfield 12, 3) := D_X7_cancel_0.2.2.2.2.2.2.2.2.2.2.2.2.2.2.2.2.2.2.2.2.2.2.2.1
theorem e_X7_cancel_45 : decode cX7_cancel 45 = .ok (.aload_n 2, 1) := D_X7_cancel_0.2.2.2.2.2.2.2.2.2.2.2.2.2.2.2.2.2.2.2.2.2.2.2.2.1
theorem e_X7_cancel_46 : decode cX7_cancel 46 = .ok (.invokevirtual 132, 3) := D_X7_cancel_0.2.2.2.2.2.2.2.2.2.2.2.2.2.2.2.2.2.2.2.2.2.2.2.2.2.1
theorem e_X7_cancel_49 : decode cX7_cancel 49 = .ok (.aload_n 0, 1) := D_X7_cancel_0.2.2.2.2.2.2.2.2.2.2.2.2.2.2.2.2.2.2.2.2.2.2.2.2.2.2.1
theorem e_X7_cancel_50 : decode cX7_cancel 50 = .ok (.getfield 12, 3) := D_X7_cancel_0.2.2.2.2.2.2.2.2.2.2.2.2.2.2.2.2.2.2.2.2.2.2.2.2.2.2.2.1
theorem e_X7_cancel_53 : decode cX7_cancel 53 = .ok (.getfield 110, 3) := D_X7_cancel_0.2.2.2.2.2.2.2.2.2.2.2.2.2.2.2.2.2.2.2.2.2.2.2.2.2.2.2.2.1
theorem e_X7_cancel_56 : decode cX7_cancel 56 = .ok (.aload_n 2, 1) := D_X7_cancel_0.2.2.2.2.2.2.2.2.2.2.2.2.2.2.2.2.2.2.2.2.2.2.2.2.2.2.2.2.2.1
theorem e_X7_cancel_57 : decode cX7_cancel 57 = .ok (.invokevirtual 139, 3) := D_X7_cancel_0.2.2.2.2.2.2.2.2.2.2.2.2.2.2.2.2.2.2.2.2.2.2.2.2.2.2.2.2.2.2.1
theorem e_X7_cancel_60 : decode cX7_cancel 60 = .ok (.aload_n 0, 1) := D_X7_cancel_0.2.2.2.2.2.2.2.2.2.2.2.2.2.2.2.2.2.2.2.2.2.2.2.2.2.2.2.2.2.2.2.1
theorem e_X7_cancel_61 : decode cX7_cancel 61 = .ok (.getfield 12, 3) := D_X7_cancel_0.2.2.2.2.2.2.2.2.2.2.2.2.2.2.2.2.2.2.2.2.2.2.2.2.2.2.2.2.2.2.2.2.1
theorem e_X7_cancel_64 : decode cX7_cancel 64 = .ok (.getfield 142, 3) := D_X7_cancel_0.2.2.2.2.2.2.2.2.2.2.2.2.2.2.2.2.2.2.2.2.2.2.2.2.2.2.2.2.2.2.2.2.2.1
theorem e_X7_cancel_67 : decode cX7_cancel 67 = .ok (.bipush 6, 2) := D_X7_cancel_0.2.2.2.2.2.2.2.2.2.2.2.2.2.2.2.2.2.2.2.2.2.2.2.2.2.2.2.2.2.2.2.2.2.2.1
theorem e_X7_cancel_69 : decode cX7_cancel 69 = .ok (.iconst 1, 1) := D_X7_cancel_0.2.2.2.2.2.2.2.2.2.2.2.2.2.2.2.2.2.2.2.2.2.2.2.2.2.2.2.2.2.2.2.2.2.2.2.1
theorem e_X7_cancel_70 : decode cX7_cancel 70 = .ok (.invokevirtual 146, 3) := D_X7_cancel_0.2.2.2.2.2.2.2.2.2.2.2.2.2.2.2.2.2.2.2.2.2.2.2.2.2.2.2.2.2.2.2.2.2.2.2.2.1
theorem e_X7_cancel_73 : decode cX7_cancel 73 = .ok (.iload_n 3, 1) := D_X7_cancel_0.2.2.2.2.2.2.2.2.2.2.2.2.2.2.2.2.2.2.2.2.2.2.2.2.2.2.2.2.2.2.2.2.2.2.2.2.2.1
theorem e_X7_cancel_74 : decode cX7_cancel 74 = .ok (.ireturn, 1) := D_X7_cancel_0.2.2.2.2.2.2.2.2.2.2.2.2.2.2.2.2.2.2.2.2.2.2.2.2.2.2.2.2.2.2.2.2.2.2.2.2.2.2.1
set_option maxRecDepth 100000 in
theorem D_X7_priority_0 : decode cX7_priority 0 = .ok (.iload_n 1, 1) ∧ decode cX7_priority 1 = .ok (.ifCond .lt 13, 3) ∧ decode cX7_priority 4 = .ok (.iload_n 2, 1) ∧ decode cX7_priority 5 = .ok (.iconst 0, 1) ∧ decode cX7_priority 6 = .ok (.bipush 9, 2) ∧ decode cX7_priority 8 = .ok (.invokestatic 44, 3) ∧ decode cX7_priority 11 = .ok (.ifCond .ne 5, 3) ∧ decode cX7_priority 14 = .ok (.iconst (-1), 1) ∧ decode cX7_priority 15 = .ok (.ireturn, 1) ∧ decode cX7_priority 16 = .ok (.aload_n 0, 1) ∧ decode cX7_priority 17 = .ok (.getfield 12, 3) ∧ decode cX7_priority 20 = .ok (.getfield 110, 3) ∧ decode cX7_priority 23 = .ok (.iload_n 1, 1) ∧ decode cX7_priority 24 = .ok (.invokevirtual 124, 3) ∧ decode cX7_priority 27 = .ok (.astore_n 3, 1) ∧ decode cX7_priority 28 = .ok (.aload_n 3, 1) ∧ decode cX7_priority 29 = .ok (.ifnonnull 6, 3) ∧ decode cX7_priority 32 = .ok (.bipush (-4), 2) ∧ decode cX7_priority 34 = .ok (.ireturn, 1) ∧ decode cX7_priority 35 = .ok (.aload_n 0, 1) ∧ decode cX7_priority 36 = .ok (.getfield 22, 3) ∧ decode cX7_priority 39 = .ok (.aload_n 0, 1) ∧ decode cX7_priority 40 = .ok (.getfield 12, 3) ∧ decode cX7_priority 43 = .ok (.invokevirtual 58, 3) ∧ decode cX7_priority 46 = .ok (.aload_n 3, 1) ∧ decode cX7_priority 47 = .ok (.getfield 152, 3) ∧ decode cX7_priority 50 = .ok (.istore 4, 2) ∧ decode cX7_priority 52 = .ok (.aload_n 3, 1) ∧ decode cX7_priority 53 = .ok (.iload_n 2, 1) ∧ decode cX7_priority 54 = .ok (.putfield 152, 3) ∧ decode cX7_priority 57 = .ok (.iload 4, 2) ∧ decode cX7_priority 59 = .ok (.ireturn, 1) ∧ True := dq_of (l := (0, .iload_n 1, 1) :: (1, .ifCond .lt 13, 3) :: (4, .iload_n 2, 1) :: (5, .iconst 0, 1) :: (6, .bipush 9, 2) :: (8, .invokestatic 44, 3) :: (11, .ifCond .ne 5, 3) :: (14, .iconst (-1), 1) :: (15, .ireturn, 1) :: (16, .aload_n 0, 1) :: (17, .getfield 12, 3) :: (20, .getfield 110, 3) :: (23, .iload_n 1, 1) :: (24, .invokevirtual 124, 3) :: (27, .astore_n 3, 1) :: (28, .aload_n 3, 1) :: (29, .ifnonnull 6, 3) :: (32, .bipush (-4), 2) :: (34, .ireturn, 1) :: (35, .aload_n 0, 1) :: (36, .getfield 22, 3) :: (39, .aload_n 0, 1) :: (40, .getfield 12, 3) :: (43, .invokevirtual 58, 3) :: (46, .aload_n 3, 1) :: (47, .getfield 152, 3) :: (50, .istore 4, 2) :: (52, .aload_n 3, 1) :: (53, .iload_n 2, 1) :: (54, .putfield 152, 3) :: (57, .iload 4, 2) :: (59, .ireturn, 1) :: []) (by decide +kernel)
theorem e_X7_priority_0 : decode cX7_priority 0 = .ok (.iload_n 1, 1) := D_X7_priority_0.1
theorem e_X7_priority_1 : decode cX7_priority 1 = .ok (.ifCond .lt 13, 3) := D_X7_priority_0.2.1
theorem e_X7_priority_4 : decode cX7_priority 4 = .ok (.iload_n 2, 1) := D_X7_priority_0.2.2.1
theorem e_X7_priority_5 : decode cX7_priority 5 = .ok (.iconst 0, 1) := D_X7_priority_0.2.2.2.1
theorem e_X7_priority_6 : decode cX7_priority 6 = .ok (.bipush 9, 2) := D_X7_priority_0.2.2.2.2.1
theorem e_X7_priority_8 : decode cX7_priority 8 = .ok (.invokestatic 44, 3) := D_X7_priority_0.2.2.2.2.2.1
theorem e_X7_priority_11 : decode cX7_priority 11 = .ok (.ifCond .ne 5, 3) := D_X7_priority_0.2.2.2.2.2.2.1
theorem e_X7_priority_14 : decode cX7_priority 14 = .ok (.iconst (-1), 1) := D_X7_priority_0.2.2.2.2.2.2.2.1
theorem e_X7_priority_15 : decode cX7_priority 15 = .ok (.ireturn, 1) := D_X7_priority_0.2.2.2.2.2.2.2.2.1
theorem e_X7_priority_16 : decode cX7_priority 16 = .ok (.aload_n 0, 1) := D_X7_priority_0.2.2.2.2.2.2.2.2.2.1
theorem e_X7_priority_17 : decode cX7_priority 17 = .ok (.getfield 12, 3) := D_X7_priority_0.2.2.2.2.2.2.2.2.2.2.1
theorem e_X7_priority_20 : decode cX7_priority 20 = .ok (.getfield 110, 3) := D_X7_priority_0.2.2.2.2.2.2.2.2.2.2.2.1
theorem e_X7_priority_23 : decode cX7_priority 23 = .ok (.iload_n 1, 1) := D_X7_priority_0.2.2.2.2.2.2.2.2.2.2.2.2.1
theorem e_X7_priority_24 : decode cX7_priority 24 = .ok (.invokevirtual 124, 3) := D_X7_priority_0.2.2.2.2.2.2.2.2.2.2.2.2.2.1
theorem e_X7_priority_27 : decode cX7_priority 27 = .ok (.astore_n 3, 1) := D_X7_priority_0.2.2.2.2.2.2.2.2.2.2.2.2.2.2.1
theorem e_X7_priority_28 : decode cX7_priority 28 = .ok (.aload_n 3, 1) := D_X7_priority_0.2.2.2.2.2.2.2.2.2.2.2.2.2.2.2.1
theorem e_X7_priority_29 : decode cX7_priority 29 = .ok (.ifnonnull 6, 3) := D_X7_priority_0.2.2.2.2.2.2.2.2.2.2.2.2.2.2.2.2.1
theorem e_X7_priority_32 : decode cX7_priority 32 = .ok (.bipush (-4), 2) := D_X7_priority_0.2.2.2.2.2.2.2.2.2.2.2.2.2.2.2.2.2.1
theorem e_X7_priority_34 : decode cX7_priority 34 = .ok (.ireturn, 1) := D_X7_priority_0.2.2.2.2.2.2.2.2.2.2.2.2.2.2.2.2.2.2.1
theorem e_X7_priority_35 : decode cX7_priority 35 = .ok (.aload_n 0, 1) := D_X7_priority_0.2.2.2.2.2.2.2.2.2.2.2.2.2.2.2.2.2.2.2.1
theorem e_X7_priority_36 : decode cX7_priority 36 = .ok (.getfield 22, 3) := D_X7_priority_0.2.2.2.2.2.2.2.2.2.2.2.2.2.2.2.2.2.2.2.2.1
theorem e_X7_priority_39 : decode cX7_priority 39 = .ok (.aload_n 0, 1) := D_X7_priority_0.2.2.2.2.2.2.2.2.2.2.2.2.2.2.2.2.2.2.2.2.2.1
theorem e_X7_priority_40 : decode cX7_priority 40 = .ok (.getfield 12, 3) := D_X7_priority_0.2.2.2.2.2.2.2.2.2.2.2.2.2.2.2.2.2.2.2.2.2.2.1
theorem e_X7_priority_43 : decode cX7_priority 43 = .ok (.invokevirtual 58, 3) := D_X7_priority_0.2.2.2.2.2.2.2.2.2.2.2.2.2.2.2.2.2.2.2.2.2.2.2.1
theorem e_X7_priority_46 : decode cX7_priority 46 = .ok (.aload_n 3, 1) := D_X7_priority_0.2.2.2.2.2.2.2.2.2.2.2.2.2.2.2.2.2.2.2.2.2.2.2.2.1
theorem e_X7_priority_47 : decode cX7_priority 47 = .ok (.getfield 152, 3) := D_X7_priority_0.2.2.2.2.2.2.2.2.2.2.2.2.2.2.2.2.2.2.2.2.2.2.2.2.2.1
theorem e_X7_priority_50 : decode cX7_priority 50 = .ok (.istore 4, 2) := D_X7_priority_0.2.2.2.2.2.2.2.2.2.2.2.2.2.2.2.2.2.2.2.2.2.2.2.2.2.2.1
theorem e_X7_priority_52 : decode cX7_priority 52 = .ok (.aload_n 3, 1) := D_X7_priority_0.2.2.2.2.2.2.2.2.2.2.2.2.2.2.2.2.2.2.2.2.2.2.2.2.2.2.2.1
theorem e_X7_priority_53 : decode cX7_priority 53 = .ok (.iload_n 2, 1) := D_X7_priority_0.2.2.2.2.2.2.2.2.2.2.2.2.2.2.2.2.2.2.2.2.2.2.2.2.2.2.2.2.1
theorem e_X7_priority_54 : decode cX7_priority 54 = .ok (.putfield 152, 3) := D_X7_priority_0.2.2.2.2.2.2.2.2.2.2.2.2.2.2.2.2.2.2.2.2.2.2.2.2.2.2.2.2.2.1
theorem e_X7_priority_57 : decode cX7_priority 57 = .ok (.iload 4, 2) := D_X7_priority_0.2.2.2.2.2.2.2.2.2.2.2.2.2.2.2.2.2.2.2.2.2.2.2.2.2.2.2.2.2.2.1
theorem e_X7_priority_59 : decode cX7_priority 59 = .ok (.ireturn, 1) := D_X7_priority_0.2.2.2.2.2.2.2.2.2.2.2.2.2.2.2.2.2.2.2.2.2.2.2.2.2.2.2.2.2.2.2.1
set_option maxRecDepth 100000 in
theorem D_X7_jobInfo_0 : decode cX7_jobInfo 0 = .ok (.iload_n 1, 1) ∧ decode cX7_jobInfo 1 = .ok (.ifCond .lt 12, 3) ∧ decode cX7_jobInfo 4 = .ok (.iload_n 2, 1) ∧ decode cX7_jobInfo 5 = .ok (.bipush 13, 2) ∧ decode cX7_jobInfo 7 = .ok (.invokestatic 40, 3) ∧ decode cX7_jobInfo 10 = .ok (.ifCond .ne 5, 3) ∧ decode cX7_jobInfo 13 = .ok (.iconst (-1), 1) ∧ decode cX7_jobInfo 14 = .ok (.ireturn, 1) ∧ decode cX7_jobInfo 15 = .ok (.aload_n 0, 1) ∧ decode cX7_jobInfo 16 = .ok (.getfield 12, 3) ∧ decode cX7_jobInfo 19 = .ok (.getfield 110, 3) ∧ decode cX7_jobInfo 22 = .ok (.iload_n 1, 1) ∧ decode cX7_jobInfo 23 = .ok (.invokevirtual 124, 3) ∧ decode cX7_jobInfo 26 = .ok (.astore_n 3, 1) ∧ decode cX7_jobInfo 27 = .ok (.aload_n 3, 1) ∧ decode cX7_jobInfo 28 = .ok (.ifnonnull 8, 3) ∧ decode cX7_jobInfo 31 = .ok (.bipush (-4), 2) ∧ decode cX7_jobInfo 33 = .ok (.goto 8, 3) ∧ decode cX7_jobInfo 36 = .ok (.aload_n 3, 1) ∧ decode cX7_jobInfo 37 = .ok (.iload_n 2, 1) ∧ decode cX7_jobInfo 38 = .ok (.invokevirtual 155, 3) ∧ decode cX7_jobInfo 41 = .ok (.ireturn, 1) ∧ True := dq_of (l := (0, .iload_n 1, 1) :: (1, .ifCond .lt 12, 3) :: (4, .iload_n 2, 1) :: (5, .bipush 13, 2) :: (7, .invokestatic 40, 3) :: (10, .ifCond .ne 5, 3) :: (13, .iconst (-1), 1) :: (14, .ireturn, 1) :: (15, .aload_n 0, 1) :: (16, .getfield 12, 3) :: (19, .getfield 110, 3) :: (22, .iload_n 1, 1) :: (23, .invokevirtual 124, 3) :: (26, .astore_n 3, 1) :: (27, .aload_n 3, 1) :: (28, .ifnonnull 8, 3) :: (31, .bipush (-4), 2) :: (33, .goto 8, 3) :: (36, .aload_n 3, 1) :: (37, .iload_n 2, 1) :: (38, .invokevirtual 155, 3) :: (41, .ireturn, 1) :: []) (by decide +kernel)
theorem e_X7_jobInfo_0 : decode cX7_jobInfo 0 = .ok (.iload_n 1, 1) := D_X7_jobInfo_0.1
theorem e_X7_jobInfo_1 : decode cX7_jobInfo 1 = .ok (.ifCond .lt 12, 3) := D_X7_jobInfo_0.2.1
theorem e_X7_jobInfo_4 : decode cX7_jobInfo 4 = .ok (.iload_n 2, 1) := D_X7_jobInfo_0.2.2.1
theorem e_X7_jobInfo_5 : decode cX7_jobInfo 5 = .ok (.bipush 13, 2) := D_X7_jobInfo_0.2.2.2.1
theorem e_X7_jobInfo_7 : decode cX7_jobInfo 7 = .ok (.invokestatic 40, 3) := D_X7_jobInfo_0.2.2.2.2.1
theorem e_X7_jobInfo_10 : decode cX7_jobInfo 10 = .ok (.ifCond .ne 5, 3) := D_X7_jobInfo_0.2.2.2.2.2.1
theorem e_X7_jobInfo_13 : decode cX7_jobInfo 13 = .ok (.iconst (-1), 1) := D_X7_jobInfo_0.2.2.2.2.2.2.1
theorem e_X7_jobInfo_14 : decode cX7_jobInfo 14 = .ok (.ireturn, 1) := D_X7_jobInfo_0.2.2.2.2.2.2.2.1
theorem e_X7_jobInfo_15 : decode cX7_jobInfo 15 = .ok (.aload_n 0, 1) := D_X7_jobInfo_0.2.2.2.2.2.2.2.2.1
theorem e_X7_jobInfo_16 : decode cX7_jobInfo 16 = .ok (.getfield 12, 3) := D_X7_jobInfo_0.2.2.2.2.2.2.2.2.2.1
theorem e_X7_jobInfo_19 : decode cX7_jobInfo 19 = .ok (.getfield 110, 3) := D_X7_jobInfo_0.2.2.2.2.2.2.2.2.2.2.1
theorem e_X7_jobInfo_22 : decode cX7_jobInfo 22 = .ok (.iload_n 1, 1) := D_X7_jobInfo_0.2.2.2.2.2.2.2.2.2.2.2.1
theorem e_X7_jobInfo_23 : decode cX7_jobInfo 23 = .ok (.invokevirtual 124, 3) := D_X7_jobInfo_0.2.2.2.2.2.2.2.2.2.2.2.2.1
theorem e_X7_jobInfo_26 : decode cX7_jobInfo 26 = .ok (.astore_n 3, 1) := D_X7_jobInfo_0.2.2.2.2.2.2.2.2.2.2.2.2.2.1
theorem e_X7_jobInfo_27 : decode cX7_jobInfo 27 = .ok (.aload_n 3, 1) := D_X7_jobInfo_0.2.2.2.2.2.2.2.2.2.2.2.2.2.2.1
theorem e_X7_jobInfo_28 : decode cX7_jobInfo 28 = .ok (.ifnonnull 8, 3) := D_X7_jobInfo_0.2.2.2.2.2.2.2.2.2.2.2.2.2.2.2.1
theorem e_X7_jobInfo_31 : decode cX7_jobInfo 31 = .ok (.bipush (-4), 2) := D_X7_jobInfo_0.2.2.2.2.2.2.2.2.2.2.2.2.2.2.2.2.1
theorem e_X7_jobInfo_33 : decode cX7_jobInfo 33 = .ok (.goto 8, 3) := D_X7_jobInfo_0.2.2.2.2.2.2.2.2.2.2.2.2.2.2.2.2.2.1
theorem e_X7_jobInfo_36 : decode cX7_jobInfo 36 = .ok (.aload_n 3, 1) := D_X7_jobInfo_0.2.2.2.2.2.2.2.2.2.2.2.2.2.2.2.2.2.2.1
theorem e_X7_jobInfo_37 : decode cX7_jobInfo 37 = .ok (.iload_n 2, 1) := D_X7_jobInfo_0.2.2.2.2.2.2.2.2.2.2.2.2.2.2.2.2.2.2.2.1
theorem e_X7_jobInfo_38 : decode cX7_jobInfo 38 = .ok (.invokevirtual 155, 3) := D_X7_jobInfo_0.2.2.2.2.2.2.2.2.2.2.2.2.2.2.2.2.2.2.2.2.1
theorem e_X7_jobInfo_41 : decode cX7_jobInfo 41 = .ok (.ireturn, 1) := D_X7_jobInfo_0.2.2.2.2.2.2.2.2.2.2.2.2.2.2.2.2.2.2.2.2.2.1
set_option maxRecDepth 100000 in
theorem D_X7_queued_0 : decode cX7_queued 0 = .ok (.iload_n 1, 1) ∧ decode cX7_queued 1 = .ok (.ifCond .ge 5, 3) ∧ decode cX7_queued 4 = .ok (.iconst (-1), 1) ∧ decode cX7_queued 5 = .ok (.ireturn, 1) ∧ decode cX7_queued 6 = .ok (.aload_n 0, 1) ∧ decode cX7_queued 7 = .ok (.getfield 12, 3) ∧ decode cX7_queued 10 = .ok (.getfield 110, 3) ∧ decode cX7_queued 13 = .ok (.iload_n 1, 1) ∧ decode cX7_queued 14 = .ok (.invokevirtual 158, 3) ∧ decode cX7_queued 17 = .ok (.astore_n 2, 1) ∧ decode cX7_queued 18 = .ok (.aload_n 2, 1) ∧ decode cX7_queued 19 = .ok (.ifnonnull 8, 3) ∧ decode cX7_queued 22 = .ok (.bipush (-4), 2) ∧ decode cX7_queued 24 = .ok (.goto 7, 3) ∧ decode cX7_queued 27 = .ok (.aload_n 2, 1) ∧ decode cX7_queued 28 = .ok (.getfield 161, 3) ∧ decode cX7_queued 31 = .ok (.ireturn, 1) ∧ True := dq_of (l := (0, .iload_n 1, 1) :: (1, .ifCond .ge 5, 3) :: (4, .iconst (-1), 1) :: (5, .ireturn, 1) :: (6, .aload_n 0, 1) :: (7, .getfield 12, 3) :: (10, .getfield 110, 3) :: (13, .iload_n 1, 1) :: (14, .invokevirtual 158, 3) :: (17, .astore_n 2, 1) :: (18, .aload_n 2, 1) :: (19, .ifnonnull 8, 3) :: (22, .bipush (-4), 2) :: (24, .goto 7, 3) :: (27, .aload_n 2, 1) :: (28, .getfield 161, 3) :: (31, .ireturn, 1) :: []) (by decide +kernel)
theorem e_X7_queued_0 : decode cX7_queued 0 = .ok (.iload_n 1, 1) := D_X7_queued_0.1
theorem e_X7_queued_1 : decode cX7_queued 1 = .ok (.ifCond .ge 5, 3) := D_X7_queued_0.2.1
theorem e_X7_queued_4 : decode cX7_queued 4 = .ok (.iconst (-1), 1) := D_X7_queued_0.2.2.1
theorem e_X7_queued_5 : decode cX7_queued 5 = .ok (.ireturn, 1) := D_X7_queued_0.2.2.2.1
theorem e_X7_queued_6 : decode cX7_queued 6 = .ok (.aload_n 0, 1) := D_X7_queued_0.2.2.2.2.1
theorem e_X7_queued_7 : decode cX7_queued 7 = .ok (.getfield 12, 3) := D_X7_queued_0.2.2.2.2.2.1
theorem e_X7_queued_10 : decode cX7_queued 10 = .ok (.getfield 110, 3) := D_X7_queued_0.2.2.2.2.2.2.1
theorem e_X7_queued_13 : decode cX7_queued 13 = .ok (.iload_n 1, 1) := D_X7_queued_0.2.2.2.2.2.2.2.1
theorem e_X7_queued_14 : decode cX7_queued 14 = .ok (.invokevirtual 158, 3) := D_X7_queued_0.2.2.2.2.2.2.2.2.1
theorem e_X7_queued_17 : decode cX7_queued 17 = .ok (.astore_n 2, 1) := D_X7_queued_0.2.2.2.2.2.2.2.2.2.1
theorem e_X7_queued_18 : decode cX7_queued 18 = .ok (.aload_n 2, 1) := D_X7_queued_0.2.2.2.2.2.2.2.2.2.2.1
theorem e_X7_queued_19 : decode cX7_queued 19 = .ok (.ifnonnull 8, 3) := D_X7_queued_0.2.2.2.2.2.2.2.2.2.2.2.1
theorem e_X7_queued_22 : decode cX7_queued 22 = .ok (.bipush (-4), 2) := D_X7_queued_0.2.2.2.2.2.2.2.2.2.2.2.2.1
theorem e_X7_queued_24 : decode cX7_queued 24 = .ok (.goto 7, 3) := D_X7_queued_0.2.2.2.2.2.2.2.2.2.2.2.2.2.1
theorem e_X7_queued_27 : decode cX7_queued 27 = .ok (.aload_n 2, 1) := D_X7_queued_0.2.2.2.2.2.2.2.2.2.2.2.2.2.2.1
theorem e_X7_queued_28 : decode cX7_queued 28 = .ok (.getfield 161, 3) := D_X7_queued_0.2.2.2.2.2.2.2.2.2.2.2.2.2.2.2.1
theorem e_X7_queued_31 : decode cX7_queued 31 = .ok (.ireturn, 1) := D_X7_queued_0.2.2.2.2.2.2.2.2.2.2.2.2.2.2.2.2.1
set_option maxRecDepth 100000 in
theorem D_X7_run_0 : decode cX7_run 0 = .ok (.iload_n 1, 1) ∧ decode cX7_run 1 = .ok (.iconst 1, 1) ∧ decode cX7_run 2 = .ok (.sipush 5000, 3) ∧ decode cX7_run 5 = .ok (.invokestatic 44, 3) ∧ decode cX7_run 8 = .ok (.ifCond .ne 5, 3) ∧ decode cX7_run 11 = .ok (.iconst (-1), 1) ∧ decode cX7_run 12 = .ok (.ireturn, 1) ∧ decode cX7_run 13 = .ok (.aload_n 0, 1) ∧ decode cX7_run 14 = .ok (.getfield 12, 3) ∧ decode cX7_run 17 = .ok (.getfield 142, 3) ∧ decode cX7_run 20 = .ok (.getfield 164, 3) ∧ decode cX7_run 23 = .ok (.bipush 8, 2) ∧ decode cX7_run 25 = .ok (.iaload, 1) ∧ decode cX7_run 26 = .ok (.iload_n 1, 1) ∧ decode cX7_run 27 = .ok (.iadd, 1) ∧ decode cX7_run 28 = .ok (.ldc 167, 2) ∧ decode cX7_run 30 = .ok (.if_icmp .le 6, 3) ∧ decode cX7_run 33 = .ok (.bipush (-3), 2) ∧ decode cX7_run 35 = .ok (.ireturn, 1) ∧ decode cX7_run 36 = .ok (.aload_n 0, 1) ∧ decode cX7_run 37 = .ok (.getfield 22, 3) ∧ decode cX7_run 40 = .ok (.aload_n 0, 1) ∧ decode cX7_run 41 = .ok (.getfield 12, 3) ∧ decode cX7_run 44 = .ok (.invokevirtual 58, 3) ∧ decode cX7_run 47 = .ok (.aload_n 0, 1) ∧ decode cX7_run 48 = .ok (.getfield 12, 3) ∧ decode cX7_run 51 = .ok (.getfield 142, 3) ∧ decode cX7_run 54 = .ok (.getfield 164, 3) ∧ decode cX7_run 57 = .ok (.iconst 1, 1) ∧ decode cX7_run 58 = .ok (.iaload, 1) ∧ decode cX7_run 59 = .ok (.istore_n 2, 1) ∧ decode cX7_run 60 = .ok (.aload_n 0, 1) ∧ decode cX7_run 61 = .ok (.getfield 12, 3) ∧ decode cX7_run 64 = .ok (.iload_n 1, 1) ∧ decode cX7_run 65 = .ok (.invokevirtual 168, 3) ∧ decode cX7_run 68 = .ok (.aload_n 0, 1) ∧ decode cX7_run 69 = .ok (.getfield 12, 3) ∧ decode cX7_run 72 = .ok (.getfield 142, 3) ∧ decode cX7_run 75 = .ok (.getfield 164, 3) ∧ decode cX7_run 78 = .ok (.iconst 1, 1) ∧ True := dq_of (l := (0, .iload_n 1, 1) :: (1, .iconst 1, 1) :: (2, .sipush 5000, 3) :: (5, .invokestatic 44, 3) :: (8, .ifCond .ne 5, 3) :: (11, .iconst (-1), 1) :: (12, .ireturn, 1) :: (13, .aload_n 0, 1) :: (14, .getfield 12, 3) :: (17, .getfield 142, 3) :: (20, .getfield 164, 3) :: (23, .bipush 8, 2) :: (25, .iaload, 1) :: (26, .iload_n 1, 1) :: (27, .iadd, 1) :: (28, .ldc 167, 2) :: (30, .if_icmp .le 6, 3) :: (33, .bipush (-3), 2) :: (35, .ireturn, 1) :: (36, .aload_n 0, 1) :: (37, .getfield 22, 3) :: (40, .aload_n 0, 1) :: (41, .getfield 12, 3) :: (44, .invokevirtual 58, 3) :: (47, .aload_n 0, 1) :: (48, .getfield 12, 3) :: (51, .getfield 142, 3) :: (54, .getfield 164, 3) :: (57, .iconst 1, 1) :: (58, .iaload, 1) :: (59, .istore_n 2, 1) :: (60, .aload_n 0, 1) :: (61, .getfield 12, 3) :: (64, .iload_n 1, 1) :: (65, .invokevirtual 168, 3) :: (68, .aload_n 0, 1) :: (69, .getfield 12, 3) :: (72, .getfield 142, 3) :: (75, .getfield 164, 3) :: (78, .iconst 1, 1) :: []) (by decide +kernel)
theorem e_X7_run_0 : decode cX7_run 0 = .ok (.iload_n 1, 1) := D_X7_run_0.1
theorem e_X7_run_1 : decode cX7_run 1 = .ok (.iconst 1, 1) := D_X7_run_0.2.1
theorem e_X7_run_2 : decode cX7_run 2 = .ok (.sipush 5000, 3) := D_X7_run_0.2.2.1
theorem e_X7_run_5 : decode cX7_run 5 = .ok (.invokestatic 44, 3) := D_X7_run_0.2.2.2.1
theorem e_X7_run_8 : decode cX7_run 8 = .ok (.ifCond .ne 5, 3) := D_X7_run_0.2.2.2.2.1
theorem e_X7_run_11 : decode cX7_run 11 = .ok (.iconst (-1), 1) := D_X7_run_0.2.2.2.2.2.1
theorem e_X7_run_12 : decode cX7_run 12 = .ok (.ireturn, 1) := D_X7_run_0.2.2.2.2.2.2.1
theorem e_X7_run_13 : decode cX7_run 13 = .ok (.aload_n 0, 1) := D_X7_run_0.2.2.2.2.2.2.2.1
theorem e_X7_run_14 : decode cX7_run 14 = .ok (.getfield 12, 3) := D_X7_run_0.2.2.2.2.2.2.2.2.1
theorem e_X7_run_17 : decode cX7_run 17 = .ok (.getfield 142, 3) := D_X7_run_0.2.2.2.2.2.2.2.2.2.1
theorem e_X7_run_20 : decode cX7_run 20 = .ok (.getfield 164, 3) := D_X7_run_0.2.2.2.2.2.2.2.2.2.2.1
theorem e_X7_run_23 : decode cX7_run 23 = .ok (.bipush 8, 2) := D_X7_run_0.2.2.2.2.2.2.2.2.2.2.2.1
theorem e_X7_run_25 : decode cX7_run 25 = .ok (.iaload, 1) := D_X7_run_0.2.2.2.2.2.2.2.2.2.2.2.2.1
theorem e_X7_run_26 : decode cX7_run 26 = .ok (.iload_n 1, 1) := D_X7_run_0.2.2.2.2.2.2.2.2.2.2.2.2.2.1
theorem e_X7_run_27 : decode cX7_run 27 = .ok (.iadd, 1) := D_X7_run_0.2.2.2.2.2.2.2.2.2.2.2.2.2.2.1
theorem e_X7_run_28 : decode cX7_run 28 = .ok (.ldc 167, 2) := D_X7_run_0.2.2.2.2.2.2.2.2.2.2.2.2.2.2.2.1
theorem e_X7_run_30 : decode cX7_run 30 = .ok (.if_icmp .le 6, 3) := D_X7_run_0.2.2.2.2.2.2.2.2.2.2.2.2.2.2.2.2.1
theorem e_X7_run_33 : decode cX7_run 33 = .ok (.bipush (-3), 2) := D_X7_run_0.2.2.2.2.2.2.2.2.2.2.2.2.2.2.2.2.2.1
theorem e_X7_run_35 : decode cX7_run 35 = .ok (.ireturn, 1) := D_X7_run_0.2.2.2.2.2.2.2.2.2.2.2.2.2.2.2.2.2.2.1
theorem e_X7_run_36 : decode cX7_run 36 = .ok (.aload_n 0, 1) := D_X7_run_0.2.2.2.2.2.2.2.2.2.2.2.2.2.2.2.2.2.2.2.1
theorem e_X7_run_37 : decode cX7_run 37 = .ok (.getfield 22, 3) := D_X7_run_0.2.2.2.2.2.2.2.2.2.2.2.2.2.2.2.2.2.2.2.2.1
theorem e_X7_run_40 : decode cX7_run 40 = .ok (.aload_n 0, 1) := D_X7_run_0.2.2.2.2.2.2.2.2.2.2.2.2.2.2.2.2.2.2.2.2.2.1
theorem e_X7_run_41 : decode cX7_run 41 = .ok (.getfield 12, 3) := D_X7_run_0.2.2.2.2.2.2.2.2.2.2.2.2.2.2.2.2.2.2.2.2.2.2.1
theorem e_X7_run_44 : decode cX7_run 44 = .ok (.invokevirtual 58, 3) := D_X7_run_0.2.2.2.2.2.2.2.2.2.2.2.2.2.2.2.2.2.2.2.2.2.2.2.1
theorem e_X7_run_47 : decode cX7_run 47 = .ok (.aload_n 0, 1) := D_X7_run_0.2.2.2.2.2.2.2.2.2.2.2.2.2.2.2.2.2.2.2.2.2.2.2.2.1
theorem e_X7_run_48 : decode cX7_run 48 = .ok (.getfield 12, 3) := D_X7_run_0.2.2.2.2.2.2.2.2.2.2.2.2.2.2.2.2.2.2.2.2.2.2.2.2.2.1
theorem e_X7_run_51 : decode cX7_run 51 = .ok (.getfield 142, 3) := D_X7_run_0.2.2.2.2.2.2.2.2.2.2.2.2.2.2.2.2.2.2.2.2.2.2.2.2.2.2.1
theorem e_X7_run_54 : decode cX7_run 54 = .ok (.getfield 164, 3) := D_X7_run_0.2.2.2.2.2.2.2.2.2.2.2.2.2.2.2.2.2.2.2.2.2.2.2.2.2.2.2.1
theorem e_X7_run_57 : decode cX7_run 57 = .ok (.iconst 1, 1) := D_X7_run_0.2.2.2.2.2.2.2.2.2.2.2.2.2.2.2.2.2.2.2.2.2.2.2.2.2.2.2.2.1
theorem e_X7_run_58 : decode cX7_run 58 = .ok (.iaload, 1) := D_X7_run_0.2.2.2.2.2.2.2.2.2.2.2.2.2.2.2.2.2.2.2.2.2.2.2.2.2.2.2.2.2.1
theorem e_X7_run_59 : decode cX7_run 59 = .ok (.istore_n 2, 1) := D_X7_run_0.2.2.2.2.2.2.2.2.2.2.2.2.2.2.2.2.2.2.2.2.2.2.2.2.2.2.2.2.2.2.1
theorem e_X7_run_60 : decode cX7_run 60 = .ok (.aload_n 0, 1) := D_X7_run_0.2.2.2.2.2.2.2.2.2.2.2.2.2.2.2.2.2.2.2.2.2.2.2.2.2.2.2.2.2.2.2.1
theorem e_X7_run_61 : decode cX7_run 61 = .ok (.getfield 12, 3) := D_X7_run_0.2.2.2.2.2.2.2.2.2.2.2.2.2.2.2.2.2.2.2.2.2.2.2.2.2.2.2.2.2.2.2.2.1
theorem e_X7_run_64 : decode cX7_run 64 = .ok (.iload_n 1, 1) := D_X7_run_0.2.2.2.2.2.2.2.2.2.2.2.2.2.2.2.2.2.2.2.2.2.2.2.2.2.2.2.2.2.2.2.2.2.1
theorem e_X7_run_65 : decode cX7_run 65 = .ok (.invokevirtual 168, 3) := D_X7_run_0.2.2.2.2.2.2.2.2.2.2.2.2.2.2.2.2.2.2.2.2.2.2.2.2.2.2.2.2.2.2.2.2.2.2.1
theorem e_X7_run_68 : decode cX7_run 68 = .ok (.aload_n 0, 1) := D_X7_run_0.2.2.2.2.2.2.2.2.2.2.2.2.2.2.2.2.2.2.2.2.2.2.2.2.2.2.2.2.2.2.2.2.2.2.2.1
theorem e_X7_run_69 : decode cX7_run 69 = .ok (.getfield 12, 3) := D_X7_run_0.2.2.2.2.2.2.2.2.2.2.2.2.2.2.2.2.2.2.2.2.2.2.2.2.2.2.2.2.2.2.2.2.2.2.2.2.1
theorem e_X7_run_72 : decode cX7_run 72 = .ok (.getfield 142, 3) := D_X7_run_0.2.2.2.2.2.2.2.2.2.2.2.2.2.2.2.2.2.2.2.2.2.2.2.2.2.2.2.2.2.2.2.2.2.2.2.2.2.1
theorem e_X7_run_75 : decode cX7_run 75 = .ok (.getfield 164, 3) := D_X7_run_0.2.2.2.2.2.2.2.2.2.2.2.2.2.2.2.2.2.2.2.2.2.2.2.2.2.2.2.2.2.2.2.2.2.2.2.2.2.2.1
theorem e_X7_run_78 : decode cX7_run 78 = .ok (.iconst 1, 1) := D_X7_run_0.2.2.2.2.2.2.2.2.2.2.2.2.2.2.2.2.2.2.2.2.2.2.2.2.2.2.2.2.2.2.2.2.2.2.2.2.2.2.2.1
set_option maxRecDepth 100000 in
theorem D_X7_run_1 : decode cX7_run 79 = .ok (.iaload, 1) ∧ decode cX7_run 80 = .ok (.iload_n 2, 1) ∧ decode cX7_run 81 = .ok (.isub, 1) ∧ decode cX7_run 82 = .ok (.ireturn, 1) ∧ True := dq_of (l := (79, .iaload, 1) :: (80, .iload_n 2, 1) :: (81, .isub, 1) :: (82, .ireturn, 1) :: []) (by decide +kernel)
theorem e_X7_run_79 : decode cX7_run 79 = .ok (.iaload, 1) := D_X7_run_1.1
theorem e_X7_run_80 : decode cX7_run 80 = .ok (.iload_n 2, 1) := D_X7_run_1.2.1
theorem e_X7_run_81 : decode cX7_run 81 = .ok (.isub, 1) := D_X7_run_1.2.2.1
theorem e_X7_run_82 : decode cX7_run 82 = .ok (.ireturn, 1) := D_X7_run_1.2.2.2.1
set_option maxRecDepth 100000 in
theorem D_X7_stop_0 : decode cX7_stop 0 = .ok (.aload_n 0, 1) ∧ decode cX7_stop 1 = .ok (.getfield 16, 3) ∧ decode cX7_stop 4 = .ok (.aload_n 0, 1) ∧ decode cX7_stop 5 = .ok (.getfield 12, 3) ∧ decode cX7_stop 8 = .ok (.invokevirtual 172, 3) ∧ decode cX7_stop 11 = .ok (.aload_n 0, 1) ∧ decode cX7_stop 12 = .ok (.getfield 16, 3) ∧ decode cX7_stop 15 = .ok (.invokevirtual 175, 3) ∧ decode cX7_stop 18 = .ok (.ireturn, 1) ∧ True := dq_of (l := (0, .aload_n 0, 1) :: (1, .getfield 16, 3) :: (4, .aload_n 0, 1) :: (5, .getfield 12, 3) :: (8, .invokevirtual 172, 3) :: (11, .aload_n 0, 1) :: (12, .getfield 16, 3) :: (15, .invokevirtual 175, 3) :: (18, .ireturn, 1) :: []) (by decide +kernel)
theorem e_X7_stop_0 : decode cX7_stop 0 = .ok (.aload_n 0, 1) := D_X7_stop_0.1
theorem e_X7_stop_1 : decode cX7_stop 1 = .ok (.getfield 16, 3) := D_X7_stop_0.2.1
theorem e_X7_stop_4 : decode cX7_stop 4 = .ok (.aload_n 0, 1) := D_X7_stop_0.2.2.1
theorem e_X7_stop_5 : decode cX7_stop 5 = .ok (.getfield 12, 3) := D_X7_stop_0.2.2.2.1
theorem e_X7_stop_8 : decode cX7_stop 8 = .ok (.invokevirtual 172, 3) := D_X7_stop_0.2.2.2.2.1
theorem e_X7_stop_11 : decode cX7_stop 11 = .ok (.aload_n 0, 1) := D_X7_stop_0.2.2.2.2.2.1
theorem e_X7_stop_12 : decode cX7_stop 12 = .ok (.getfield 16, 3) := D_X7_stop_0.2.2.2.2.2.2.1
theorem e_X7_stop_15 : decode cX7_stop 15 = .ok (.invokevirtual 175, 3) := D_X7_stop_0.2.2.2.2.2.2.2.1
theorem e_X7_stop_18 : decode cX7_stop 18 = .ok (.ireturn, 1) := D_X7_stop_0.2.2.2.2.2.2.2.2.1
set_option maxRecDepth 100000 in
theorem D_X7_count_0 : decode cX7_count 0 = .ok (.iload_n 1, 1) ∧ decode cX7_count 1 = .ok (.bipush 17, 2) ∧ decode cX7_count 3 = .ok (.invokestatic 40, 3) ∧ decode cX7_count 6 = .ok (.ifCond .ne 5, 3) ∧ decode cX7_count 9 = .ok (.iconst (-1), 1) ∧ decode cX7_count 10 = .ok (.ireturn, 1) ∧ decode cX7_count 11 = .ok (.iload_n 1, 1) ∧ decode cX7_count 12 = .ok (.tableswitch 199 0 16 #[84, 95, 106, 117, 125, 133, 141, 149, 199, 199, 199, 199, 199, 199, 172, 183, 191], 84) ∧ decode cX7_count 96 = .ok (.aload_n 0, 1) ∧ decode cX7_count 97 = .ok (.getfield 12, 3) ∧ decode cX7_count 100 = .ok (.getfield 110, 3) ∧ decode cX7_count 103 = .ok (.getfield 178, 3) ∧ decode cX7_count 106 = .ok (.ireturn, 1) ∧ decode cX7_count 107 = .ok (.aload_n 0, 1) ∧ decode cX7_count 108 = .ok (.getfield 12, 3) ∧ decode cX7_count 111 = .ok (.getfield 110, 3) ∧ decode cX7_count 114 = .ok (.invokevirtual 181, 3) ∧ decode cX7_count 117 = .ok (.ireturn, 1) ∧ decode cX7_count 118 = .ok (.aload_n 0, 1) ∧ decode cX7_count 119 = .ok (.getfield 12, 3) ∧ decode cX7_count 122 = .ok (.getfield 110, 3) ∧ decode cX7_count 125 = .ok (.getfield 184, 3) ∧ decode cX7_count 128 = .ok (.ireturn, 1) ∧ decode cX7_count 129 = .ok (.aload_n 0, 1) ∧ decode cX7_count 130 = .ok (.getfield 12, 3) ∧ decode cX7_count 133 = .ok (.getfield 83, 3) ∧ decode cX7_count 136 = .ok (.ireturn, 1) ∧ decode cX7_count 137 = .ok (.aload_n 0, 1) ∧ decode cX7_count 138 = .ok (.getfield 12, 3) ∧ decode cX7_count 141 = .ok (.getfield 79, 3) ∧ decode cX7_count 144 = .ok (.ireturn, 1) ∧ decode cX7_count 145 = .ok (.aload_n 0, 1) ∧ decode cX7_count 146 = .ok (.getfield 12, 3) ∧ decode cX7_count 149 = .ok (.getfield 187, 3) ∧ decode cX7_count 152 = .ok (.ireturn, 1) ∧ decode cX7_count 153 = .ok (.aload_n 0, 1) ∧ decode cX7_count 154 = .ok (.getfield 12, 3) ∧ decode cX7_count 157 = .ok (.getfield 190, 3) ∧ decode cX7_count 160 = .ok (.ireturn, 1) ∧ decode cX7_count 161 = .ok (.aload_n 0, 1) ∧ True := dq_of (l := (0, .iload_n 1, 1) :: (1, .bipush 17, 2) :: (3, .invokestatic 40, 3) :: (6, .ifCond .ne 5, 3) :: (9, .iconst (-1), 1) :: (10, .ireturn, 1) :: (11, .iload_n 1, 1) :: (12, .tableswitch 199 0 16 #[84, 95, 106, 117, 125, 133, 141, 149, 199, 199, 199, 199, 199, 199, 172, 183, 191], 84) :: (96, .aload_n 0, 1) :: (97, .getfield 12, 3) :: (100, .getfield 110, 3) :: (103, .getfield 178, 3) :: (106, .ireturn, 1) :: (107, .aload_n 0, 1) :: (108, .getfield 12, 3) :: (111, .getfield 110, 3) :: (114, .invokevirtual 181, 3) :: (117, .ireturn, 1) :: (118, .aload_n 0, 1) :: (119, .getfield 12, 3) :: (122, .getfield 110, 3) :: (125, .getfield 184, 3) :: (128, .ireturn, 1) :: (129, .aload_n 0, 1) :: (130, .getfield 12, 3) :: (133, .getfield 83, 3) :: (136, .ireturn, 1) :: (137, .aload_n 0, 1) :: (138, .getfield 12, 3) :: (141, .getfield 79, 3) :: (144, .ireturn, 1) :: (145, .aload_n 0, 1) :: (146, .getfield 12, 3) :: (149, .getfield 187, 3) :: (152, .ireturn, 1) :: (153, .aload_n 0, 1) :: (154, .getfield 12, 3) :: (157, .getfield 190, 3) :: (160, .ireturn, 1) :: (161, .aload_n 0, 1) :: []) (by decide +kernel)
theorem e_X7_count_0 : decode cX7_count 0 = .ok (.iload_n 1, 1) := D_X7_count_0.1
theorem e_X7_count_1 : decode cX7_count 1 = .ok (.bipush 17, 2) := D_X7_count_0.2.1
theorem e_X7_count_3 : decode cX7_count 3 = .ok (.invokestatic 40, 3) := D_X7_count_0.2.2.1
theorem e_X7_count_6 : decode cX7_count 6 = .ok (.ifCond .ne 5, 3) := D_X7_count_0.2.2.2.1
theorem e_X7_count_9 : decode cX7_count 9 = .ok (.iconst (-1), 1) := D_X7_count_0.2.2.2.2.1
theorem e_X7_count_10 : decode cX7_count 10 = .ok (.ireturn, 1) := D_X7_count_0.2.2.2.2.2.1
theorem e_X7_count_11 : decode cX7_count 11 = .ok (.iload_n 1, 1) := D_X7_count_0.2.2.2.2.2.2.1
theorem e_X7_count_12 : decode cX7_count 12 = .ok (.tableswitch 199 0 16 #[84, 95, 106, 117, 125, 133, 141, 149, 199, 199, 199, 199, 199, 199, 172, 183, 191], 84) := D_X7_count_0.2.2.2.2.2.2.2.1
theorem e_X7_count_96 : decode cX7_count 96 = .ok (.aload_n 0, 1) := D_X7_count_0.2.2.2.2.2.2.2.2.1
theorem e_X7_count_97 : decode cX7_count 97 = .ok (.getfield 12, 3) := D_X7_count_0.2.2.2.2.2.2.2.2.2.1
theorem e_X7_count_100 : decode cX7_count 100 = .ok (.getfield 110, 3) := D_X7_count_0.2.2.2.2.2.2.2.2.2.2.1
theorem e_X7_count_103 : decode cX7_count 103 = .ok (.getfield 178, 3) := D_X7_count_0.2.2.2.2.2.2.2.2.2.2.2.1
theorem e_X7_count_106 : decode cX7_count 106 = .ok (.ireturn, 1) := D_X7_count_0.2.2.2.2.2.2.2.2.2.2.2.2.1
theorem e_X7_count_107 : decode cX7_count 107 = .ok (.aload_n 0, 1) := D_X7_count_0.2.2.2.2.2.2.2.2.2.2.2.2.2.1
theorem e_X7_count_108 : decode cX7_count 108 = .ok (.getfield 12, 3) := D_X7_count_0.2.2.2.2.2.2.2.2.2.2.2.2.2.2.1
theorem e_X7_count_111 : decode cX7_count 111 = .ok (.getfield 110, 3) := D_X7_count_0.2.2.2.2.2.2.2.2.2.2.2.2.2.2.2.1
theorem e_X7_count_114 : decode cX7_count 114 = .ok (.invokevirtual 181, 3) := D_X7_count_0.2.2.2.2.2.2.2.2.2.2.2.2.2.2.2.2.1
theorem e_X7_count_117 : decode cX7_count 117 = .ok (.ireturn, 1) := D_X7_count_0.2.2.2.2.2.2.2.2.2.2.2.2.2.2.2.2.2.1
theorem e_X7_count_118 : decode cX7_count 118 = .ok (.aload_n 0, 1) := D_X7_count_0.2.2.2.2.2.2.2.2.2.2.2.2.2.2.2.2.2.2.1
theorem e_X7_count_119 : decode cX7_count 119 = .ok (.getfield 12, 3) := D_X7_count_0.2.2.2.2.2.2.2.2.2.2.2.2.2.2.2.2.2.2.2.1
theorem e_X7_count_122 : decode cX7_count 122 = .ok (.getfield 110, 3) := D_X7_count_0.2.2.2.2.2.2.2.2.2.2.2.2.2.2.2.2.2.2.2.2.1
theorem e_X7_count_125 : decode cX7_count 125 = .ok (.getfield 184, 3) := D_X7_count_0.2.2.2.2.2.2.2.2.2.2.2.2.2.2.2.2.2.2.2.2.2.1
theorem e_X7_count_128 : decode cX7_count 128 = .ok (.ireturn, 1) := D_X7_count_0.2.2.2.2.2.2.2.2.2.2.2.2.2.2.2.2.2.2.2.2.2.2.1
theorem e_X7_count_129 : decode cX7_count 129 = .ok (.aload_n 0, 1) := D_X7_count_0.2.2.2.2.2.2.2.2.2.2.2.2.2.2.2.2.2.2.2.2.2.2.2.1
theorem e_X7_count_130 : decode cX7_count 130 = .ok (.getfield 12, 3) := D_X7_count_0.2.2.2.2.2.2.2.2.2.2.2.2.2.2.2.2.2.2.2.2.2.2.2.2.1
theorem e_X7_count_133 : decode cX7_count 133 = .ok (.getfield 83, 3) := D_X7_count_0.2.2.2.2.2.2.2.2.2.2.2.2.2.2.2.2.2.2.2.2.2.2.2.2.2.1
theorem e_X7_count_136 : decode cX7_count 136 = .ok (.ireturn, 1) := D_X7_count_0.2.2.2.2.2.2.2.2.2.2.2.2.2.2.2.2.2.2.2.2.2.2.2.2.2.2.1
theorem e_X7_count_137 : decode cX7_count 137 = .ok (.aload_n 0, 1) := D_X7_count_0.2.2.2.2.2.2.2.2.2.2.2.2.2.2.2.2.2.2.2.2.2.2.2.2.2.2.2.1
theorem e_X7_count_138 : decode cX7_count 138 = .ok (.getfield 12, 3) := D_X7_count_0.2.2.2.2.2.2.2.2.2.2.2.2.2.2.2.2.2.2.2.2.2.2.2.2.2.2.2.2.1
theorem e_X7_count_141 : decode cX7_count 141 = .ok (.getfield 79, 3) := D_X7_count_0.2.2.2.2.2.2.2.2.2.2.2.2.2.2.2.2.2.2.2.2.2.2.2.2.2.2.2.2.2.1
theorem e_X7_count_144 : decode cX7_count 144 = .ok (.ireturn, 1) := D_X7_count_0.2.2.2.2.2.2.2.2.2.2.2.2.2.2.2.2.2.2.2.2.2.2.2.2.2.2.2.2.2.2.1
theorem e_X7_count_145 : decode cX7_count 145 = .ok (.aload_n 0, 1) := D_X7_count_0.2.2.2.2.2.2.2.2.2.2.2.2.2.2.2.2.2.2.2.2.2.2.2.2.2.2.2.2.2.2.2.1
theorem e_X7_count_146 : decode cX7_count 146 = .ok (.getfield 12, 3) := D_X7_count_0.2.2.2.2.2.2.2.2.2.2.2.2.2.2.2.2.2.2.2.2.2.2.2.2.2.2.2.2.2.2.2.2.1
theorem e_X7_count_149 : decode cX7_count 149 = .ok (.getfield 187, 3) := D_X7_count_0.2.2.2.2.2.2.2.2.2.2.2.2.2.2.2.2.2.2.2.2.2.2.2.2.2.2.2.2.2.2.2.2.2.1
theorem e_X7_count_152 : decode cX7_count 152 = .ok (.ireturn, 1) := D_X7_count_0.2.2.2.2.2.2.2.2.2.2.2.2.2.2.2.2.2.2.2.2.2.2.2.2.2.2.2.2.2.2.2.2.2.2.1
theorem e_X7_count_153 : decode cX7_count 153 = .ok (.aload_n 0, 1) := D_X7_count_0.2.2.2.2.2.2.2.2.2.2.2.2.2.2.2.2.2.2.2.2.2.2.2.2.2.2.2.2.2.2.2.2.2.2.2.1
theorem e_X7_count_154 : decode cX7_count 154 = .ok (.getfield 12, 3) := D_X7_count_0.2.2.2.2.2.2.2.2.2.2.2.2.2.2.2.2.2.2.2.2.2.2.2.2.2.2.2.2.2.2.2.2.2.2.2.2.1
theorem e_X7_count_157 : decode cX7_count 157 = .ok (.getfield 190, 3) := D_X7_count_0.2.2.2.2.2.2.2.2.2.2.2.2.2.2.2.2.2.2.2.2.2.2.2.2.2.2.2.2.2.2.2.2.2.2.2.2.2.1
theorem e_X7_count_160 : decode cX7_count 160 = .ok (.ireturn, 1) := D_X7_count_0.2.2.2.2.2.2.2.2.2.2.2.2.2.2.2.2.2.2.2.2.2.2.2.2.2.2.2.2.2.2.2.2.2.2.2.2.2.2.1
theorem e_X7_count_161 : decode cX7_count 161 = .ok (.aload_n 0, 1) := D_X7_count_0.2.2.2.2.2.2.2.2.2.2.2.2.2.2.2.2.2.2.2.2.2.2.2.2.2.2.2.2.2.2.2.2.2.2.2.2.2.2.2.1
set_option maxRecDepth 100000 in
theorem D_X7_count_1 : decode cX7_count 162 = .ok (.getfield 12, 3) ∧ decode cX7_count 165 = .ok (.getfield 190, 3) ∧ decode cX7_count 168 = .ok (.ifCond .ne 8, 3) ∧ decode cX7_count 171 = .ok (.bipush (-4), 2) ∧ decode cX7_count 173 = .ok (.goto 10, 3) ∧ decode cX7_count 176 = .ok (.aload_n 0, 1) ∧ decode cX7_count 177 = .ok (.getfield 12, 3) ∧ decode cX7_count 180 = .ok (.getfield 193, 3) ∧ decode cX7_count 183 = .ok (.ireturn, 1) ∧ decode cX7_count 184 = .ok (.aload_n 0, 1) ∧ decode cX7_count 185 = .ok (.getfield 12, 3) ∧ decode cX7_count 188 = .ok (.getfield 142, 3) ∧ decode cX7_count 191 = .ok (.getfield 196, 3) ∧ decode cX7_count 194 = .ok (.ireturn, 1) ∧ decode cX7_count 195 = .ok (.aload_n 0, 1) ∧ decode cX7_count 196 = .ok (.getfield 22, 3) ∧ decode cX7_count 199 = .ok (.getfield 199, 3) ∧ decode cX7_count 202 = .ok (.ireturn, 1) ∧ decode cX7_count 203 = .ok (.aload_n 0, 1) ∧ decode cX7_count 204 = .ok (.getfield 29, 3) ∧ decode cX7_count 207 = .ok (.getfield 202, 3) ∧ decode cX7_count 210 = .ok (.ireturn, 1) ∧ decode cX7_count 211 = .ok (.aload_n 0, 1) ∧ decode cX7_count 212 = .ok (.iload_n 1, 1) ∧ decode cX7_count 213 = .ok (.bipush 8, 2) ∧ decode cX7_count 215 = .ok (.isub, 1) ∧ decode cX7_count 216 = .ok (.invokevirtual 205, 3) ∧ decode cX7_count 219 = .ok (.ireturn, 1) ∧ True := dq_of (l := (162, .getfield 12, 3) :: (165, .getfield 190, 3) :: (168, .ifCond .ne 8, 3) :: (171, .bipush (-4), 2) :: (173, .goto 10, 3) :: (176, .aload_n 0, 1) :: (177, .getfield 12, 3) :: (180, .getfield 193, 3) :: (183, .ireturn, 1) :: (184, .aload_n 0, 1) :: (185, .getfield 12, 3) :: (188, .getfield 142, 3) :: (191, .getfield 196, 3) :: (194, .ireturn, 1) :: (195, .aload_n 0, 1) :: (196, .getfield 22, 3) :: (199, .getfield 199, 3) :: (202, .ireturn, 1) :: (203, .aload_n 0, 1) :: (204, .getfield 29, 3) :: (207, .getfield 202, 3) :: (210, .ireturn, 1) :: (211, .aload_n 0, 1) :: (212, .iload_n 1, 1) :: (213, .bipush 8, 2) :: (215, .isub, 1) :: (216, .invokevirtual 205, 3) :: (219, .ireturn, 1) :: []) (by decide +kernel)
theorem e_X7_count_162 : decode cX7_count 162 = .ok (.getfield 12, 3) := D_X7_count_1.1
theorem e_X7_count_165 : decode cX7_count 165 = .ok (.getfield 190, 3) := D_X7_count_1.2.1
theorem e_X7_count_168 : decode cX7_count 168 = .ok (.ifCond .ne 8, 3) := D_X7_count_1.2.2.1
theorem e_X7_count_171 : decode cX7_count 171 = .ok (.bipush (-4), 2) := D_X7_count_1.2.2.2.1
theorem e_X7_count_173 : decode cX7_count 173 = .ok (.goto 10, 3) := D_X7_count_1.2.2.2.2.1
theorem e_X7_count_176 : decode cX7_count 176 = .ok (.aload_n 0, 1) := D_X7_count_1.2.2.2.2.2.1
theorem e_X7_count_177 : decode cX7_count 177 = .ok (.getfield 12, 3) := D_X7_count_1.2.2.2.2.2.2.1
theorem e_X7_count_180 : decode cX7_count 180 = .ok (.getfield 193, 3) := D_X7_count_1.2.2.2.2.2.2.2.1
theorem e_X7_count_183 : decode cX7_count 183 = .ok (.ireturn, 1) := D_X7_count_1.2.2.2.2.2.2.2.2.1
theorem e_X7_count_184 : decode cX7_count 184 = .ok (.aload_n 0, 1) := D_X7_count_1.2.2.2.2.2.2.2.2.2.1
theorem e_X7_count_185 : decode cX7_count 185 = .ok (.getfield 12, 3) := D_X7_count_1.2.2.2.2.2.2.2.2.2.2.1
theorem e_X7_count_188 : decode cX7_count 188 = .ok (.getfield 142, 3) := D_X7_count_1.2.2.2.2.2.2.2.2.2.2.2.1
theorem e_X7_count_191 : decode cX7_count 191 = .ok (.getfield 196, 3) := D_X7_count_1.2.2.2.2.2.2.2.2.2.2.2.2.1
theorem e_X7_count_194 : decode cX7_count 194 = .ok (.ireturn, 1) := D_X7_count_1.2.2.2.2.2.2.2.2.2.2.2.2.2.1
theorem e_X7_count_195 : decode cX7_count 195 = .ok (.aload_n 0, 1) := D_X7_count_1.2.2.2.2.2.2.2.2.2.2.2.2.2.2.1
theorem e_X7_count_196 : decode cX7_count 196 = .ok (.getfield 22, 3) := D_X7_count_1.2.2.2.2.2.2.2.2.2.2.2.2.2.2.2.1
theorem e_X7_count_199 : decode cX7_count 199 = .ok (.getfield 199, 3) := D_X7_count_1.2.2.2.2.2.2.2.2.2.2.2.2.2.2.2.2.1
theorem e_X7_count_202 : decode cX7_count 202 = .ok (.ireturn, 1) := D_X7_count_1.2.2.2.2.2.2.2.2.2.2.2.2.2.2.2.2.2.1
theorem e_X7_count_203 : decode cX7_count 203 = .ok (.aload_n 0, 1) := D_X7_count_1.2.2.2.2.2.2.2.2.2.2.2.2.2.2.2.2.2.2.1
theorem e_X7_count_204 : decode cX7_count 204 = .ok (.getfield 29, 3) := D_X7_count_1.2.2.2.2.2.2.2.2.2.2.2.2.2.2.2.2.2.2.2.1
theorem e_X7_count_207 : decode cX7_count 207 = .ok (.getfield 202, 3) := D_X7_count_1.2.2.2.2.2.2.2.2.2.2.2.2.2.2.2.2.2.2.2.2.1
theorem e_X7_count_210 : decode cX7_count 210 = .ok (.ireturn, 1) := D_X7_count_1.2.2.2.2.2.2.2.2.2.2.2.2.2.2.2.2.2.2.2.2.2.1
theorem e_X7_count_211 : decode cX7_count 211 = .ok (.aload_n 0, 1) := D_X7_count_1.2.2.2.2.2.2.2.2.2.2.2.2.2.2.2.2.2.2.2.2.2.2.1
theorem e_X7_count_212 : decode cX7_count 212 = .ok (.iload_n 1, 1) := D_X7_count_1.2.2.2.2.2.2.2.2.2.2.2.2.2.2.2.2.2.2.2.2.2.2.2.1
theorem e_X7_count_213 : decode cX7_count 213 = .ok (.bipush 8, 2) := D_X7_count_1.2.2.2.2.2.2.2.2.2.2.2.2.2.2.2.2.2.2.2.2.2.2.2.2.1
theorem e_X7_count_215 : decode cX7_count 215 = .ok (.isub, 1) := D_X7_count_1.2.2.2.2.2.2.2.2.2.2.2.2.2.2.2.2.2.2.2.2.2.2.2.2.2.1
theorem e_X7_count_216 : decode cX7_count 216 = .ok (.invokevirtual 205, 3) := D_X7_count_1.2.2.2.2.2.2.2.2.2.2.2.2.2.2.2.2.2.2.2.2.2.2.2.2.2.2.1
theorem e_X7_count_219 : decode cX7_count 219 = .ok (.ireturn, 1) := D_X7_count_1.2.2.2.2.2.2.2.2.2.2.2.2.2.2.2.2.2.2.2.2.2.2.2.2.2.2.2.1
set_option maxRecDepth 100000 in
theorem D_X7_account_0 : decode cX7_account 0 = .ok (.iload_n 1, 1) ∧ decode cX7_account 1 = .ok (.bipush 9, 2) ∧ decode cX7_account 3 = .ok (.invokestatic 40, 3) ∧ decode cX7_account 6 = .ok (.ifCond .eq 18, 3) ∧ decode cX7_account 9 = .ok (.aload_n 0, 1) ∧ decode cX7_account 10 = .ok (.getfield 12, 3) ∧ decode cX7_account 13 = .ok (.getfield 142, 3) ∧ decode cX7_account 16 = .ok (.getfield 164, 3) ∧ decode cX7_account 19 = .ok (.iload_n 1, 1) ∧ decode cX7_account 20 = .ok (.iaload, 1) ∧ decode cX7_account 21 = .ok (.goto 4, 3) ∧ decode cX7_account 24 = .ok (.iconst (-1), 1) ∧ decode cX7_account 25 = .ok (.ireturn, 1) ∧ True := dq_of (l := (0, .iload_n 1, 1) :: (1, .bipush 9, 2) :: (3, .invokestatic 40, 3) :: (6, .ifCond .eq 18, 3) :: (9, .aload_n 0, 1) :: (10, .getfield 12, 3) :: (13, .getfield 142, 3) :: (16, .getfield 164, 3) :: (19, .iload_n 1, 1) :: (20, .iaload, 1) :: (21, .goto 4, 3) :: (24, .iconst (-1), 1) :: (25, .ireturn, 1) :: []) (by decide +kernel)
theorem e_X7_account_0 : decode cX7_account 0 = .ok (.iload_n 1, 1) := D_X7_account_0.1
theorem e_X7_account_1 : decode cX7_account 1 = .ok (.bipush 9, 2) := D_X7_account_0.2.1
theorem e_X7_account_3 : decode cX7_account 3 = .ok (.invokestatic 40, 3) := D_X7_account_0.2.2.1
theorem e_X7_account_6 : decode cX7_account 6 = .ok (.ifCond .eq 18, 3) := D_X7_account_0.2.2.2.1
theorem e_X7_account_9 : decode cX7_account 9 = .ok (.aload_n 0, 1) := D_X7_account_0.2.2.2.2.1
theorem e_X7_account_10 : decode cX7_account 10 = .ok (.getfield 12, 3) := D_X7_account_0.2.2.2.2.2.1
theorem e_X7_account_13 : decode cX7_account 13 = .ok (.getfield 142, 3) := D_X7_account_0.2.2.2.2.2.2.1
theorem e_X7_account_16 : decode cX7_account 16 = .ok (.getfield 164, 3) := D_X7_account_0.2.2.2.2.2.2.2.1
theorem e_X7_account_19 : decode cX7_account 19 = .ok (.iload_n 1, 1) := D_X7_account_0.2.2.2.2.2.2.2.2.1
theorem e_X7_account_20 : decode cX7_account 20 = .ok (.iaload, 1) := D_X7_account_0.2.2.2.2.2.2.2.2.2.1
theorem e_X7_account_21 : decode cX7_account 21 = .ok (.goto 4, 3) := D_X7_account_0.2.2.2.2.2.2.2.2.2.2.1
theorem e_X7_account_24 : decode cX7_account 24 = .ok (.iconst (-1), 1) := D_X7_account_0.2.2.2.2.2.2.2.2.2.2.2.1
theorem e_X7_account_25 : decode cX7_account 25 = .ok (.ireturn, 1) := D_X7_account_0.2.2.2.2.2.2.2.2.2.2.2.2.1
set_option maxRecDepth 100000 in
theorem D_X7_paper_0 : decode cX7_paper 0 = .ok (.iload_n 1, 1) ∧ decode cX7_paper 1 = .ok (.ifCond .lt 12, 3) ∧ decode cX7_paper 4 = .ok (.iload_n 2, 1) ∧ decode cX7_paper 5 = .ok (.iconst 0, 1) ∧ decode cX7_paper 6 = .ok (.iconst 2, 1) ∧ decode cX7_paper 7 = .ok (.invokestatic 44, 3) ∧ decode cX7_paper 10 = .ok (.ifCond .ne 5, 3) ∧ decode cX7_paper 13 = .ok (.iconst (-1), 1) ∧ decode cX7_paper 14 = .ok (.ireturn, 1) ∧ decode cX7_paper 15 = .ok (.aload_n 0, 1) ∧ decode cX7_paper 16 = .ok (.getfield 12, 3) ∧ decode cX7_paper 19 = .ok (.getfield 142, 3) ∧ decode cX7_paper 22 = .ok (.astore_n 3, 1) ∧ decode cX7_paper 23 = .ok (.iload_n 1, 1) ∧ decode cX7_paper 24 = .ok (.aload_n 3, 1) ∧ decode cX7_paper 25 = .ok (.getfield 196, 3) ∧ decode cX7_paper 28 = .ok (.if_icmp .ge 9, 3) ∧ decode cX7_paper 31 = .ok (.iload_n 1, 1) ∧ decode cX7_paper 32 = .ok (.bipush 16, 2) ∧ decode cX7_paper 34 = .ok (.if_icmp .lt 6, 3) ∧ decode cX7_paper 37 = .ok (.bipush (-4), 2) ∧ decode cX7_paper 39 = .ok (.ireturn, 1) ∧ decode cX7_paper 40 = .ok (.iload_n 2, 1) ∧ decode cX7_paper 41 = .ok (.lookupswitch 41 #[(0, 27), (1, 34)], 27) ∧ decode cX7_paper 68 = .ok (.aload_n 3, 1) ∧ decode cX7_paper 69 = .ok (.getfield 208, 3) ∧ decode cX7_paper 72 = .ok (.iload_n 1, 1) ∧ decode cX7_paper 73 = .ok (.iaload, 1) ∧ decode cX7_paper 74 = .ok (.ireturn, 1) ∧ decode cX7_paper 75 = .ok (.aload_n 3, 1) ∧ decode cX7_paper 76 = .ok (.getfield 211, 3) ∧ decode cX7_paper 79 = .ok (.iload_n 1, 1) ∧ decode cX7_paper 80 = .ok (.iaload, 1) ∧ decode cX7_paper 81 = .ok (.ireturn, 1) ∧ decode cX7_paper 82 = .ok (.aload_n 3, 1) ∧ decode cX7_paper 83 = .ok (.getfield 214, 3) ∧ decode cX7_paper 86 = .ok (.iload_n 1, 1) ∧ decode cX7_paper 87 = .ok (.iaload, 1) ∧ decode cX7_paper 88 = .ok (.ireturn, 1) ∧ True := dq_of (l := (0, .iload_n 1, 1) :: (1, .ifCond .lt 12, 3) :: (4, .iload_n 2, 1) :: (5, .iconst 0, 1) :: (6, .iconst 2, 1) :: (7, .invokestatic 44, 3) :: (10, .ifCond .ne 5, 3) :: (13, .iconst (-1), 1) :: (14, .ireturn, 1) :: (15, .aload_n 0, 1) :: (16, .getfield 12, 3) :: (19, .getfield 142, 3) :: (22, .astore_n 3, 1) :: (23, .iload_n 1, 1) :: (24, .aload_n 3, 1) :: (25, .getfield 196, 3) :: (28, .if_icmp .ge 9, 3) :: (31, .iload_n 1, 1) :: (32, .bipush 16, 2) :: (34, .if_icmp .lt 6, 3) :: (37, .bipush (-4), 2) :: (39, .ireturn, 1) :: (40, .iload_n 2, 1) :: (41, .lookupswitch 41 #[(0, 27), (1, 34)], 27) :: (68, .aload_n 3, 1) :: (69, .getfield 208, 3) :: (72, .iload_n 1, 1) :: (73, .iaload, 1) :: (74, .ireturn, 1) :: (75, .aload_n 3, 1) :: (76, .getfield 211, 3) :: (79, .iload_n 1, 1) :: (80, .iaload, 1) :: (81, .ireturn, 1) :: (82, .aload_n 3, 1) :: (83, .getfield 214, 3) :: (86, .iload_n 1, 1) :: (87, .iaload, 1) :: (88, .ireturn, 1) :: []) (by decide +kernel)
theorem e_X7_paper_0 : decode cX7_paper 0 = .ok (.iload_n 1, 1) := D_X7_paper_0.1
theorem e_X7_paper_1 : decode cX7_paper 1 = .ok (.ifCond .lt 12, 3) := D_X7_paper_0.2.1
theorem e_X7_paper_4 : decode cX7_paper 4 = .ok (.iload_n 2, 1) := D_X7_paper_0.2.2.1
theorem e_X7_paper_5 : decode cX7_paper 5 = .ok (.iconst 0, 1) := D_X7_paper_0.2.2.2.1
theorem e_X7_paper_6 : decode cX7_paper 6 = .ok (.iconst 2, 1) := D_X7_paper_0.2.2.2.2.1
theorem e_X7_paper_7 : decode cX7_paper 7 = .ok (.invokestatic 44, 3) := D_X7_paper_0.2.2.2.2.2.1
theorem e_X7_paper_10 : decode cX7_paper 10 = .ok (.ifCond .ne 5, 3) := D_X7_paper_0.2.2.2.2.2.2.1
theorem e_X7_paper_13 : decode cX7_paper 13 = .ok (.iconst (-1), 1) := D_X7_paper_0.2.2.2.2.2.2.2.1
theorem e_X7_paper_14 : decode cX7_paper 14 = .ok (.ireturn, 1) := D_X7_paper_0.2.2.2.2.2.2.2.2.1
theorem e_X7_paper_15 : decode cX7_paper 15 = .ok (.aload_n 0, 1) := D_X7_paper_0.2.2.2.2.2.2.2.2.2.1
theorem e_X7_paper_16 : decode cX7_paper 16 = .ok (.getfield 12, 3) := D_X7_paper_0.2.2.2.2.2.2.2.2.2.2.1
theorem e_X7_paper_19 : decode cX7_paper 19 = .ok (.getfield 142, 3) := D_X7_paper_0.2.2.2.2.2.2.2.2.2.2.2.1
theorem e_X7_paper_22 : decode cX7_paper 22 = .ok (.astore_n 3, 1) := D_X7_paper_0.2.2.2.2.2.2.2.2.2.2.2.2.1
theorem e_X7_paper_23 : decode cX7_paper 23 = .ok (.iload_n 1, 1) := D_X7_paper_0.2.2.2.2.2.2.2.2.2.2.2.2.2.1
theorem e_X7_paper_24 : decode cX7_paper 24 = .ok (.aload_n 3, 1) := D_X7_paper_0.2.2.2.2.2.2.2.2.2.2.2.2.2.2.1
theorem e_X7_paper_25 : decode cX7_paper 25 = .ok (.getfield 196, 3) := D_X7_paper_0.2.2.2.2.2.2.2.2.2.2.2.2.2.2.2.1
theorem e_X7_paper_28 : decode cX7_paper 28 = .ok (.if_icmp .ge 9, 3) := D_X7_paper_0.2.2.2.2.2.2.2.2.2.2.2.2.2.2.2.2.1
theorem e_X7_paper_31 : decode cX7_paper 31 = .ok (.iload_n 1, 1) := D_X7_paper_0.2.2.2.2.2.2.2.2.2.2.2.2.2.2.2.2.2.1
theorem e_X7_paper_32 : decode cX7_paper 32 = .ok (.bipush 16, 2) := D_X7_paper_0.2.2.2.2.2.2.2.2.2.2.2.2.2.2.2.2.2.2.1
theorem e_X7_paper_34 : decode cX7_paper 34 = .ok (.if_icmp .lt 6, 3) := D_X7_paper_0.2.2.2.2.2.2.2.2.2.2.2.2.2.2.2.2.2.2.2.1
theorem e_X7_paper_37 : decode cX7_paper 37 = .ok (.bipush (-4), 2) := D_X7_paper_0.2.2.2.2.2.2.2.2.2.2.2.2.2.2.2.2.2.2.2.2.1
theorem e_X7_paper_39 : decode cX7_paper 39 = .ok (.ireturn, 1) := D_X7_paper_0.2.2.2.2.2.2.2.2.2.2.2.2.2.2.2.2.2.2.2.2.2.1
theorem e_X7_paper_40 : decode cX7_paper 40 = .ok (.iload_n 2, 1) := D_X7_paper_0.2.2.2.2.2.2.2.2.2.2.2.2.2.2.2.2.2.2.2.2.2.2.1
theorem e_X7_paper_41 : decode cX7_paper 41 = .ok (.lookupswitch 41 #[(0, 27), (1, 34)], 27) := D_X7_paper_0.2.2.2.2.2.2.2.2.2.2.2.2.2.2.2.2.2.2.2.2.2.2.2.1
theorem e_X7_paper_68 : decode cX7_paper 68 = .ok (.aload_n 3, 1) := D_X7_paper_0.2.2.2.2.2.2.2.2.2.2.2.2.2.2.2.2.2.2.2.2.2.2.2.2.1
theorem e_X7_paper_69 : decode cX7_paper 69 = .ok (.getfield 208, 3) := D_X7_paper_0.2.2.2.2.2.2.2.2.2.2.2.2.2.2.2.2.2.2.2.2.2.2.2.2.2.1
theorem e_X7_paper_72 : decode cX7_paper 72 = .ok (.iload_n 1, 1) := D_X7_paper_0.2.2.2.2.2.2.2.2.2.2.2.2.2.2.2.2.2.2.2.2.2.2.2.2.2.2.1
theorem e_X7_paper_73 : decode cX7_paper 73 = .ok (.iaload, 1) := D_X7_paper_0.2.2.2.2.2.2.2.2.2.2.2.2.2.2.2.2.2.2.2.2.2.2.2.2.2.2.2.1
theorem e_X7_paper_74 : decode cX7_paper 74 = .ok (.ireturn, 1) := D_X7_paper_0.2.2.2.2.2.2.2.2.2.2.2.2.2.2.2.2.2.2.2.2.2.2.2.2.2.2.2.2.1
theorem e_X7_paper_75 : decode cX7_paper 75 = .ok (.aload_n 3, 1) := D_X7_paper_0.2.2.2.2.2.2.2.2.2.2.2.2.2.2.2.2.2.2.2.2.2.2.2.2.2.2.2.2.2.1
theorem e_X7_paper_76 : decode cX7_paper 76 = .ok (.getfield 211, 3) := D_X7_paper_0.2.2.2.2.2.2.2.2.2.2.2.2.2.2.2.2.2.2.2.2.2.2.2.2.2.2.2.2.2.2.1
theorem e_X7_paper_79 : decode cX7_paper 79 = .ok (.iload_n 1, 1) := D_X7_paper_0.2.2.2.2.2.2.2.2.2.2.2.2.2.2.2.2.2.2.2.2.2.2.2.2.2.2.2.2.2.2.2.1
theorem e_X7_paper_80 : decode cX7_paper 80 = .ok (.iaload, 1) := D_X7_paper_0.2.2.2.2.2.2.2.2.2.2.2.2.2.2.2.2.2.2.2.2.2.2.2.2.2.2.2.2.2.2.2.2.1
theorem e_X7_paper_81 : decode cX7_paper 81 = .ok (.ireturn, 1) := D_X7_paper_0.2.2.2.2.2.2.2.2.2.2.2.2.2.2.2.2.2.2.2.2.2.2.2.2.2.2.2.2.2.2.2.2.2.1
theorem e_X7_paper_82 : decode cX7_paper 82 = .ok (.aload_n 3, 1) := D_X7_paper_0.2.2.2.2.2.2.2.2.2.2.2.2.2.2.2.2.2.2.2.2.2.2.2.2.2.2.2.2.2.2.2.2.2.2.1
theorem e_X7_paper_83 : decode cX7_paper 83 = .ok (.getfield 214, 3) := D_X7_paper_0.2.2.2.2.2.2.2.2.2.2.2.2.2.2.2.2.2.2.2.2.2.2.2.2.2.2.2.2.2.2.2.2.2.2.2.1
theorem e_X7_paper_86 : decode cX7_paper 86 = .ok (.iload_n 1, 1) := D_X7_paper_0.2.2.2.2.2.2.2.2.2.2.2.2.2.2.2.2.2.2.2.2.2.2.2.2.2.2.2.2.2.2.2.2.2.2.2.2.1
theorem e_X7_paper_87 : decode cX7_paper 87 = .ok (.iaload, 1) := D_X7_paper_0.2.2.2.2.2.2.2.2.2.2.2.2.2.2.2.2.2.2.2.2.2.2.2.2.2.2.2.2.2.2.2.2.2.2.2.2.2.1
theorem e_X7_paper_88 : decode cX7_paper 88 = .ok (.ireturn, 1) := D_X7_paper_0.2.2.2.2.2.2.2.2.2.2.2.2.2.2.2.2.2.2.2.2.2.2.2.2.2.2.2.2.2.2.2.2.2.2.2.2.2.2.1
set_option maxRecDepth 100000 in
theorem D_X7_lacking_0 : decode cX7_lacking 0 = .ok (.iload_n 1, 1) ∧ decode cX7_lacking 1 = .ok (.iload_n 2, 1) ∧ decode cX7_lacking 2 = .ok (.invokestatic 62, 3) ∧ decode cX7_lacking 5 = .ok (.ifCond .eq 15, 3) ∧ decode cX7_lacking 8 = .ok (.aload_n 0, 1) ∧ decode cX7_lacking 9 = .ok (.getfield 12, 3) ∧ decode cX7_lacking 12 = .ok (.iload_n 1, 1) ∧ decode cX7_lacking 13 = .ok (.iload_n 2, 1) ∧ decode cX7_lacking 14 = .ok (.invokevirtual 217, 3) ∧ decode cX7_lacking 17 = .ok (.goto 4, 3) ∧ decode cX7_lacking 20 = .ok (.iconst (-1), 1) ∧ decode cX7_lacking 21 = .ok (.ireturn, 1) ∧ True := dq_of (l := (0, .iload_n 1, 1) :: (1, .iload_n 2, 1) :: (2, .invokestatic 62, 3) :: (5, .ifCond .eq 15, 3) :: (8, .aload_n 0, 1) :: (9, .getfield 12, 3) :: (12, .iload_n 1, 1) :: (13, .iload_n 2, 1) :: (14, .invokevirtual 217, 3) :: (17, .goto 4, 3) :: (20, .iconst (-1), 1) :: (21, .ireturn, 1) :: []) (by decide +kernel)
theorem e_X7_lacking_0 : decode cX7_lacking 0 = .ok (.iload_n 1, 1) := D_X7_lacking_0.1
theorem e_X7_lacking_1 : decode cX7_lacking 1 = .ok (.iload_n 2, 1) := D_X7_lacking_0.2.1
theorem e_X7_lacking_2 : decode cX7_lacking 2 = .ok (.invokestatic 62, 3) := D_X7_lacking_0.2.2.1
theorem e_X7_lacking_5 : decode cX7_lacking 5 = .ok (.ifCond .eq 15, 3) := D_X7_lacking_0.2.2.2.1
theorem e_X7_lacking_8 : decode cX7_lacking 8 = .ok (.aload_n 0, 1) := D_X7_lacking_0.2.2.2.2.1
theorem e_X7_lacking_9 : decode cX7_lacking 9 = .ok (.getfield 12, 3) := D_X7_lacking_0.2.2.2.2.2.1
theorem e_X7_lacking_12 : decode cX7_lacking 12 = .ok (.iload_n 1, 1) := D_X7_lacking_0.2.2.2.2.2.2.1
theorem e_X7_lacking_13 : decode cX7_lacking 13 = .ok (.iload_n 2, 1) := D_X7_lacking_0.2.2.2.2.2.2.2.1
theorem e_X7_lacking_14 : decode cX7_lacking 14 = .ok (.invokevirtual 217, 3) := D_X7_lacking_0.2.2.2.2.2.2.2.2.1
theorem e_X7_lacking_17 : decode cX7_lacking 17 = .ok (.goto 4, 3) := D_X7_lacking_0.2.2.2.2.2.2.2.2.2.1
theorem e_X7_lacking_20 : decode cX7_lacking 20 = .ok (.iconst (-1), 1) := D_X7_lacking_0.2.2.2.2.2.2.2.2.2.2.1
theorem e_X7_lacking_21 : decode cX7_lacking 21 = .ok (.ireturn, 1) := D_X7_lacking_0.2.2.2.2.2.2.2.2.2.2.2.1
set_option maxRecDepth 100000 in
theorem D_X7_ticksTo_0 : decode cX7_ticksTo 0 = .ok (.iload_n 1, 1) ∧ decode cX7_ticksTo 1 = .ok (.ifCond .ge 5, 3) ∧ decode cX7_ticksTo 4 = .ok (.iconst (-1), 1) ∧ decode cX7_ticksTo 5 = .ok (.ireturn, 1) ∧ decode cX7_ticksTo 6 = .ok (.aload_n 0, 1) ∧ decode cX7_ticksTo 7 = .ok (.getfield 12, 3) ∧ decode cX7_ticksTo 10 = .ok (.getfield 110, 3) ∧ decode cX7_ticksTo 13 = .ok (.iload_n 1, 1) ∧ decode cX7_ticksTo 14 = .ok (.invokevirtual 124, 3) ∧ decode cX7_ticksTo 17 = .ok (.ifnonnull 6, 3) ∧ decode cX7_ticksTo 20 = .ok (.bipush (-4), 2) ∧ decode cX7_ticksTo 22 = .ok (.ireturn, 1) ∧ decode cX7_ticksTo 23 = .ok (.aload_n 0, 1) ∧ decode cX7_ticksTo 24 = .ok (.getfield 16, 3) ∧ decode cX7_ticksTo 27 = .ok (.aload_n 0, 1) ∧ decode cX7_ticksTo 28 = .ok (.getfield 12, 3) ∧ decode cX7_ticksTo 31 = .ok (.invokevirtual 172, 3) ∧ decode cX7_ticksTo 34 = .ok (.aload_n 0, 1) ∧ decode cX7_ticksTo 35 = .ok (.getfield 16, 3) ∧ decode cX7_ticksTo 38 = .ok (.iload_n 1, 1) ∧ decode cX7_ticksTo 39 = .ok (.invokevirtual 220, 3) ∧ decode cX7_ticksTo 42 = .ok (.ireturn, 1) ∧ True := dq_of (l := (0, .iload_n 1, 1) :: (1, .ifCond .ge 5, 3) :: (4, .iconst (-1), 1) :: (5, .ireturn, 1) :: (6, .aload_n 0, 1) :: (7, .getfield 12, 3) :: (10, .getfield 110, 3) :: (13, .iload_n 1, 1) :: (14, .invokevirtual 124, 3) :: (17, .ifnonnull 6, 3) :: (20, .bipush (-4), 2) :: (22, .ireturn, 1) :: (23, .aload_n 0, 1) :: (24, .getfield 16, 3) :: (27, .aload_n 0, 1) :: (28, .getfield 12, 3) :: (31, .invokevirtual 172, 3) :: (34, .aload_n 0, 1) :: (35, .getfield 16, 3) :: (38, .iload_n 1, 1) :: (39, .invokevirtual 220, 3) :: (42, .ireturn, 1) :: []) (by decide +kernel)
theorem e_X7_ticksTo_0 : decode cX7_ticksTo 0 = .ok (.iload_n 1, 1) := D_X7_ticksTo_0.1
theorem e_X7_ticksTo_1 : decode cX7_ticksTo 1 = .ok (.ifCond .ge 5, 3) := D_X7_ticksTo_0.2.1
theorem e_X7_ticksTo_4 : decode cX7_ticksTo 4 = .ok (.iconst (-1), 1) := D_X7_ticksTo_0.2.2.1
theorem e_X7_ticksTo_5 : decode cX7_ticksTo 5 = .ok (.ireturn, 1) := D_X7_ticksTo_0.2.2.2.1
theorem e_X7_ticksTo_6 : decode cX7_ticksTo 6 = .ok (.aload_n 0, 1) := D_X7_ticksTo_0.2.2.2.2.1
theorem e_X7_ticksTo_7 : decode cX7_ticksTo 7 = .ok (.getfield 12, 3) := D_X7_ticksTo_0.2.2.2.2.2.1
theorem e_X7_ticksTo_10 : decode cX7_ticksTo 10 = .ok (.getfield 110, 3) := D_X7_ticksTo_0.2.2.2.2.2.2.1
theorem e_X7_ticksTo_13 : decode cX7_ticksTo 13 = .ok (.iload_n 1, 1) := D_X7_ticksTo_0.2.2.2.2.2.2.2.1
theorem e_X7_ticksTo_14 : decode cX7_ticksTo 14 = .ok (.invokevirtual 124, 3) := D_X7_ticksTo_0.2.2.2.2.2.2.2.2.1
theorem e_X7_ticksTo_17 : decode cX7_ticksTo 17 = .ok (.ifnonnull 6, 3) := D_X7_ticksTo_0.2.2.2.2.2.2.2.2.2.1
theorem e_X7_ticksTo_20 : decode cX7_ticksTo 20 = .ok (.bipush (-4), 2) := D_X7_ticksTo_0.2.2.2.2.2.2.2.2.2.2.1
theorem e_X7_ticksTo_22 : decode cX7_ticksTo 22 = .ok (.ireturn, 1) := D_X7_ticksTo_0.2.2.2.2.2.2.2.2.2.2.2.1
theorem e_X7_ticksTo_23 : decode cX7_ticksTo 23 = .ok (.aload_n 0, 1) := D_X7_ticksTo_0.2.2.2.2.2.2.2.2.2.2.2.2.1
theorem e_X7_ticksTo_24 : decode cX7_ticksTo 24 = .ok (.getfield 16, 3) := D_X7_ticksTo_0.2.2.2.2.2.2.2.2.2.2.2.2.2.1
theorem e_X7_ticksTo_27 : decode cX7_ticksTo 27 = .ok (.aload_n 0, 1) := D_X7_ticksTo_0.2.2.2.2.2.2.2.2.2.2.2.2.2.2.1
theorem e_X7_ticksTo_28 : decode cX7_ticksTo 28 = .ok (.getfield 12, 3) := D_X7_ticksTo_0.2.2.2.2.2.2.2.2.2.2.2.2.2.2.2.1
theorem e_X7_ticksTo_31 : decode cX7_ticksTo 31 = .ok (.invokevirtual 172, 3) := D_X7_ticksTo_0.2.2.2.2.2.2.2.2.2.2.2.2.2.2.2.2.1
theorem e_X7_ticksTo_34 : decode cX7_ticksTo 34 = .ok (.aload_n 0, 1) := D_X7_ticksTo_0.2.2.2.2.2.2.2.2.2.2.2.2.2.2.2.2.2.1
theorem e_X7_ticksTo_35 : decode cX7_ticksTo 35 = .ok (.getfield 16, 3) := D_X7_ticksTo_0.2.2.2.2.2.2.2.2.2.2.2.2.2.2.2.2.2.2.1
theorem e_X7_ticksTo_38 : decode cX7_ticksTo 38 = .ok (.iload_n 1, 1) := D_X7_ticksTo_0.2.2.2.2.2.2.2.2.2.2.2.2.2.2.2.2.2.2.2.1
theorem e_X7_ticksTo_39 : decode cX7_ticksTo 39 = .ok (.invokevirtual 220, 3) := D_X7_ticksTo_0.2.2.2.2.2.2.2.2.2.2.2.2.2.2.2.2.2.2.2.2.1
theorem e_X7_ticksTo_42 : decode cX7_ticksTo 42 = .ok (.ireturn, 1) := D_X7_ticksTo_0.2.2.2.2.2.2.2.2.2.2.2.2.2.2.2.2.2.2.2.2.2.1
set_option maxRecDepth 100000 in
theorem D_X7_undo_0 : decode cX7_undo 0 = .ok (.aload_n 0, 1) ∧ decode cX7_undo 1 = .ok (.getfield 22, 3) ∧ decode cX7_undo 4 = .ok (.aload_n 0, 1) ∧ decode cX7_undo 5 = .ok (.getfield 12, 3) ∧ decode cX7_undo 8 = .ok (.invokevirtual 223, 3) ∧ decode cX7_undo 11 = .ok (.ifCond .eq 13, 3) ∧ decode cX7_undo 14 = .ok (.aload_n 0, 1) ∧ decode cX7_undo 15 = .ok (.getfield 22, 3) ∧ decode cX7_undo 18 = .ok (.getfield 199, 3) ∧ decode cX7_undo 21 = .ok (.goto 5, 3) ∧ decode cX7_undo 24 = .ok (.bipush (-2), 2) ∧ decode cX7_undo 26 = .ok (.ireturn, 1) ∧ True := dq_of (l := (0, .aload_n 0, 1) :: (1, .getfield 22, 3) :: (4, .aload_n 0, 1) :: (5, .getfield 12, 3) :: (8, .invokevirtual 223, 3) :: (11, .ifCond .eq 13, 3) :: (14, .aload_n 0, 1) :: (15, .getfield 22, 3) :: (18, .getfield 199, 3) :: (21, .goto 5, 3) :: (24, .bipush (-2), 2) :: (26, .ireturn, 1) :: []) (by decide +kernel)
theorem e_X7_undo_0 : decode cX7_undo 0 = .ok (.aload_n 0, 1) := D_X7_undo_0.1
theorem e_X7_undo_1 : decode cX7_undo 1 = .ok (.getfield 22, 3) := D_X7_undo_0.2.1
theorem e_X7_undo_4 : decode cX7_undo 4 = .ok (.aload_n 0, 1) := D_X7_undo_0.2.2.1
theorem e_X7_undo_5 : decode cX7_undo 5 = .ok (.getfield 12, 3) := D_X7_undo_0.2.2.2.1
theorem e_X7_undo_8 : decode cX7_undo 8 = .ok (.invokevirtual 223, 3) := D_X7_undo_0.2.2.2.2.1
theorem e_X7_undo_11 : decode cX7_undo 11 = .ok (.ifCond .eq 13, 3) := D_X7_undo_0.2.2.2.2.2.1
theorem e_X7_undo_14 : decode cX7_undo 14 = .ok (.aload_n 0, 1) := D_X7_undo_0.2.2.2.2.2.2.1
theorem e_X7_undo_15 : decode cX7_undo 15 = .ok (.getfield 22, 3) := D_X7_undo_0.2.2.2.2.2.2.2.1
theorem e_X7_undo_18 : decode cX7_undo 18 = .ok (.getfield 199, 3) := D_X7_undo_0.2.2.2.2.2.2.2.2.1
theorem e_X7_undo_21 : decode cX7_undo 21 = .ok (.goto 5, 3) := D_X7_undo_0.2.2.2.2.2.2.2.2.2.1
theorem e_X7_undo_24 : decode cX7_undo 24 = .ok (.bipush (-2), 2) := D_X7_undo_0.2.2.2.2.2.2.2.2.2.2.1
theorem e_X7_undo_26 : decode cX7_undo 26 = .ok (.ireturn, 1) := D_X7_undo_0.2.2.2.2.2.2.2.2.2.2.2.1
set_option maxRecDepth 100000 in
theorem D_X7_type_0 : decode cX7_type 0 = .ok (.iload_n 1, 1) ∧ decode cX7_type 1 = .ok (.bipush 32, 2) ∧ decode cX7_type 3 = .ok (.bipush 126, 2) ∧ decode cX7_type 5 = .ok (.invokestatic 44, 3) ∧ decode cX7_type 8 = .ok (.ifCond .ne 5, 3) ∧ decode cX7_type 11 = .ok (.iconst (-1), 1) ∧ decode cX7_type 12 = .ok (.ireturn, 1) ∧ decode cX7_type 13 = .ok (.aload_n 0, 1) ∧ decode cX7_type 14 = .ok (.getfield 29, 3) ∧ decode cX7_type 17 = .ok (.getfield 202, 3) ∧ decode cX7_type 20 = .ok (.bipush 100, 2) ∧ decode cX7_type 22 = .ok (.if_icmp .lt 6, 3) ∧ decode cX7_type 25 = .ok (.bipush (-3), 2) ∧ decode cX7_type 27 = .ok (.ireturn, 1) ∧ decode cX7_type 28 = .ok (.aload_n 0, 1) ∧ decode cX7_type 29 = .ok (.getfield 29, 3) ∧ decode cX7_type 32 = .ok (.iload_n 1, 1) ∧ decode cX7_type 33 = .ok (.i2c, 1) ∧ decode cX7_type 34 = .ok (.invokevirtual 227, 3) ∧ decode cX7_type 37 = .ok (.aload_n 0, 1) ∧ decode cX7_type 38 = .ok (.getfield 29, 3) ∧ decode cX7_type 41 = .ok (.getfield 202, 3) ∧ decode cX7_type 44 = .ok (.ireturn, 1) ∧ True := dq_of (l := (0, .iload_n 1, 1) :: (1, .bipush 32, 2) :: (3, .bipush 126, 2) :: (5, .invokestatic 44, 3) :: (8, .ifCond .ne 5, 3) :: (11, .iconst (-1), 1) :: (12, .ireturn, 1) :: (13, .aload_n 0, 1) :: (14, .getfield 29, 3) :: (17, .getfield 202, 3) :: (20, .bipush 100, 2) :: (22, .if_icmp .lt 6, 3) :: (25, .bipush (-3), 2) :: (27, .ireturn, 1) :: (28, .aload_n 0, 1) :: (29, .getfield 29, 3) :: (32, .iload_n 1, 1) :: (33, .i2c, 1) :: (34, .invokevirtual 227, 3) :: (37, .aload_n 0, 1) :: (38, .getfield 29, 3) :: (41, .getfield 202, 3) :: (44, .ireturn, 1) :: []) (by decide +kernel)
theorem e_X7_type_0 : decode cX7_type 0 = .ok (.iload_n 1, 1) := D_X7_type_0.1
theorem e_X7_type_1 : decode cX7_type 1 = .ok (.bipush 32, 2) := D_X7_type_0.2.1
theorem e_X7_type_3 : decode cX7_type 3 = .ok (.bipush 126, 2) := D_X7_type_0.2.2.1
theorem e_X7_type_5 : decode cX7_type 5 = .ok (.invokestatic 44, 3) := D_X7_type_0.2.2.2.1
theorem e_X7_type_8 : decode cX7_type 8 = .ok (.ifCond .ne 5, 3) := D_X7_type_0.2.2.2.2.1
theorem e_X7_type_11 : decode cX7_type 11 = .ok (.iconst (-1), 1) := D_X7_type_0.2.2.2.2.2.1
theorem e_X7_type_12 : decode cX7_type 12 = .ok (.ireturn, 1) := D_X7_type_0.2.2.2.2.2.2.1
theorem e_X7_type_13 : decode cX7_type 13 = .ok (.aload_n 0, 1) := D_X7_type_0.2.2.2.2.2.2.2.1
theorem e_X7_type_14 : decode cX7_type 14 = .ok (.getfield 29, 3) := D_X7_type_0.2.2.2.2.2.2.2.2.1
theorem e_X7_type_17 : decode cX7_type 17 = .ok (.getfield 202, 3) := D_X7_type_0.2.2.2.2.2.2.2.2.2.1
theorem e_X7_type_20 : decode cX7_type 20 = .ok (.bipush 100, 2) := D_X7_type_0.2.2.2.2.2.2.2.2.2.2.1
theorem e_X7_type_22 : decode cX7_type 22 = .ok (.if_icmp .lt 6, 3) := D_X7_type_0.2.2.2.2.2.2.2.2.2.2.2.1
theorem e_X7_type_25 : decode cX7_type 25 = .ok (.bipush (-3), 2) := D_X7_type_0.2.2.2.2.2.2.2.2.2.2.2.2.1
theorem e_X7_type_27 : decode cX7_type 27 = .ok (.ireturn, 1) := D_X7_type_0.2.2.2.2.2.2.2.2.2.2.2.2.2.1
theorem e_X7_type_28 : decode cX7_type 28 = .ok (.aload_n 0, 1) := D_X7_type_0.2.2.2.2.2.2.2.2.2.2.2.2.2.2.1
theorem e_X7_type_29 : decode cX7_type 29 = .ok (.getfield 29, 3) := D_X7_type_0.2.2.2.2.2.2.2.2.2.2.2.2.2.2.2.1
theorem e_X7_type_32 : decode cX7_type 32 = .ok (.iload_n 1, 1) := D_X7_type_0.2.2.2.2.2.2.2.2.2.2.2.2.2.2.2.2.1
theorem e_X7_type_33 : decode cX7_type 33 = .ok (.i2c, 1) := D_X7_type_0.2.2.2.2.2.2.2.2.2.2.2.2.2.2.2.2.2.1
theorem e_X7_type_34 : decode cX7_type 34 = .ok (.invokevirtual 227, 3) := D_X7_type_0.2.2.2.2.2.2.2.2.2.2.2.2.2.2.2.2.2.2.1
theorem e_X7_type_37 : decode cX7_type 37 = .ok (.aload_n 0, 1) := D_X7_type_0.2.2.2.2.2.2.2.2.2.2.2.2.2.2.2.2.2.2.2.1
theorem e_X7_type_38 : decode cX7_type 38 = .ok (.getfield 29, 3) := D_X7_type_0.2.2.2.2.2.2.2.2.2.2.2.2.2.2.2.2.2.2.2.2.1
theorem e_X7_type_41 : decode cX7_type 41 = .ok (.getfield 202, 3) := D_X7_type_0.2.2.2.2.2.2.2.2.2.2.2.2.2.2.2.2.2.2.2.2.2.1
theorem e_X7_type_44 : decode cX7_type 44 = .ok (.ireturn, 1) := D_X7_type_0.2.2.2.2.2.2.2.2.2.2.2.2.2.2.2.2.2.2.2.2.2.2.1
set_option maxRecDepth 100000 in
theorem D_X7_fault_0 : decode cX7_fault 0 = .ok (.iload_n 1, 1) ∧ decode cX7_fault 1 = .ok (.iconst 0, 1) ∧ decode cX7_fault 2 = .ok (.iconst 1, 1) ∧ decode cX7_fault 3 = .ok (.invokestatic 44, 3) ∧ decode cX7_fault 6 = .ok (.ifCond .ne 5, 3) ∧ decode cX7_fault 9 = .ok (.iconst (-1), 1) ∧ decode cX7_fault 10 = .ok (.ireturn, 1) ∧ decode cX7_fault 11 = .ok (.aload_n 0, 1) ∧ decode cX7_fault 12 = .ok (.getfield 29, 3) ∧ decode cX7_fault 15 = .ok (.aload_n 0, 1) ∧ decode cX7_fault 16 = .ok (.getfield 36, 3) ∧ decode cX7_fault 19 = .ok (.aload_n 0, 1) ∧ decode cX7_fault 20 = .ok (.getfield 12, 3) ∧ decode cX7_fault 23 = .ok (.invokevirtual 230, 3) ∧ decode cX7_fault 26 = .ok (.aload_n 0, 1) ∧ decode cX7_fault 27 = .ok (.getfield 29, 3) ∧ decode cX7_fault 30 = .ok (.getfield 234, 3) ∧ decode cX7_fault 33 = .ok (.ifCond .ne 6, 3) ∧ decode cX7_fault 36 = .ok (.bipush (-4), 2) ∧ decode cX7_fault 38 = .ok (.ireturn, 1) ∧ decode cX7_fault 39 = .ok (.iload_n 1, 1) ∧ decode cX7_fault 40 = .ok (.ifCond .ne 13, 3) ∧ decode cX7_fault 43 = .ok (.aload_n 0, 1) ∧ decode cX7_fault 44 = .ok (.getfield 29, 3) ∧ decode cX7_fault 47 = .ok (.getfield 237, 3) ∧ decode cX7_fault 50 = .ok (.goto 10, 3) ∧ decode cX7_fault 53 = .ok (.aload_n 0, 1) ∧ decode cX7_fault 54 = .ok (.getfield 29, 3) ∧ decode cX7_fault 57 = .ok (.getfield 234, 3) ∧ decode cX7_fault 60 = .ok (.ireturn, 1) ∧ True := dq_of (l := (0, .iload_n 1, 1) :: (1, .iconst 0, 1) :: (2, .iconst 1, 1) :: (3, .invokestatic 44, 3) :: (6, .ifCond .ne 5, 3) :: (9, .iconst (-1), 1) :: (10, .ireturn, 1) :: (11, .aload_n 0, 1) :: (12, .getfield 29, 3) :: (15, .aload_n 0, 1) :: (16, .getfield 36, 3) :: (19, .aload_n 0, 1) :: (20, .getfield 12, 3) :: (23, .invokevirtual 230, 3) :: (26, .aload_n 0, 1) :: (27, .getfield 29, 3) :: (30, .getfield 234, 3) :: (33, .ifCond .ne 6, 3) :: (36, .bipush (-4), 2) :: (38, .ireturn, 1) :: (39, .iload_n 1, 1) :: (40, .ifCond .ne 13, 3) :: (43, .aload_n 0, 1) :: (44, .getfield 29, 3) :: (47, .getfield 237, 3) :: (50, .goto 10, 3) :: (53, .aload_n 0, 1) :: (54, .getfield 29, 3) :: (57, .getfield 234, 3) :: (60, .ireturn, 1) :: []) (by decide +kernel)
theorem e_X7_fault_0 : decode cX7_fault 0 = .ok (.iload_n 1, 1) := D_X7_fault_0.1
theorem e_X7_fault_1 : decode cX7_fault 1 = .ok (.iconst 0, 1) := D_X7_fault_0.2.1
theorem e_X7_fault_2 : decode cX7_fault 2 = .ok (.iconst 1, 1) := D_X7_fault_0.2.2.1
theorem e_X7_fault_3 : decode cX7_fault 3 = .ok (.invokestatic 44, 3) := D_X7_fault_0.2.2.2.1
theorem e_X7_fault_6 : decode cX7_fault 6 = .ok (.ifCond .ne 5, 3) := D_X7_fault_0.2.2.2.2.1
theorem e_X7_fault_9 : decode cX7_fault 9 = .ok (.iconst (-1), 1) := D_X7_fault_0.2.2.2.2.2.1
theorem e_X7_fault_10 : decode cX7_fault 10 = .ok (.ireturn, 1) := D_X7_fault_0.2.2.2.2.2.2.1
theorem e_X7_fault_11 : decode cX7_fault 11 = .ok (.aload_n 0, 1) := D_X7_fault_0.2.2.2.2.2.2.2.1
theorem e_X7_fault_12 : decode cX7_fault 12 = .ok (.getfield 29, 3) := D_X7_fault_0.2.2.2.2.2.2.2.2.1
theorem e_X7_fault_15 : decode cX7_fault 15 = .ok (.aload_n 0, 1) := D_X7_fault_0.2.2.2.2.2.2.2.2.2.1
theorem e_X7_fault_16 : decode cX7_fault 16 = .ok (.getfield 36, 3) := D_X7_fault_0.2.2.2.2.2.2.2.2.2.2.1
theorem e_X7_fault_19 : decode cX7_fault 19 = .ok (.aload_n 0, 1) := D_X7_fault_0.2.2.2.2.2.2.2.2.2.2.2.1
theorem e_X7_fault_20 : decode cX7_fault 20 = .ok (.getfield 12, 3) := D_X7_fault_0.2.2.2.2.2.2.2.2.2.2.2.2.1
theorem e_X7_fault_23 : decode cX7_fault 23 = .ok (.invokevirtual 230, 3) := D_X7_fault_0.2.2.2.2.2.2.2.2.2.2.2.2.2.1
theorem e_X7_fault_26 : decode cX7_fault 26 = .ok (.aload_n 0, 1) := D_X7_fault_0.2.2.2.2.2.2.2.2.2.2.2.2.2.2.1
theorem e_X7_fault_27 : decode cX7_fault 27 = .ok (.getfield 29, 3) := D_X7_fault_0.2.2.2.2.2.2.2.2.2.2.2.2.2.2.2.1
theorem e_X7_fault_30 : decode cX7_fault 30 = .ok (.getfield 234, 3) := D_X7_fault_0.2.2.2.2.2.2.2.2.2.2.2.2.2.2.2.2.1
theorem e_X7_fault_33 : decode cX7_fault 33 = .ok (.ifCond .ne 6, 3) := D_X7_fault_0.2.2.2.2.2.2.2.2.2.2.2.2.2.2.2.2.2.1
theorem e_X7_fault_36 : decode cX7_fault 36 = .ok (.bipush (-4), 2) := D_X7_fault_0.2.2.2.2.2.2.2.2.2.2.2.2.2.2.2.2.2.2.1
theorem e_X7_fault_38 : decode cX7_fault 38 = .ok (.ireturn, 1) := D_X7_fault_0.2.2.2.2.2.2.2.2.2.2.2.2.2.2.2.2.2.2.2.1
theorem e_X7_fault_39 : decode cX7_fault 39 = .ok (.iload_n 1, 1) := D_X7_fault_0.2.2.2.2.2.2.2.2.2.2.2.2.2.2.2.2.2.2.2.2.1
theorem e_X7_fault_40 : decode cX7_fault 40 = .ok (.ifCond .ne 13, 3) := D_X7_fault_0.2.2.2.2.2.2.2.2.2.2.2.2.2.2.2.2.2.2.2.2.2.1
theorem e_X7_fault_43 : decode cX7_fault 43 = .ok (.aload_n 0, 1) := D_X7_fault_0.2.2.2.2.2.2.2.2.2.2.2.2.2.2.2.2.2.2.2.2.2.2.1
theorem e_X7_fault_44 : decode cX7_fault 44 = .ok (.getfield 29, 3) := D_X7_fault_0.2.2.2.2.2.2.2.2.2.2.2.2.2.2.2.2.2.2.2.2.2.2.2.1
theorem e_X7_fault_47 : decode cX7_fault 47 = .ok (.getfield 237, 3) := D_X7_fault_0.2.2.2.2.2.2.2.2.2.2.2.2.2.2.2.2.2.2.2.2.2.2.2.2.1
theorem e_X7_fault_50 : decode cX7_fault 50 = .ok (.goto 10, 3) := D_X7_fault_0.2.2.2.2.2.2.2.2.2.2.2.2.2.2.2.2.2.2.2.2.2.2.2.2.2.1
theorem e_X7_fault_53 : decode cX7_fault 53 = .ok (.aload_n 0, 1) := D_X7_fault_0.2.2.2.2.2.2.2.2.2.2.2.2.2.2.2.2.2.2.2.2.2.2.2.2.2.2.1
theorem e_X7_fault_54 : decode cX7_fault 54 = .ok (.getfield 29, 3) := D_X7_fault_0.2.2.2.2.2.2.2.2.2.2.2.2.2.2.2.2.2.2.2.2.2.2.2.2.2.2.2.1
theorem e_X7_fault_57 : decode cX7_fault 57 = .ok (.getfield 234, 3) := D_X7_fault_0.2.2.2.2.2.2.2.2.2.2.2.2.2.2.2.2.2.2.2.2.2.2.2.2.2.2.2.2.1
theorem e_X7_fault_60 : decode cX7_fault 60 = .ok (.ireturn, 1) := D_X7_fault_0.2.2.2.2.2.2.2.2.2.2.2.2.2.2.2.2.2.2.2.2.2.2.2.2.2.2.2.2.2.1
set_option maxRecDepth 100000 in
theorem D_X7_settingAt_0 : decode cX7_settingAt 0 = .ok (.iload_n 1, 1) ∧ decode cX7_settingAt 1 = .ok (.bipush 6, 2) ∧ decode cX7_settingAt 3 = .ok (.invokestatic 40, 3) ∧ decode cX7_settingAt 6 = .ok (.ifCond .eq 15, 3) ∧ decode cX7_settingAt 9 = .ok (.aload_n 0, 1) ∧ decode cX7_settingAt 10 = .ok (.getfield 12, 3) ∧ decode cX7_settingAt 13 = .ok (.getfield 92, 3) ∧ decode cX7_settingAt 16 = .ok (.iload_n 1, 1) ∧ decode cX7_settingAt 17 = .ok (.iaload, 1) ∧ decode cX7_settingAt 18 = .ok (.goto 4, 3) ∧ decode cX7_settingAt 21 = .ok (.iconst (-1), 1) ∧ decode cX7_settingAt 22 = .ok (.ireturn, 1) ∧ True := dq_of (l := (0, .iload_n 1, 1) :: (1, .bipush 6, 2) :: (3, .invokestatic 40, 3) :: (6, .ifCond .eq 15, 3) :: (9, .aload_n 0, 1) :: (10, .getfield 12, 3) :: (13, .getfield 92, 3) :: (16, .iload_n 1, 1) :: (17, .iaload, 1) :: (18, .goto 4, 3) :: (21, .iconst (-1), 1) :: (22, .ireturn, 1) :: []) (by decide +kernel)
theorem e_X7_settingAt_0 : decode cX7_settingAt 0 = .ok (.iload_n 1, 1) := D_X7_settingAt_0.1
theorem e_X7_settingAt_1 : decode cX7_settingAt 1 = .ok (.bipush 6, 2) := D_X7_settingAt_0.2.1
theorem e_X7_settingAt_3 : decode cX7_settingAt 3 = .ok (.invokestatic 40, 3) := D_X7_settingAt_0.2.2.1
theorem e_X7_settingAt_6 : decode cX7_settingAt 6 = .ok (.ifCond .eq 15, 3) := D_X7_settingAt_0.2.2.2.1
theorem e_X7_settingAt_9 : decode cX7_settingAt 9 = .ok (.aload_n 0, 1) := D_X7_settingAt_0.2.2.2.2.1
theorem e_X7_settingAt_10 : decode cX7_settingAt 10 = .ok (.getfield 12, 3) := D_X7_settingAt_0.2.2.2.2.2.1
theorem e_X7_settingAt_13 : decode cX7_settingAt 13 = .ok (.getfield 92, 3) := D_X7_settingAt_0.2.2.2.2.2.2.1
theorem e_X7_settingAt_16 : decode cX7_settingAt 16 = .ok (.iload_n 1, 1) := D_X7_settingAt_0.2.2.2.2.2.2.2.1
theorem e_X7_settingAt_17 : decode cX7_settingAt 17 = .ok (.iaload, 1) := D_X7_settingAt_0.2.2.2.2.2.2.2.2.1
theorem e_X7_settingAt_18 : decode cX7_settingAt 18 = .ok (.goto 4, 3) := D_X7_settingAt_0.2.2.2.2.2.2.2.2.2.1
theorem e_X7_settingAt_21 : decode cX7_settingAt 21 = .ok (.iconst (-1), 1) := D_X7_settingAt_0.2.2.2.2.2.2.2.2.2.2.1
theorem e_X7_settingAt_22 : decode cX7_settingAt 22 = .ok (.ireturn, 1) := D_X7_settingAt_0.2.2.2.2.2.2.2.2.2.2.2.1
set_option maxRecDepth 100000 in
theorem D_X7_isWithin_0 : decode cX7_isWithin 0 = .ok (.iload_n 0, 1) ∧ decode cX7_isWithin 1 = .ok (.iload_n 1, 1) ∧ decode cX7_isWithin 2 = .ok (.if_icmp .lt 12, 3) ∧ decode cX7_isWithin 5 = .ok (.iload_n 0, 1) ∧ decode cX7_isWithin 6 = .ok (.iload_n 2, 1) ∧ decode cX7_isWithin 7 = .ok (.if_icmp .gt 7, 3) ∧ decode cX7_isWithin 10 = .ok (.iconst 1, 1) ∧ decode cX7_isWithin 11 = .ok (.goto 4, 3) ∧ decode cX7_isWithin 14 = .ok (.iconst 0, 1) ∧ decode cX7_isWithin 15 = .ok (.ireturn, 1) ∧ True := dq_of (l := (0, .iload_n 0, 1) :: (1, .iload_n 1, 1) :: (2, .if_icmp .lt 12, 3) :: (5, .iload_n 0, 1) :: (6, .iload_n 2, 1) :: (7, .if_icmp .gt 7, 3) :: (10, .iconst 1, 1) :: (11, .goto 4, 3) :: (14, .iconst 0, 1) :: (15, .ireturn, 1) :: []) (by decide +kernel)
theorem e_X7_isWithin_0 : decode cX7_isWithin 0 = .ok (.iload_n 0, 1) := D_X7_isWithin_0.1
theorem e_X7_isWithin_1 : decode cX7_isWithin 1 = .ok (.iload_n 1, 1) := D_X7_isWithin_0.2.1
theorem e_X7_isWithin_2 : decode cX7_isWithin 2 = .ok (.if_icmp .lt 12, 3) := D_X7_isWithin_0.2.2.1
theorem e_X7_isWithin_5 : decode cX7_isWithin 5 = .ok (.iload_n 0, 1) := D_X7_isWithin_0.2.2.2.1
theorem e_X7_isWithin_6 : decode cX7_isWithin 6 = .ok (.iload_n 2, 1) := D_X7_isWithin_0.2.2.2.2.1
theorem e_X7_isWithin_7 : decode cX7_isWithin 7 = .ok (.if_icmp .gt 7, 3) := D_X7_isWithin_0.2.2.2.2.2.1
theorem e_X7_isWithin_10 : decode cX7_isWithin 10 = .ok (.iconst 1, 1) := D_X7_isWithin_0.2.2.2.2.2.2.1
theorem e_X7_isWithin_11 : decode cX7_isWithin 11 = .ok (.goto 4, 3) := D_X7_isWithin_0.2.2.2.2.2.2.2.1
theorem e_X7_isWithin_14 : decode cX7_isWithin 14 = .ok (.iconst 0, 1) := D_X7_isWithin_0.2.2.2.2.2.2.2.2.1
theorem e_X7_isWithin_15 : decode cX7_isWithin 15 = .ok (.ireturn, 1) := D_X7_isWithin_0.2.2.2.2.2.2.2.2.2.1
set_option maxRecDepth 100000 in
theorem D_X7_isBelow_0 : decode cX7_isBelow 0 = .ok (.iload_n 0, 1) ∧ decode cX7_isBelow 1 = .ok (.ifCond .lt 12, 3) ∧ decode cX7_isBelow 4 = .ok (.iload_n 0, 1) ∧ decode cX7_isBelow 5 = .ok (.iload_n 1, 1) ∧ decode cX7_isBelow 6 = .ok (.if_icmp .ge 7, 3) ∧ decode cX7_isBelow 9 = .ok (.iconst 1, 1) ∧ decode cX7_isBelow 10 = .ok (.goto 4, 3) ∧ decode cX7_isBelow 13 = .ok (.iconst 0, 1) ∧ decode cX7_isBelow 14 = .ok (.ireturn, 1) ∧ True := dq_of (l := (0, .iload_n 0, 1) :: (1, .ifCond .lt 12, 3) :: (4, .iload_n 0, 1) :: (5, .iload_n 1, 1) :: (6, .if_icmp .ge 7, 3) :: (9, .iconst 1, 1) :: (10, .goto 4, 3) :: (13, .iconst 0, 1) :: (14, .ireturn, 1) :: []) (by decide +kernel)
theorem e_X7_isBelow_0 : decode cX7_isBelow 0 = .ok (.iload_n 0, 1) := D_X7_isBelow_0.1
theorem e_X7_isBelow_1 : decode cX7_isBelow 1 = .ok (.ifCond .lt 12, 3) := D_X7_isBelow_0.2.1
theorem e_X7_isBelow_4 : decode cX7_isBelow 4 = .ok (.iload_n 0, 1) := D_X7_isBelow_0.2.2.1
theorem e_X7_isBelow_5 : decode cX7_isBelow 5 = .ok (.iload_n 1, 1) := D_X7_isBelow_0.2.2.2.1
theorem e_X7_isBelow_6 : decode cX7_isBelow 6 = .ok (.if_icmp .ge 7, 3) := D_X7_isBelow_0.2.2.2.2.1
theorem e_X7_isBelow_9 : decode cX7_isBelow 9 = .ok (.iconst 1, 1) := D_X7_isBelow_0.2.2.2.2.2.1
theorem e_X7_isBelow_10 : decode cX7_isBelow 10 = .ok (.goto 4, 3) := D_X7_isBelow_0.2.2.2.2.2.2.1
theorem e_X7_isBelow_13 : decode cX7_isBelow 13 = .ok (.iconst 0, 1) := D_X7_isBelow_0.2.2.2.2.2.2.2.1
theorem e_X7_isBelow_14 : decode cX7_isBelow 14 = .ok (.ireturn, 1) := D_X7_isBelow_0.2.2.2.2.2.2.2.2.1
set_option maxRecDepth 100000 in
theorem D_X7_isPaper_0 : decode cX7_isPaper 0 = .ok (.iload_n 0, 1) ∧ decode cX7_isPaper 1 = .ok (.iconst 4, 1) ∧ decode cX7_isPaper 2 = .ok (.invokestatic 40, 3) ∧ decode cX7_isPaper 5 = .ok (.ifCond .eq 15, 3) ∧ decode cX7_isPaper 8 = .ok (.iload_n 1, 1) ∧ decode cX7_isPaper 9 = .ok (.iconst 4, 1) ∧ decode cX7_isPaper 10 = .ok (.invokestatic 40, 3) ∧ decode cX7_isPaper 13 = .ok (.ifCond .eq 7, 3) ∧ decode cX7_isPaper 16 = .ok (.iconst 1, 1) ∧ decode cX7_isPaper 17 = .ok (.goto 4, 3) ∧ decode cX7_isPaper 20 = .ok (.iconst 0, 1) ∧ decode cX7_isPaper 21 = .ok (.ireturn, 1) ∧ True := dq_of (l := (0, .iload_n 0, 1) :: (1, .iconst 4, 1) :: (2, .invokestatic 40, 3) :: (5, .ifCond .eq 15, 3) :: (8, .iload_n 1, 1) :: (9, .iconst 4, 1) :: (10, .invokestatic 40, 3) :: (13, .ifCond .eq 7, 3) :: (16, .iconst 1, 1) :: (17, .goto 4, 3) :: (20, .iconst 0, 1) :: (21, .ireturn, 1) :: []) (by decide +kernel)
theorem e_X7_isPaper_0 : decode cX7_isPaper 0 = .ok (.iload_n 0, 1) := D_X7_isPaper_0.1
theorem e_X7_isPaper_1 : decode cX7_isPaper 1 = .ok (.iconst 4, 1) := D_X7_isPaper_0.2.1
theorem e_X7_isPaper_2 : decode cX7_isPaper 2 = .ok (.invokestatic 40, 3) := D_X7_isPaper_0.2.2.1
theorem e_X7_isPaper_5 : decode cX7_isPaper 5 = .ok (.ifCond .eq 15, 3) := D_X7_isPaper_0.2.2.2.1
theorem e_X7_isPaper_8 : decode cX7_isPaper 8 = .ok (.iload_n 1, 1) := D_X7_isPaper_0.2.2.2.2.1
theorem e_X7_isPaper_9 : decode cX7_isPaper 9 = .ok (.iconst 4, 1) := D_X7_isPaper_0.2.2.2.2.2.1
theorem e_X7_isPaper_10 : decode cX7_isPaper 10 = .ok (.invokestatic 40, 3) := D_X7_isPaper_0.2.2.2.2.2.2.1
theorem e_X7_isPaper_13 : decode cX7_isPaper 13 = .ok (.ifCond .eq 7, 3) := D_X7_isPaper_0.2.2.2.2.2.2.2.1
theorem e_X7_isPaper_16 : decode cX7_isPaper 16 = .ok (.iconst 1, 1) := D_X7_isPaper_0.2.2.2.2.2.2.2.2.1
theorem e_X7_isPaper_17 : decode cX7_isPaper 17 = .ok (.goto 4, 3) := D_X7_isPaper_0.2.2.2.2.2.2.2.2.2.1
theorem e_X7_isPaper_20 : decode cX7_isPaper 20 = .ok (.iconst 0, 1) := D_X7_isPaper_0.2.2.2.2.2.2.2.2.2.2.1
theorem e_X7_isPaper_21 : decode cX7_isPaper 21 = .ok (.ireturn, 1) := D_X7_isPaper_0.2.2.2.2.2.2.2.2.2.2.2.1
