def dq (c : ByteArray) : List (Nat × Instr × Nat) → Prop
  | [] => True
  | e :: r => decode c e.1 = .ok (e.2.1, e.2.2) ∧ dq c r
def dqB (c : ByteArray) : List (Nat × Instr × Nat) → Bool
  | [] => true
  | e :: r => decide (decode c e.1 = .ok (e.2.1, e.2.2)) && dqB c r
theorem dq_of {c : ByteArray} : ∀ {l : List (Nat × Instr × Nat)}, dqB c l = true → dq c l
  | [], _ => trivial
  | e :: r, h => by
    simp only [dqB, Bool.and_eq_true, decide_eq_true_eq] at h
    exact ⟨h.1, dq_of h.2⟩
set_option maxRecDepth 100000 in
theorem D_X0_init_0 : decode cX0_init 0 = .ok (.aload_n 0, 1) ∧ decode cX0_init 1 = .ok (.invokespecial 3, 3) ∧ decode cX0_init 4 = .ok (.aload_n 0, 1) ∧ decode cX0_init 5 = .ok (.iconst 4, 1) ∧ decode cX0_init 6 = .ok (.anewarray 9, 3) ∧ decode cX0_init 9 = .ok (.putfield 11, 3) ∧ decode cX0_init 12 = .ok (.iconst 0, 1) ∧ decode cX0_init 13 = .ok (.istore_n 1, 1) ∧ decode cX0_init 14 = .ok (.iload_n 1, 1) ∧ decode cX0_init 15 = .ok (.iconst 4, 1) ∧ decode cX0_init 16 = .ok (.if_icmp .ge 22, 3) ∧ decode cX0_init 19 = .ok (.aload_n 0, 1) ∧ decode cX0_init 20 = .ok (.getfield 11, 3) ∧ decode cX0_init 23 = .ok (.iload_n 1, 1) ∧ decode cX0_init 24 = .ok (.new 9, 3) ∧ decode cX0_init 27 = .ok (.dup, 1) ∧ decode cX0_init 28 = .ok (.invokespecial 17, 3) ∧ decode cX0_init 31 = .ok (.aastore, 1) ∧ decode cX0_init 32 = .ok (.iinc 1 1, 3) ∧ decode cX0_init 35 = .ok (.goto (-21), 3) ∧ decode cX0_init 38 = .ok (.return_, 1) ∧ True := dq_of (l := (0, .aload_n 0, 1) :: (1, .invokespecial 3, 3) :: (4, .aload_n 0, 1) :: (5, .iconst 4, 1) :: (6, .anewarray 9, 3) :: (9, .putfield 11, 3) :: (12, .iconst 0, 1) :: (13, .istore_n 1, 1) :: (14, .iload_n 1, 1) :: (15, .iconst 4, 1) :: (16, .if_icmp .ge 22, 3) :: (19, .aload_n 0, 1) :: (20, .getfield 11, 3) :: (23, .iload_n 1, 1) :: (24, .new 9, 3) :: (27, .dup, 1) :: (28, .invokespecial 17, 3) :: (31, .aastore, 1) :: (32, .iinc 1 1, 3) :: (35, .goto (-21), 3) :: (38, .return_, 1) :: []) (by decide +kernel)
theorem e_X0_init_0 : decode cX0_init 0 = .ok (.aload_n 0, 1) := D_X0_init_0.1
theorem e_X0_init_1 : decode cX0_init 1 = .ok (.invokespecial 3, 3) := D_X0_init_0.2.1
theorem e_X0_init_4 : decode cX0_init 4 = .ok (.aload_n 0, 1) := D_X0_init_0.2.2.1
theorem e_X0_init_5 : decode cX0_init 5 = .ok (.iconst 4, 1) := D_X0_init_0.2.2.2.1
theorem e_X0_init_6 : decode cX0_init 6 = .ok (.anewarray 9, 3) := D_X0_init_0.2.2.2.2.1
theorem e_X0_init_9 : decode cX0_init 9 = .ok (.putfield 11, 3) := D_X0_init_0.2.2.2.2.2.1
theorem e_X0_init_12 : decode cX0_init 12 = .ok (.iconst 0, 1) := D_X0_init_0.2.2.2.2.2.2.1
theorem e_X0_init_13 : decode cX0_init 13 = .ok (.istore_n 1, 1) := D_X0_init_0.2.2.2.2.2.2.2.1
theorem e_X0_init_14 : decode cX0_init 14 = .ok (.iload_n 1, 1) := D_X0_init_0.2.2.2.2.2.2.2.2.1
theorem e_X0_init_15 : decode cX0_init 15 = .ok (.iconst 4, 1) := D_X0_init_0.2.2.2.2.2.2.2.2.2.1
theorem e_X0_init_16 : decode cX0_init 16 = .ok (.if_icmp .ge 22, 3) := D_X0_init_0.2.2.2.2.2.2.2.2.2.2.1
theorem e_X0_init_19 : decode cX0_init 19 = .ok (.aload_n 0, 1) := D_X0_init_0.2.2.2.2.2.2.2.2.2.2.2.1
theorem e_X0_init_20 : decode cX0_init 20 = .ok (.getfield 11, 3) := D_X0_init_0.2.2.2.2.2.2.2.2.2.2.2.2.1
theorem e_X0_init_23 : decode cX0_init 23 = .ok (.iload_n 1, 1) := D_X0_init_0.2.2.2.2.2.2.2.2.2.2.2.2.2.1
theorem e_X0_init_24 : decode cX0_init 24 = .ok (.new 9, 3) := D_X0_init_0.2.2.2.2.2.2.2.2.2.2.2.2.2.2.1
theorem e_X0_init_27 : decode cX0_init 27 = .ok (.dup, 1) := D_X0_init_0.2.2.2.2.2.2.2.2.2.2.2.2.2.2.2.1
theorem e_X0_init_28 : decode cX0_init 28 = .ok (.invokespecial 17, 3) := D_X0_init_0.2.2.2.2.2.2.2.2.2.2.2.2.2.2.2.2.1
theorem e_X0_init_31 : decode cX0_init 31 = .ok (.aastore, 1) := D_X0_init_0.2.2.2.2.2.2.2.2.2.2.2.2.2.2.2.2.2.1
theorem e_X0_init_32 : decode cX0_init 32 = .ok (.iinc 1 1, 3) := D_X0_init_0.2.2.2.2.2.2.2.2.2.2.2.2.2.2.2.2.2.2.1
theorem e_X0_init_35 : decode cX0_init 35 = .ok (.goto (-21), 3) := D_X0_init_0.2.2.2.2.2.2.2.2.2.2.2.2.2.2.2.2.2.2.2.1
theorem e_X0_init_38 : decode cX0_init 38 = .ok (.return_, 1) := D_X0_init_0.2.2.2.2.2.2.2.2.2.2.2.2.2.2.2.2.2.2.2.2.1
set_option maxRecDepth 100000 in
theorem D_X0_keep_0 : decode cX0_keep 0 = .ok (.aload_n 0, 1) ∧ decode cX0_keep 1 = .ok (.getfield 18, 3) ∧ decode cX0_keep 4 = .ok (.iconst 4, 1) ∧ decode cX0_keep 5 = .ok (.if_icmp .lt 7, 3) ∧ decode cX0_keep 8 = .ok (.aload_n 0, 1) ∧ decode cX0_keep 9 = .ok (.invokevirtual 22, 3) ∧ decode cX0_keep 12 = .ok (.aload_n 0, 1) ∧ decode cX0_keep 13 = .ok (.getfield 11, 3) ∧ decode cX0_keep 16 = .ok (.aload_n 0, 1) ∧ decode cX0_keep 17 = .ok (.getfield 18, 3) ∧ decode cX0_keep 20 = .ok (.aaload, 1) ∧ decode cX0_keep 21 = .ok (.aload_n 1, 1) ∧ decode cX0_keep 22 = .ok (.invokevirtual 25, 3) ∧ decode cX0_keep 25 = .ok (.aload_n 0, 1) ∧ decode cX0_keep 26 = .ok (.dup, 1) ∧ decode cX0_keep 27 = .ok (.getfield 18, 3) ∧ decode cX0_keep 30 = .ok (.iconst 1, 1) ∧ decode cX0_keep 31 = .ok (.iadd, 1) ∧ decode cX0_keep 32 = .ok (.putfield 18, 3) ∧ decode cX0_keep 35 = .ok (.return_, 1) ∧ True := dq_of (l := (0, .aload_n 0, 1) :: (1, .getfield 18, 3) :: (4, .iconst 4, 1) :: (5, .if_icmp .lt 7, 3) :: (8, .aload_n 0, 1) :: (9, .invokevirtual 22, 3) :: (12, .aload_n 0, 1) :: (13, .getfield 11, 3) :: (16, .aload_n 0, 1) :: (17, .getfield 18, 3) :: (20, .aaload, 1) :: (21, .aload_n 1, 1) :: (22, .invokevirtual 25, 3) :: (25, .aload_n 0, 1) :: (26, .dup, 1) :: (27, .getfield 18, 3) :: (30, .iconst 1, 1) :: (31, .iadd, 1) :: (32, .putfield 18, 3) :: (35, .return_, 1) :: []) (by decide +kernel)
theorem e_X0_keep_0 : decode cX0_keep 0 = .ok (.aload_n 0, 1) := D_X0_keep_0.1
theorem e_X0_keep_1 : decode cX0_keep 1 = .ok (.getfield 18, 3) := D_X0_keep_0.2.1
theorem e_X0_keep_4 : decode cX0_keep 4 = .ok (.iconst 4, 1) := D_X0_keep_0.2.2.1
theorem e_X0_keep_5 : decode cX0_keep 5 = .ok (.if_icmp .lt 7, 3) := D_X0_keep_0.2.2.2.1
theorem e_X0_keep_8 : decode cX0_keep 8 = .ok (.aload_n 0, 1) := D_X0_keep_0.2.2.2.2.1
theorem e_X0_keep_9 : decode cX0_keep 9 = .ok (.invokevirtual 22, 3) := D_X0_keep_0.2.2.2.2.2.1
theorem e_X0_keep_12 : decode cX0_keep 12 = .ok (.aload_n 0, 1) := D_X0_keep_0.2.2.2.2.2.2.1
theorem e_X0_keep_13 : decode cX0_keep 13 = .ok (.getfield 11, 3) := D_X0_keep_0.2.2.2.2.2.2.2.1
theorem e_X0_keep_16 : decode cX0_keep 16 = .ok (.aload_n 0, 1) := D_X0_keep_0.2.2.2.2.2.2.2.2.1
theorem e_X0_keep_17 : decode cX0_keep 17 = .ok (.getfield 18, 3) := D_X0_keep_0.2.2.2.2.2.2.2.2.2.1
theorem e_X0_keep_20 : decode cX0_keep 20 = .ok (.aaload, 1) := D_X0_keep_0.2.2.2.2.2.2.2.2.2.2.1
theorem e_X0_keep_21 : decode cX0_keep 21 = .ok (.aload_n 1, 1) := D_X0_keep_0.2.2.2.2.2.2.2.2.2.2.2.1
theorem e_X0_keep_22 : decode cX0_keep 22 = .ok (.invokevirtual 25, 3) := D_X0_keep_0.2.2.2.2.2.2.2.2.2.2.2.2.1
theorem e_X0_keep_25 : decode cX0_keep 25 = .ok (.aload_n 0, 1) := D_X0_keep_0.2.2.2.2.2.2.2.2.2.2.2.2.2.1
theorem e_X0_keep_26 : decode cX0_keep 26 = .ok (.dup, 1) := D_X0_keep_0.2.2.2.2.2.2.2.2.2.2.2.2.2.2.1
theorem e_X0_keep_27 : decode cX0_keep 27 = .ok (.getfield 18, 3) := D_X0_keep_0.2.2.2.2.2.2.2.2.2.2.2.2.2.2.2.1
theorem e_X0_keep_30 : decode cX0_keep 30 = .ok (.iconst 1, 1) := D_X0_keep_0.2.2.2.2.2.2.2.2.2.2.2.2.2.2.2.2.1
theorem e_X0_keep_31 : decode cX0_keep 31 = .ok (.iadd, 1) := D_X0_keep_0.2.2.2.2.2.2.2.2.2.2.2.2.2.2.2.2.2.1
theorem e_X0_keep_32 : decode cX0_keep 32 = .ok (.putfield 18, 3) := D_X0_keep_0.2.2.2.2.2.2.2.2.2.2.2.2.2.2.2.2.2.2.1
theorem e_X0_keep_35 : decode cX0_keep 35 = .ok (.return_, 1) := D_X0_keep_0.2.2.2.2.2.2.2.2.2.2.2.2.2.2.2.2.2.2.2.1
set_option maxRecDepth 100000 in
theorem D_X0_dropOldest_0 : decode cX0_dropOldest 0 = .ok (.aload_n 0, 1) ∧ decode cX0_dropOldest 1 = .ok (.getfield 11, 3) ∧ decode cX0_dropOldest 4 = .ok (.iconst 0, 1) ∧ decode cX0_dropOldest 5 = .ok (.aaload, 1) ∧ decode cX0_dropOldest 6 = .ok (.astore_n 1, 1) ∧ decode cX0_dropOldest 7 = .ok (.iconst 0, 1) ∧ decode cX0_dropOldest 8 = .ok (.istore_n 2, 1) ∧ decode cX0_dropOldest 9 = .ok (.iload_n 2, 1) ∧ decode cX0_dropOldest 10 = .ok (.iconst 1, 1) ∧ decode cX0_dropOldest 11 = .ok (.iadd, 1) ∧ decode cX0_dropOldest 12 = .ok (.iconst 4, 1) ∧ decode cX0_dropOldest 13 = .ok (.if_icmp .ge 23, 3) ∧ decode cX0_dropOldest 16 = .ok (.aload_n 0, 1) ∧ decode cX0_dropOldest 17 = .ok (.getfield 11, 3) ∧ decode cX0_dropOldest 20 = .ok (.iload_n 2, 1) ∧ decode cX0_dropOldest 21 = .ok (.aload_n 0, 1) ∧ decode cX0_dropOldest 22 = .ok (.getfield 11, 3) ∧ decode cX0_dropOldest 25 = .ok (.iload_n 2, 1) ∧ decode cX0_dropOldest 26 = .ok (.iconst 1, 1) ∧ decode cX0_dropOldest 27 = .ok (.iadd, 1) ∧ decode cX0_dropOldest 28 = .ok (.aaload, 1) ∧ decode cX0_dropOldest 29 = .ok (.aastore, 1) ∧ decode cX0_dropOldest 30 = .ok (.iinc 2 1, 3) ∧ decode cX0_dropOldest 33 = .ok (.goto (-24), 3) ∧ decode cX0_dropOldest 36 = .ok (.aload_n 0, 1) ∧ decode cX0_dropOldest 37 = .ok (.getfield 11, 3) ∧ decode cX0_dropOldest 40 = .ok (.iconst 3, 1) ∧ decode cX0_dropOldest 41 = .ok (.aload_n 1, 1) ∧ decode cX0_dropOldest 42 = .ok (.aastore, 1) ∧ decode cX0_dropOldest 43 = .ok (.aload_n 0, 1) ∧ decode cX0_dropOldest 44 = .ok (.iconst 3, 1) ∧ decode cX0_dropOldest 45 = .ok (.putfield 18, 3) ∧ decode cX0_dropOldest 48 = .ok (.return_, 1) ∧ True := dq_of (l := (0, .aload_n 0, 1) :: (1, .getfield 11, 3) :: (4, .iconst 0, 1) :: (5, .aaload, 1) :: (6, .astore_n 1, 1) :: (7, .iconst 0, 1) :: (8, .istore_n 2, 1) :: (9, .iload_n 2, 1) :: (10, .iconst 1, 1) :: (11, .iadd, 1) :: (12, .iconst 4, 1) :: (13, .if_icmp .ge 23, 3) :: (16, .aload_n 0, 1) :: (17, .getfield 11, 3) :: (20, .iload_n 2, 1) :: (21, .aload_n 0, 1) :: (22, .getfield 11, 3) :: (25, .iload_n 2, 1) :: (26, .iconst 1, 1) :: (27, .iadd, 1) :: (28, .aaload, 1) :: (29, .aastore, 1) :: (30, .iinc 2 1, 3) :: (33, .goto (-24), 3) :: (36, .aload_n 0, 1) :: (37, .getfield 11, 3) :: (40, .iconst 3, 1) :: (41, .aload_n 1, 1) :: (42, .aastore, 1) :: (43, .aload_n 0, 1) :: (44, .iconst 3, 1) :: (45, .putfield 18, 3) :: (48, .return_, 1) :: []) (by decide +kernel)
theorem e_X0_dropOldest_0 : decode cX0_dropOldest 0 = .ok (.aload_n 0, 1) := D_X0_dropOldest_0.1
theorem e_X0_dropOldest_1 : decode cX0_dropOldest 1 = .ok (.getfield 11, 3) := D_X0_dropOldest_0.2.1
theorem e_X0_dropOldest_4 : decode cX0_dropOldest 4 = .ok (.iconst 0, 1) := D_X0_dropOldest_0.2.2.1
theorem e_X0_dropOldest_5 : decode cX0_dropOldest 5 = .ok (.aaload, 1) := D_X0_dropOldest_0.2.2.2.1
theorem e_X0_dropOldest_6 : decode cX0_dropOldest 6 = .ok (.astore_n 1, 1) := D_X0_dropOldest_0.2.2.2.2.1
theorem e_X0_dropOldest_7 : decode cX0_dropOldest 7 = .ok (.iconst 0, 1) := D_X0_dropOldest_0.2.2.2.2.2.1
theorem e_X0_dropOldest_8 : decode cX0_dropOldest 8 = .ok (.istore_n 2, 1) := D_X0_dropOldest_0.2.2.2.2.2.2.1
theorem e_X0_dropOldest_9 : decode cX0_dropOldest 9 = .ok (.iload_n 2, 1) := D_X0_dropOldest_0.2.2.2.2.2.2.2.1
theorem e_X0_dropOldest_10 : decode cX0_dropOldest 10 = .ok (.iconst 1, 1) := D_X0_dropOldest_0.2.2.2.2.2.2.2.2.1
theorem e_X0_dropOldest_11 : decode cX0_dropOldest 11 = .ok (.iadd, 1) := D_X0_dropOldest_0.2.2.2.2.2.2.2.2.2.1
theorem e_X0_dropOldest_12 : decode cX0_dropOldest 12 = .ok (.iconst 4, 1) := D_X0_dropOldest_0.2.2.2.2.2.2.2.2.2.2.1
theorem e_X0_dropOldest_13 : decode cX0_dropOldest 13 = .ok (.if_icmp .ge 23, 3) := D_X0_dropOldest_0.2.2.2.2.2.2.2.2.2.2.2.1
theorem e_X0_dropOldest_16 : decode cX0_dropOldest 16 = .ok (.aload_n 0, 1) := D_X0_dropOldest_0.2.2.2.2.2.2.2.2.2.2.2.2.1
theorem e_X0_dropOldest_17 : decode cX0_dropOldest 17 = .ok (.getfield 11, 3) := D_X0_dropOldest_0.2.2.2.2.2.2.2.2.2.2.2.2.2.1
theorem e_X0_dropOldest_20 : decode cX0_dropOldest 20 = .ok (.iload_n 2, 1) := D_X0_dropOldest_0.2.2.2.2.2.2.2.2.2.2.2.2.2.2.1
theorem e_X0_dropOldest_21 : decode cX0_dropOldest 21 = .ok (.aload_n 0, 1) := D_X0_dropOldest_0.2.2.2.2.2.2.2.2.2.2.2.2.2.2.2.1
theorem e_X0_dropOldest_22 : decode cX0_dropOldest 22 = .ok (.getfield 11, 3) := D_X0_dropOldest_0.2.2.2.2.2.2.2.2.2.2.2.2.2.2.2.2.1
theorem e_X0_dropOldest_25 : decode cX0_dropOldest 25 = .ok (.iload_n 2, 1) := D_X0_dropOldest_0.2.2.2.2.2.2.2.2.2.2.2.2.2.2.2.2.2.1
theorem e_X0_dropOldest_26 : decode cX0_dropOldest 26 = .ok (.iconst 1, 1) := D_X0_dropOldest_0.2.2.2.2.2.2.2.2.2.2.2.2.2.2.2.2.2.2.1
theorem e_X0_dropOldest_27 : decode cX0_dropOldest 27 = .ok (.iadd, 1) := D_X0_dropOldest_0.2.2.2.2.2.2.2.2.2.2.2.2.2.2.2.2.2.2.2.1
theorem e_X0_dropOldest_28 : decode cX0_dropOldest 28 = .ok (.aaload, 1) := D_X0_dropOldest_0.2.2.2.2.2.2.2.2.2.2.2.2.2.2.2.2.2.2.2.2.1
theorem e_X0_dropOldest_29 : decode cX0_dropOldest 29 = .ok (.aastore, 1) := D_X0_dropOldest_0.2.2.2.2.2.2.2.2.2.2.2.2.2.2.2.2.2.2.2.2.2.1
theorem e_X0_dropOldest_30 : decode cX0_dropOldest 30 = .ok (.iinc 2 1, 3) := D_X0_dropOldest_0.2.2.2.2.2.2.2.2.2.2.2.2.2.2.2.2.2.2.2.2.2.2.1
theorem e_X0_dropOldest_33 : decode cX0_dropOldest 33 = .ok (.goto (-24), 3) := D_X0_dropOldest_0.2.2.2.2.2.2.2.2.2.2.2.2.2.2.2.2.2.2.2.2.2.2.2.1
theorem e_X0_dropOldest_36 : decode cX0_dropOldest 36 = .ok (.aload_n 0, 1) := D_X0_dropOldest_0.2.2.2.2.2.2.2.2.2.2.2.2.2.2.2.2.2.2.2.2.2.2.2.2.1
theorem e_X0_dropOldest_37 : decode cX0_dropOldest 37 = .ok (.getfield 11, 3) := D_X0_dropOldest_0.2.2.2.2.2.2.2.2.2.2.2.2.2.2.2.2.2.2.2.2.2.2.2.2.2.1
theorem e_X0_dropOldest_40 : decode cX0_dropOldest 40 = .ok (.iconst 3, 1) := D_X0_dropOldest_0.2.2.2.2.2.2.2.2.2.2.2.2.2.2.2.2.2.2.2.2.2.2.2.2.2.2.1
theorem e_X0_dropOldest_41 : decode cX0_dropOldest 41 = .ok (.aload_n 1, 1) := D_X0_dropOldest_0.2.2.2.2.2.2.2.2.2.2.2.2.2.2.2.2.2.2.2.2.2.2.2.2.2.2.2.1
theorem e_X0_dropOldest_42 : decode cX0_dropOldest 42 = .ok (.aastore, 1) := D_X0_dropOldest_0.2.2.2.2.2.2.2.2.2.2.2.2.2.2.2.2.2.2.2.2.2.2.2.2.2.2.2.2.1
theorem e_X0_dropOldest_43 : decode cX0_dropOldest 43 = .ok (.aload_n 0, 1) := D_X0_dropOldest_0.2.2.2.2.2.2.2.2.2.2.2.2.2.2.2.2.2.2.2.2.2.2.2.2.2.2.2.2.2.1
theorem e_X0_dropOldest_44 : decode cX0_dropOldest 44 = .ok (.iconst 3, 1) := D_X0_dropOldest_0.2.2.2.2.2.2.2.2.2.2.2.2.2.2.2.2.2.2.2.2.2.2.2.2.2.2.2.2.2.2.1
theorem e_X0_dropOldest_45 : decode cX0_dropOldest 45 = .ok (.putfield 18, 3) := D_X0_dropOldest_0.2.2.2.2.2.2.2.2.2.2.2.2.2.2.2.2.2.2.2.2.2.2.2.2.2.2.2.2.2.2.2.1
theorem e_X0_dropOldest_48 : decode cX0_dropOldest 48 = .ok (.return_, 1) := D_X0_dropOldest_0.2.2.2.2.2.2.2.2.2.2.2.2.2.2.2.2.2.2.2.2.2.2.2.2.2.2.2.2.2.2.2.2.1
set_option maxRecDepth 100000 in
theorem D_X0_restore_0 : decode cX0_restore 0 = .ok (.aload_n 0, 1) ∧ decode cX0_restore 1 = .ok (.getfield 18, 3) ∧ decode cX0_restore 4 = .ok (.iconst 1, 1) ∧ decode cX0_restore 5 = .ok (.if_icmp .lt 11, 3) ∧ decode cX0_restore 8 = .ok (.aload_n 0, 1) ∧ decode cX0_restore 9 = .ok (.getfield 18, 3) ∧ decode cX0_restore 12 = .ok (.iconst 4, 1) ∧ decode cX0_restore 13 = .ok (.if_icmp .le 5, 3) ∧ decode cX0_restore 16 = .ok (.iconst 0, 1) ∧ decode cX0_restore 17 = .ok (.ireturn, 1) ∧ decode cX0_restore 18 = .ok (.aload_n 0, 1) ∧ decode cX0_restore 19 = .ok (.dup, 1) ∧ decode cX0_restore 20 = .ok (.getfield 18, 3) ∧ decode cX0_restore 23 = .ok (.iconst 1, 1) ∧ decode cX0_restore 24 = .ok (.isub, 1) ∧ decode cX0_restore 25 = .ok (.putfield 18, 3) ∧ decode cX0_restore 28 = .ok (.aload_n 1, 1) ∧ decode cX0_restore 29 = .ok (.aload_n 0, 1) ∧ decode cX0_restore 30 = .ok (.getfield 11, 3) ∧ decode cX0_restore 33 = .ok (.aload_n 0, 1) ∧ decode cX0_restore 34 = .ok (.getfield 18, 3) ∧ decode cX0_restore 37 = .ok (.aaload, 1) ∧ decode cX0_restore 38 = .ok (.invokevirtual 25, 3) ∧ decode cX0_restore 41 = .ok (.iconst 1, 1) ∧ decode cX0_restore 42 = .ok (.ireturn, 1) ∧ True := dq_of (l := (0, .aload_n 0, 1) :: (1, .getfield 18, 3) :: (4, .iconst 1, 1) :: (5, .if_icmp .lt 11, 3) :: (8, .aload_n 0, 1) :: (9, .getfield 18, 3) :: (12, .iconst 4, 1) :: (13, .if_icmp .le 5, 3) :: (16, .iconst 0, 1) :: (17, .ireturn, 1) :: (18, .aload_n 0, 1) :: (19, .dup, 1) :: (20, .getfield 18, 3) :: (23, .iconst 1, 1) :: (24, .isub, 1) :: (25, .putfield 18, 3) :: (28, .aload_n 1, 1) :: (29, .aload_n 0, 1) :: (30, .getfield 11, 3) :: (33, .aload_n 0, 1) :: (34, .getfield 18, 3) :: (37, .aaload, 1) :: (38, .invokevirtual 25, 3) :: (41, .iconst 1, 1) :: (42, .ireturn, 1) :: []) (by decide +kernel)
theorem e_X0_restore_0 : decode cX0_restore 0 = .ok (.aload_n 0, 1) := D_X0_restore_0.1
theorem e_X0_restore_1 : decode cX0_restore 1 = .ok (.getfield 18, 3) := D_X0_restore_0.2.1
theorem e_X0_restore_4 : decode cX0_restore 4 = .ok (.iconst 1, 1) := D_X0_restore_0.2.2.1
theorem e_X0_restore_5 : decode cX0_restore 5 = .ok (.if_icmp .lt 11, 3) := D_X0_restore_0.2.2.2.1
theorem e_X0_restore_8 : decode cX0_restore 8 = .ok (.aload_n 0, 1) := D_X0_restore_0.2.2.2.2.1
theorem e_X0_restore_9 : decode cX0_restore 9 = .ok (.getfield 18, 3) := D_X0_restore_0.2.2.2.2.2.1
theorem e_X0_restore_12 : decode cX0_restore 12 = .ok (.iconst 4, 1) := D_X0_restore_0.2.2.2.2.2.2.1
theorem e_X0_restore_13 : decode cX0_restore 13 = .ok (.if_icmp .le 5, 3) := D_X0_restore_0.2.2.2.2.2.2.2.1
theorem e_X0_restore_16 : decode cX0_restore 16 = .ok (.iconst 0, 1) := D_X0_restore_0.2.2.2.2.2.2.2.2.1
theorem e_X0_restore_17 : decode cX0_restore 17 = .ok (.ireturn, 1) := D_X0_restore_0.2.2.2.2.2.2.2.2.2.1
theorem e_X0_restore_18 : decode cX0_restore 18 = .ok (.aload_n 0, 1) := D_X0_restore_0.2.2.2.2.2.2.2.2.2.2.1
theorem e_X0_restore_19 : decode cX0_restore 19 = .ok (.dup, 1) := D_X0_restore_0.2.2.2.2.2.2.2.2.2.2.2.1
theorem e_X0_restore_20 : decode cX0_restore 20 = .ok (.getfield 18, 3) := D_X0_restore_0.2.2.2.2.2.2.2.2.2.2.2.2.1
theorem e_X0_restore_23 : decode cX0_restore 23 = .ok (.iconst 1, 1) := D_X0_restore_0.2.2.2.2.2.2.2.2.2.2.2.2.2.1
theorem e_X0_restore_24 : decode cX0_restore 24 = .ok (.isub, 1) := D_X0_restore_0.2.2.2.2.2.2.2.2.2.2.2.2.2.2.1
theorem e_X0_restore_25 : decode cX0_restore 25 = .ok (.putfield 18, 3) := D_X0_restore_0.2.2.2.2.2.2.2.2.2.2.2.2.2.2.2.1
theorem e_X0_restore_28 : decode cX0_restore 28 = .ok (.aload_n 1, 1) := D_X0_restore_0.2.2.2.2.2.2.2.2.2.2.2.2.2.2.2.2.1
theorem e_X0_restore_29 : decode cX0_restore 29 = .ok (.aload_n 0, 1) := D_X0_restore_0.2.2.2.2.2.2.2.2.2.2.2.2.2.2.2.2.2.1
theorem e_X0_restore_30 : decode cX0_restore 30 = .ok (.getfield 11, 3) := D_X0_restore_0.2.2.2.2.2.2.2.2.2.2.2.2.2.2.2.2.2.2.1
theorem e_X0_restore_33 : decode cX0_restore 33 = .ok (.aload_n 0, 1) := D_X0_restore_0.2.2.2.2.2.2.2.2.2.2.2.2.2.2.2.2.2.2.2.1
theorem e_X0_restore_34 : decode cX0_restore 34 = .ok (.getfield 18, 3) := D_X0_restore_0.2.2.2.2.2.2.2.2.2.2.2.2.2.2.2.2.2.2.2.2.1
theorem e_X0_restore_37 : decode cX0_restore 37 = .ok (.aaload, 1) := D_X0_restore_0.2.2.2.2.2.2.2.2.2.2.2.2.2.2.2.2.2.2.2.2.2.1
theorem e_X0_restore_38 : decode cX0_restore 38 = .ok (.invokevirtual 25, 3) := D_X0_restore_0.2.2.2.2.2.2.2.2.2.2.2.2.2.2.2.2.2.2.2.2.2.2.1
theorem e_X0_restore_41 : decode cX0_restore 41 = .ok (.iconst 1, 1) := D_X0_restore_0.2.2.2.2.2.2.2.2.2.2.2.2.2.2.2.2.2.2.2.2.2.2.2.1
theorem e_X0_restore_42 : decode cX0_restore 42 = .ok (.ireturn, 1) := D_X0_restore_0.2.2.2.2.2.2.2.2.2.2.2.2.2.2.2.2.2.2.2.2.2.2.2.2.1
set_option maxRecDepth 100000 in
theorem D_X1_init_0 : decode cX1_init 0 = .ok (.aload_n 0, 1) ∧ decode cX1_init 1 = .ok (.invokespecial 3, 3) ∧ decode cX1_init 4 = .ok (.return_, 1) ∧ True := dq_of (l := (0, .aload_n 0, 1) :: (1, .invokespecial 3, 3) :: (4, .return_, 1) :: []) (by decide +kernel)
theorem e_X1_init_0 : decode cX1_init 0 = .ok (.aload_n 0, 1) := D_X1_init_0.1
theorem e_X1_init_1 : decode cX1_init 1 = .ok (.invokespecial 3, 3) := D_X1_init_0.2.1
theorem e_X1_init_4 : decode cX1_init 4 = .ok (.return_, 1) := D_X1_init_0.2.2.1
set_option maxRecDepth 100000 in
theorem D_X1_describe_0 : decode cX1_describe 0 = .ok (.aload_n 0, 1) ∧ decode cX1_describe 1 = .ok (.iload_n 1, 1) ∧ decode cX1_describe 2 = .ok (.putfield 9, 3) ∧ decode cX1_describe 5 = .ok (.aload_n 0, 1) ∧ decode cX1_describe 6 = .ok (.iload_n 2, 1) ∧ decode cX1_describe 7 = .ok (.putfield 15, 3) ∧ decode cX1_describe 10 = .ok (.aload_n 0, 1) ∧ decode cX1_describe 11 = .ok (.iload_n 3, 1) ∧ decode cX1_describe 12 = .ok (.putfield 18, 3) ∧ decode cX1_describe 15 = .ok (.aload_n 0, 1) ∧ decode cX1_describe 16 = .ok (.iload 4, 2) ∧ decode cX1_describe 18 = .ok (.putfield 21, 3) ∧ decode cX1_describe 21 = .ok (.aload_n 0, 1) ∧ decode cX1_describe 22 = .ok (.iload 5, 2) ∧ decode cX1_describe 24 = .ok (.putfield 24, 3) ∧ decode cX1_describe 27 = .ok (.aload_n 0, 1) ∧ decode cX1_describe 28 = .ok (.aload_n 0, 1) ∧ decode cX1_describe 29 = .ok (.getfield 24, 3) ∧ decode cX1_describe 32 = .ok (.iconst 1, 1) ∧ decode cX1_describe 33 = .ok (.iand, 1) ∧ decode cX1_describe 34 = .ok (.ifCond .eq 7, 3) ∧ decode cX1_describe 37 = .ok (.iconst 1, 1) ∧ decode cX1_describe 38 = .ok (.goto 4, 3) ∧ decode cX1_describe 41 = .ok (.iconst 0, 1) ∧ decode cX1_describe 42 = .ok (.putfield 27, 3) ∧ decode cX1_describe 45 = .ok (.aload_n 0, 1) ∧ decode cX1_describe 46 = .ok (.aload_n 0, 1) ∧ decode cX1_describe 47 = .ok (.getfield 24, 3) ∧ decode cX1_describe 50 = .ok (.iconst 2, 1) ∧ decode cX1_describe 51 = .ok (.iand, 1) ∧ decode cX1_describe 52 = .ok (.ifCond .eq 7, 3) ∧ decode cX1_describe 55 = .ok (.iconst 1, 1) ∧ decode cX1_describe 56 = .ok (.goto 4, 3) ∧ decode cX1_describe 59 = .ok (.iconst 0, 1) ∧ decode cX1_describe 60 = .ok (.putfield 31, 3) ∧ decode cX1_describe 63 = .ok (.aload_n 0, 1) ∧ decode cX1_describe 64 = .ok (.aload_n 0, 1) ∧ decode cX1_describe 65 = .ok (.getfield 24, 3) ∧ decode cX1_describe 68 = .ok (.bipush 8, 2) ∧ decode cX1_describe 70 = .ok (.iand, 1) ∧ True := dq_of (l := (0, .aload_n 0, 1) :: (1, .iload_n 1, 1) :: (2, .putfield 9, 3) :: (5, .aload_n 0, 1) :: (6, .iload_n 2, 1) :: (7, .putfield 15, 3) :: (10, .aload_n 0, 1) :: (11, .iload_n 3, 1) :: (12, .putfield 18, 3) :: (15, .aload_n 0, 1) :: (16, .iload 4, 2) :: (18, .putfield 21, 3) :: (21, .aload_n 0, 1) :: (22, .iload 5, 2) :: (24, .putfield 24, 3) :: (27, .aload_n 0, 1) :: (28, .aload_n 0, 1) :: (29, .getfield 24, 3) :: (32, .iconst 1, 1) :: (33, .iand, 1) :: (34, .ifCond .eq 7, 3) :: (37, .iconst 1, 1) :: (38, .goto 4, 3) :: (41, .iconst 0, 1) :: (42, .putfield 27, 3) :: (45, .aload_n 0, 1) :: (46, .aload_n 0, 1) :: (47, .getfield 24, 3) :: (50, .iconst 2, 1) :: (51, .iand, 1) :: (52, .ifCond .eq 7, 3) :: (55, .iconst 1, 1) :: (56, .goto 4, 3) :: (59, .iconst 0, 1) :: (60, .putfield 31, 3) :: (63, .aload_n 0, 1) :: (64, .aload_n 0, 1) :: (65, .getfield 24, 3) :: (68, .bipush 8, 2) :: (70, .iand, 1) :: []) (by decide +kernel)
theorem e_X1_describe_0 : decode cX1_describe 0 = .ok (.aload_n 0, 1) := D_X1_describe_0.1
theorem e_X1_describe_1 : decode cX1_describe 1 = .ok (.iload_n 1, 1) := D_X1_describe_0.2.1
theorem e_X1_describe_2 : decode cX1_describe 2 = .ok (.putfield 9, 3) := D_X1_describe_0.2.2.1
theorem e_X1_describe_5 : decode cX1_describe 5 = .ok (.aload_n 0, 1) := D_X1_describe_0.2.2.2.1
theorem e_X1_describe_6 : decode cX1_describe 6 = .ok (.iload_n 2, 1) := D_X1_describe_0.2.2.2.2.1
theorem e_X1_describe_7 : decode cX1_describe 7 = .ok (.putfield 15, 3) := D_X1_describe_0.2.2.2.2.2.1
theorem e_X1_describe_10 : decode cX1_describe 10 = .ok (.aload_n 0, 1) := D_X1_describe_0.2.2.2.2.2.2.1
theorem e_X1_describe_11 : decode cX1_describe 11 = .ok (.iload_n 3, 1) := D_X1_describe_0.2.2.2.2.2.2.2.1
theorem e_X1_describe_12 : decode cX1_describe 12 = .ok (.putfield 18, 3) := D_X1_describe_0.2.2.2.2.2.2.2.2.1
theorem e_X1_describe_15 : decode cX1_describe 15 = .ok (.aload_n 0, 1) := D_X1_describe_0.2.2.2.2.2.2.2.2.2.1
theorem e_X1_describe_16 : decode cX1_describe 16 = .ok (.iload 4, 2) := D_X1_describe_0.2.2.2.2.2.2.2.2.2.2.1
theorem e_X1_describe_18 : decode cX1_describe 18 = .ok (.putfield 21, 3) := D_X1_describe_0.2.2.2.2.2.2.2.2.2.2.2.1
theorem e_X1_describe_21 : decode cX1_describe 21 = .ok (.aload_n 0, 1) := D_X1_describe_0.2.2.2.2.2.2.2.2.2.2.2.2.1
theorem e_X1_describe_22 : decode cX1_describe 22 = .ok (.iload 5, 2) := D_X1_describe_0.2.2.2.2.2.2.2.2.2.2.2.2.2.1
theorem e_X1_describe_24 : decode cX1_describe 24 = .ok (.putfield 24, 3) := D_X1_describe_0.2.2.2.2.2.2.2.2.2.2.2.2.2.2.1
theorem e_X1_describe_27 : decode cX1_describe 27 = .ok (.aload_n 0, 1) := D_X1_describe_0.2.2.2.2.2.2.2.2.2.2.2.2.2.2.2.1
theorem e_X1_describe_28 : decode cX1_describe 28 = .ok (.aload_n 0, 1) := D_X1_describe_0.2.2.2.2.2.2.2.2.2.2.2.2.2.2.2.2.1
theorem e_X1_describe_29 : decode cX1_describe 29 = .ok (.getfield 24, 3) := D_X1_describe_0.2.2.2.2.2.2.2.2.2.2.2.2.2.2.2.2.2.1
theorem e_X1_describe_32 : decode cX1_describe 32 = .ok (.iconst 1, 1) := D_X1_describe_0.2.2.2.2.2.2.2.2.2.2.2.2.2.2.2.2.2.2.1
theorem e_X1_describe_33 : decode cX1_describe 33 = .ok (.iand, 1) := D_X1_describe_0.2.2.2.2.2.2.2.2.2.2.2.2.2.2.2.2.2.2.2.1
theorem e_X1_describe_34 : decode cX1_describe 34 = .ok (.ifCond .eq 7, 3) := D_X1_describe_0.2.2.2.2.2.2.2.2.2.2.2.2.2.2.2.2.2.2.2.2.1
theorem e_X1_describe_37 : decode cX1_describe 37 = .ok (.iconst 1, 1) := D_X1_describe_0.2.2.2.2.2.2.2.2.2.2.2.2.2.2.2.2.2.2.2.2.2.1
theorem e_X1_describe_38 : decode cX1_describe 38 = .ok (.goto 4, 3) := D_X1_describe_0.2.2.2.2.2.2.2.2.2.2.2.2.2.2.2.2.2.2.2.2.2.2.1
theorem e_X1_describe_41 : decode cX1_describe 41 = .ok (.iconst 0, 1) := D_X1_describe_0.2.2.2.2.2.2.2.2.2.2.2.2.2.2.2.2.2.2.2.2.2.2.2.1
theorem e_X1_describe_42 : decode cX1_describe 42 = .ok (.putfield 27, 3) := D_X1_describe_0.2.2.2.2.2.2.2.2.2.2.2.2.2.2.2.2.2.2.2.2.2.2.2.2.1
theorem e_X1_describe_45 : decode cX1_describe 45 = .ok (.aload_n 0, 1) := D_X1_describe_0.2.2.2.2.2.2.2.2.2.2.2.2.2.2.2.2.2.2.2.2.2.2.2.2.2.1
theorem e_X1_describe_46 : decode cX1_describe 46 = .ok (.aload_n 0, 1) := D_X1_describe_0.2.2.2.2.2.2.2.2.2.2.2.2.2.2.2.2.2.2.2.2.2.2.2.2.2.2.1
theorem e_X1_describe_47 : decode cX1_describe 47 = .ok (.getfield 24, 3) := D_X1_describe_0.2.2.2.2.2.2.2.2.2.2.2.2.2.2.2.2.2.2.2.2.2.2.2.2.2.2.2.1
theorem e_X1_describe_50 : decode cX1_describe 50 = .ok (.iconst 2, 1) := D_X1_describe_0.2.2.2.2.2.2.2.2.2.2.2.2.2.2.2.2.2.2.2.2.2.2.2.2.2.2.2.2.1
theorem e_X1_describe_51 : decode cX1_describe 51 = .ok (.iand, 1) := D_X1_describe_0.2.2.2.2.2.2.2.2.2.2.2.2.2.2.2.2.2.2.2.2.2.2.2.2.2.2.2.2.2.1
theorem e_X1_describe_52 : decode cX1_describe 52 = .ok (.ifCond .eq 7, 3) := D_X1_describe_0.2.2.2.2.2.2.2.2.2.2.2.2.2.2.2.2.2.2.2.2.2.2.2.2.2.2.2.2.2.2.1
theorem e_X1_describe_55 : decode cX1_describe 55 = .ok (.iconst 1, 1) := D_X1_describe_0.2.2.2.2.2.2.2.2.2.2.2.2.2.2.2.2.2.2.2.2.2.2.2.2.2.2.2.2.2.2.2.1
theorem e_X1_describe_56 : decode cX1_describe 56 = .ok (.goto 4, 3) := D_X1_describe_0.2.2.2.2.2.2.2.2.2.2.2.2.2.2.2.2.2.2.2.2.2.2.2.2.2.2.2.2.2.2.2.2.1
theorem e_X1_describe_59 : decode cX1_describe 59 = .ok (.iconst 0, 1) := D_X1_describe_0.2.2.2.2.2.2.2.2.2.2.2.2.2.2.2.2.2.2.2.2.2.2.2.2.2.2.2.2.2.2.2.2.2.1
theorem e_X1_describe_60 : decode cX1_describe 60 = .ok (.putfield 31, 3) := D_X1_describe_0.2.2.2.2.2.2.2.2.2.2.2.2.2.2.2.2.2.2.2.2.2.2.2.2.2.2.2.2.2.2.2.2.2.2.1
theorem e_X1_describe_63 : decode cX1_describe 63 = .ok (.aload_n 0, 1) := D_X1_describe_0.2.2.2.2.2.2.2.2.2.2.2.2.2.2.2.2.2.2.2.2.2.2.2.2.2.2.2.2.2.2.2.2.2.2.2.1
theorem e_X1_describe_64 : decode cX1_describe 64 = .ok (.aload_n 0, 1) := D_X1_describe_0.2.2.2.2.2.2.2.2.2.2.2.2.2.2.2.2.2.2.2.2.2.2.2.2.2.2.2.2.2.2.2.2.2.2.2.2.1
theorem e_X1_describe_65 : decode cX1_describe 65 = .ok (.getfield 24, 3) := D_X1_describe_0.2.2.2.2.2.2.2.2.2.2.2.2.2.2.2.2.2.2.2.2.2.2.2.2.2.2.2.2.2.2.2.2.2.2.2.2.2.1
theorem e_X1_describe_68 : decode cX1_describe 68 = .ok (.bipush 8, 2) := D_X1_describe_0.2.2.2.2.2.2.2.2.2.2.2.2.2.2.2.2.2.2.2.2.2.2.2.2.2.2.2.2.2.2.2.2.2.2.2.2.2.2.1
theorem e_X1_describe_70 : decode cX1_describe 70 = .ok (.iand, 1) := D_X1_describe_0.2.2.2.2.2.2.2.2.2.2.2.2.2.2.2.2.2.2.2.2.2.2.2.2.2.2.2.2.2.2.2.2.2.2.2.2.2.2.2.1
set_option maxRecDepth 100000 in
theorem D_X1_describe_1 : decode cX1_describe 71 = .ok (.ifCond .eq 7, 3) ∧ decode cX1_describe 74 = .ok (.iconst 2, 1) ∧ decode cX1_describe 75 = .ok (.goto 17, 3) ∧ decode cX1_describe 78 = .ok (.aload_n 0, 1) ∧ decode cX1_describe 79 = .ok (.getfield 24, 3) ∧ decode cX1_describe 82 = .ok (.iconst 4, 1) ∧ decode cX1_describe 83 = .ok (.iand, 1) ∧ decode cX1_describe 84 = .ok (.ifCond .eq 7, 3) ∧ decode cX1_describe 87 = .ok (.iconst 1, 1) ∧ decode cX1_describe 88 = .ok (.goto 4, 3) ∧ decode cX1_describe 91 = .ok (.iconst 0, 1) ∧ decode cX1_describe 92 = .ok (.putfield 34, 3) ∧ decode cX1_describe 95 = .ok (.aload_n 0, 1) ∧ decode cX1_describe 96 = .ok (.aload_n 0, 1) ∧ decode cX1_describe 97 = .ok (.getfield 27, 3) ∧ decode cX1_describe 100 = .ok (.ifCond .eq 14, 3) ∧ decode cX1_describe 103 = .ok (.aload_n 0, 1) ∧ decode cX1_describe 104 = .ok (.getfield 9, 3) ∧ decode cX1_describe 107 = .ok (.iconst 1, 1) ∧ decode cX1_describe 108 = .ok (.iadd, 1) ∧ decode cX1_describe 109 = .ok (.iconst 2, 1) ∧ decode cX1_describe 110 = .ok (.idiv, 1) ∧ decode cX1_describe 111 = .ok (.goto 7, 3) ∧ decode cX1_describe 114 = .ok (.aload_n 0, 1) ∧ decode cX1_describe 115 = .ok (.getfield 9, 3) ∧ decode cX1_describe 118 = .ok (.putfield 37, 3) ∧ decode cX1_describe 121 = .ok (.aload_n 0, 1) ∧ decode cX1_describe 122 = .ok (.aload_n 0, 1) ∧ decode cX1_describe 123 = .ok (.getfield 37, 3) ∧ decode cX1_describe 126 = .ok (.aload_n 0, 1) ∧ decode cX1_describe 127 = .ok (.getfield 15, 3) ∧ decode cX1_describe 130 = .ok (.imul, 1) ∧ decode cX1_describe 131 = .ok (.putfield 40, 3) ∧ decode cX1_describe 134 = .ok (.aload_n 0, 1) ∧ decode cX1_describe 135 = .ok (.iconst 0, 1) ∧ decode cX1_describe 136 = .ok (.putfield 43, 3) ∧ decode cX1_describe 139 = .ok (.aload_n 0, 1) ∧ decode cX1_describe 140 = .ok (.iconst 0, 1) ∧ decode cX1_describe 141 = .ok (.putfield 46, 3) ∧ decode cX1_describe 144 = .ok (.aload_n 0, 1) ∧ True := dq_of (l := (71, .ifCond .eq 7, 3) :: (74, .iconst 2, 1) :: (75, .goto 17, 3) :: (78, .aload_n 0, 1) :: (79, .getfield 24, 3) :: (82, .iconst 4, 1) :: (83, .iand, 1) :: (84, .ifCond .eq 7, 3) :: (87, .iconst 1, 1) :: (88, .goto 4, 3) :: (91, .iconst 0, 1) :: (92, .putfield 34, 3) :: (95, .aload_n 0, 1) :: (96, .aload_n 0, 1) :: (97, .getfield 27, 3) :: (100, .ifCond .eq 14, 3) :: (103, .aload_n 0, 1) :: (104, .getfield 9, 3) :: (107, .iconst 1, 1) :: (108, .iadd, 1) :: (109, .iconst 2, 1) :: (110, .idiv, 1) :: (111, .goto 7, 3) :: (114, .aload_n 0, 1) :: (115, .getfield 9, 3) :: (118, .putfield 37, 3) :: (121, .aload_n 0, 1) :: (122, .aload_n 0, 1) :: (123, .getfield 37, 3) :: (126, .aload_n 0, 1) :: (127, .getfield 15, 3) :: (130, .imul, 1) :: (131, .putfield 40, 3) :: (134, .aload_n 0, 1) :: (135, .iconst 0, 1) :: (136, .putfield 43, 3) :: (139, .aload_n 0, 1) :: (140, .iconst 0, 1) :: (141, .putfield 46, 3) :: (144, .aload_n 0, 1) :: []) (by decide +kernel)
theorem e_X1_describe_71 : decode cX1_describe 71 = .ok (.ifCond .eq 7, 3) := D_X1_describe_1.1
theorem e_X1_describe_74 : decode cX1_describe 74 = .ok (.iconst 2, 1) := D_X1_describe_1.2.1
theorem e_X1_describe_75 : decode cX1_describe 75 = .ok (.goto 17, 3) := D_X1_describe_1.2.2.1
theorem e_X1_describe_78 : decode cX1_describe 78 = .ok (.aload_n 0, 1) := D_X1_describe_1.2.2.2.1
theorem e_X1_describe_79 : decode cX1_describe 79 = .ok (.getfield 24, 3) := D_X1_describe_1.2.2.2.2.1
theorem e_X1_describe_82 : decode cX1_describe 82 = .ok (.iconst 4, 1) := D_X1_describe_1.2.2.2.2.2.1
theorem e_X1_describe_83 : decode cX1_describe 83 = .ok (.iand, 1) := D_X1_describe_1.2.2.2.2.2.2.1
theorem e_X1_describe_84 : decode cX1_describe 84 = .ok (.ifCond .eq 7, 3) := D_X1_describe_1.2.2.2.2.2.2.2.1
theorem e_X1_describe_87 : decode cX1_describe 87 = .ok (.iconst 1, 1) := D_X1_describe_1.2.2.2.2.2.2.2.2.1
theorem e_X1_describe_88 : decode cX1_describe 88 = .ok (.goto 4, 3) := D_X1_describe_1.2.2.2.2.2.2.2.2.2.1
theorem e_X1_describe_91 : decode cX1_describe 91 = .ok (.iconst 0, 1) := D_X1_describe_1.2.2.2.2.2.2.2.2.2.2.1
theorem e_X1_describe_92 : decode cX1_describe 92 = .ok (.putfield 34, 3) := D_X1_describe_1.2.2.2.2.2.2.2.2.2.2.2.1
theorem e_X1_describe_95 : decode cX1_describe 95 = .ok (.aload_n 0, 1) := D_X1_describe_1.2.2.2.2.2.2.2.2.2.2.2.2.1
theorem e_X1_describe_96 : decode cX1_describe 96 = .ok (.aload_n 0, 1) := D_X1_describe_1.2.2.2.2.2.2.2.2.2.2.2.2.2.1
theorem e_X1_describe_97 : decode cX1_describe 97 = .ok (.getfield 27, 3) := D_X1_describe_1.2.2.2.2.2.2.2.2.2.2.2.2.2.2.1
theorem e_X1_describe_100 : decode cX1_describe 100 = .ok (.ifCond .eq 14, 3) := D_X1_describe_1.2.2.2.2.2.2.2.2.2.2.2.2.2.2.2.1
theorem e_X1_describe_103 : decode cX1_describe 103 = .ok (.aload_n 0, 1) := D_X1_describe_1.2.2.2.2.2.2.2.2.2.2.2.2.2.2.2.2.1
theorem e_X1_describe_104 : decode cX1_describe 104 = .ok (.getfield 9, 3) := D_X1_describe_1.2.2.2.2.2.2.2.2.2.2.2.2.2.2.2.2.2.1
theorem e_X1_describe_107 : decode cX1_describe 107 = .ok (.iconst 1, 1) := D_X1_describe_1.2.2.2.2.2.2.2.2.2.2.2.2.2.2.2.2.2.2.1
theorem e_X1_describe_108 : decode cX1_describe 108 = .ok (.iadd, 1) := D_X1_describe_1.2.2.2.2.2.2.2.2.2.2.2.2.2.2.2.2.2.2.2.1
theorem e_X1_describe_109 : decode cX1_describe 109 = .ok (.iconst 2, 1) := D_X1_describe_1.2.2.2.2.2.2.2.2.2.2.2.2.2.2.2.2.2.2.2.2.1
theorem e_X1_describe_110 : decode cX1_describe 110 = .ok (.idiv, 1) := D_X1_describe_1.2.2.2.2.2.2.2.2.2.2.2.2.2.2.2.2.2.2.2.2.2.1
theorem e_X1_describe_111 : decode cX1_describe 111 = .ok (.goto 7, 3) := D_X1_describe_1.2.2.2.2.2.2.2.2.2.2.2.2.2.2.2.2.2.2.2.2.2.2.1
theorem e_X1_describe_114 : decode cX1_describe 114 = .ok (.aload_n 0, 1) := D_X1_describe_1.2.2.2.2.2.2.2.2.2.2.2.2.2.2.2.2.2.2.2.2.2.2.2.1
theorem e_X1_describe_115 : decode cX1_describe 115 = .ok (.getfield 9, 3) := D_X1_describe_1.2.2.2.2.2.2.2.2.2.2.2.2.2.2.2.2.2.2.2.2.2.2.2.2.1
theorem e_X1_describe_118 : decode cX1_describe 118 = .ok (.putfield 37, 3) := D_X1_describe_1.2.2.2.2.2.2.2.2.2.2.2.2.2.2.2.2.2.2.2.2.2.2.2.2.2.1
theorem e_X1_describe_121 : decode cX1_describe 121 = .ok (.aload_n 0, 1) := D_X1_describe_1.2.2.2.2.2.2.2.2.2.2.2.2.2.2.2.2.2.2.2.2.2.2.2.2.2.2.1
theorem e_X1_describe_122 : decode cX1_describe 122 = .ok (.aload_n 0, 1) := D_X1_describe_1.2.2.2.2.2.2.2.2.2.2.2.2.2.2.2.2.2.2.2.2.2.2.2.2.2.2.2.1
theorem e_X1_describe_123 : decode cX1_describe 123 = .ok (.getfield 37, 3) := D_X1_describe_1.2.2.2.2.2.2.2.2.2.2.2.2.2.2.2.2.2.2.2.2.2.2.2.2.2.2.2.2.1
theorem e_X1_describe_126 : decode cX1_describe 126 = .ok (.aload_n 0, 1) := D_X1_describe_1.2.2.2.2.2.2.2.2.2.2.2.2.2.2.2.2.2.2.2.2.2.2.2.2.2.2.2.2.2.1
theorem e_X1_describe_127 : decode cX1_describe 127 = .ok (.getfield 15, 3) := D_X1_describe_1.2.2.2.2.2.2.2.2.2.2.2.2.2.2.2.2.2.2.2.2.2.2.2.2.2.2.2.2.2.2.1
theorem e_X1_describe_130 : decode cX1_describe 130 = .ok (.imul, 1) := D_X1_describe_1.2.2.2.2.2.2.2.2.2.2.2.2.2.2.2.2.2.2.2.2.2.2.2.2.2.2.2.2.2.2.2.1
theorem e_X1_describe_131 : decode cX1_describe 131 = .ok (.putfield 40, 3) := D_X1_describe_1.2.2.2.2.2.2.2.2.2.2.2.2.2.2.2.2.2.2.2.2.2.2.2.2.2.2.2.2.2.2.2.2.1
theorem e_X1_describe_134 : decode cX1_describe 134 = .ok (.aload_n 0, 1) := D_X1_describe_1.2.2.2.2.2.2.2.2.2.2.2.2.2.2.2.2.2.2.2.2.2.2.2.2.2.2.2.2.2.2.2.2.2.1
theorem e_X1_describe_135 : decode cX1_describe 135 = .ok (.iconst 0, 1) := D_X1_describe_1.2.2.2.2.2.2.2.2.2.2.2.2.2.2.2.2.2.2.2.2.2.2.2.2.2.2.2.2.2.2.2.2.2.2.1
theorem e_X1_describe_136 : decode cX1_describe 136 = .ok (.putfield 43, 3) := D_X1_describe_1.2.2.2.2.2.2.2.2.2.2.2.2.2.2.2.2.2.2.2.2.2.2.2.2.2.2.2.2.2.2.2.2.2.2.2.1
theorem e_X1_describe_139 : decode cX1_describe 139 = .ok (.aload_n 0, 1) := D_X1_describe_1.2.2.2.2.2.2.2.2.2.2.2.2.2.2.2.2.2.2.2.2.2.2.2.2.2.2.2.2.2.2.2.2.2.2.2.2.1
theorem e_X1_describe_140 : decode cX1_describe 140 = .ok (.iconst 0, 1) := D_X1_describe_1.2.2.2.2.2.2.2.2.2.2.2.2.2.2.2.2.2.2.2.2.2.2.2.2.2.2.2.2.2.2.2.2.2.2.2.2.2.1
theorem e_X1_describe_141 : decode cX1_describe 141 = .ok (.putfield 46, 3) := D_X1_describe_1.2.2.2.2.2.2.2.2.2.2.2.2.2.2.2.2.2.2.2.2.2.2.2.2.2.2.2.2.2.2.2.2.2.2.2.2.2.2.1
theorem e_X1_describe_144 : decode cX1_describe 144 = .ok (.aload_n 0, 1) := D_X1_describe_1.2.2.2.2.2.2.2.2.2.2.2.2.2.2.2.2.2.2.2.2.2.2.2.2.2.2.2.2.2.2.2.2.2.2.2.2.2.2.2.1
set_option maxRecDepth 100000 in
theorem D_X1_describe_2 : decode cX1_describe 145 = .ok (.iconst 0, 1) ∧ decode cX1_describe 146 = .ok (.putfield 49, 3) ∧ decode cX1_describe 149 = .ok (.aload_n 0, 1) ∧ decode cX1_describe 150 = .ok (.iconst 0, 1) ∧ decode cX1_describe 151 = .ok (.putfield 52, 3) ∧ decode cX1_describe 154 = .ok (.return_, 1) ∧ True := dq_of (l := (145, .iconst 0, 1) :: (146, .putfield 49, 3) :: (149, .aload_n 0, 1) :: (150, .iconst 0, 1) :: (151, .putfield 52, 3) :: (154, .return_, 1) :: []) (by decide +kernel)
theorem e_X1_describe_145 : decode cX1_describe 145 = .ok (.iconst 0, 1) := D_X1_describe_2.1
theorem e_X1_describe_146 : decode cX1_describe 146 = .ok (.putfield 49, 3) := D_X1_describe_2.2.1
theorem e_X1_describe_149 : decode cX1_describe 149 = .ok (.aload_n 0, 1) := D_X1_describe_2.2.2.1
theorem e_X1_describe_150 : decode cX1_describe 150 = .ok (.iconst 0, 1) := D_X1_describe_2.2.2.2.1
theorem e_X1_describe_151 : decode cX1_describe 151 = .ok (.putfield 52, 3) := D_X1_describe_2.2.2.2.2.1
theorem e_X1_describe_154 : decode cX1_describe 154 = .ok (.return_, 1) := D_X1_describe_2.2.2.2.2.2.1
set_option maxRecDepth 100000 in
theorem D_X1_copyFrom_0 : decode cX1_copyFrom 0 = .ok (.aload_n 0, 1) ∧ decode cX1_copyFrom 1 = .ok (.aload_n 1, 1) ∧ decode cX1_copyFrom 2 = .ok (.getfield 55, 3) ∧ decode cX1_copyFrom 5 = .ok (.putfield 55, 3) ∧ decode cX1_copyFrom 8 = .ok (.aload_n 0, 1) ∧ decode cX1_copyFrom 9 = .ok (.aload_n 1, 1) ∧ decode cX1_copyFrom 10 = .ok (.getfield 9, 3) ∧ decode cX1_copyFrom 13 = .ok (.putfield 9, 3) ∧ decode cX1_copyFrom 16 = .ok (.aload_n 0, 1) ∧ decode cX1_copyFrom 17 = .ok (.aload_n 1, 1) ∧ decode cX1_copyFrom 18 = .ok (.getfield 15, 3) ∧ decode cX1_copyFrom 21 = .ok (.putfield 15, 3) ∧ decode cX1_copyFrom 24 = .ok (.aload_n 0, 1) ∧ decode cX1_copyFrom 25 = .ok (.aload_n 1, 1) ∧ decode cX1_copyFrom 26 = .ok (.getfield 18, 3) ∧ decode cX1_copyFrom 29 = .ok (.putfield 18, 3) ∧ decode cX1_copyFrom 32 = .ok (.aload_n 0, 1) ∧ decode cX1_copyFrom 33 = .ok (.aload_n 1, 1) ∧ decode cX1_copyFrom 34 = .ok (.getfield 21, 3) ∧ decode cX1_copyFrom 37 = .ok (.putfield 21, 3) ∧ decode cX1_copyFrom 40 = .ok (.aload_n 0, 1) ∧ decode cX1_copyFrom 41 = .ok (.aload_n 1, 1) ∧ decode cX1_copyFrom 42 = .ok (.getfield 24, 3) ∧ decode cX1_copyFrom 45 = .ok (.putfield 24, 3) ∧ decode cX1_copyFrom 48 = .ok (.aload_n 0, 1) ∧ decode cX1_copyFrom 49 = .ok (.aload_n 1, 1) ∧ decode cX1_copyFrom 50 = .ok (.getfield 27, 3) ∧ decode cX1_copyFrom 53 = .ok (.putfield 27, 3) ∧ decode cX1_copyFrom 56 = .ok (.aload_n 0, 1) ∧ decode cX1_copyFrom 57 = .ok (.aload_n 1, 1) ∧ decode cX1_copyFrom 58 = .ok (.getfield 31, 3) ∧ decode cX1_copyFrom 61 = .ok (.putfield 31, 3) ∧ decode cX1_copyFrom 64 = .ok (.aload_n 0, 1) ∧ decode cX1_copyFrom 65 = .ok (.aload_n 1, 1) ∧ decode cX1_copyFrom 66 = .ok (.getfield 34, 3) ∧ decode cX1_copyFrom 69 = .ok (.putfield 34, 3) ∧ decode cX1_copyFrom 72 = .ok (.aload_n 0, 1) ∧ decode cX1_copyFrom 73 = .ok (.aload_n 1, 1) ∧ decode cX1_copyFrom 74 = .ok (.getfield 37, 3) ∧ decode cX1_copyFrom 77 = .ok (.putfield 37, 3) ∧ True := dq_of (l := (0, .aload_n 0, 1) :: (1, .aload_n 1, 1) :: (2, .getfield 55, 3) :: (5, .putfield 55, 3) :: (8, .aload_n 0, 1) :: (9, .aload_n 1, 1) :: (10, .getfield 9, 3) :: (13, .putfield 9, 3) :: (16, .aload_n 0, 1) :: (17, .aload_n 1, 1) :: (18, .getfield 15, 3) :: (21, .putfield 15, 3) :: (24, .aload_n 0, 1) :: (25, .aload_n 1, 1) :: (26, .getfield 18, 3) :: (29, .putfield 18, 3) :: (32, .aload_n 0, 1) :: (33, .aload_n 1, 1) :: (34, .getfield 21, 3) :: (37, .putfield 21, 3) :: (40, .aload_n 0, 1) :: (41, .aload_n 1, 1) :: (42, .getfield 24, 3) :: (45, .putfield 24, 3) :: (48, .aload_n 0, 1) :: (49, .aload_n 1, 1) :: (50, .getfield 27, 3) :: (53, .putfield 27, 3) :: (56, .aload_n 0, 1) :: (57, .aload_n 1, 1) :: (58, .getfield 31, 3) :: (61, .putfield 31, 3) :: (64, .aload_n 0, 1) :: (65, .aload_n 1, 1) :: (66, .getfield 34, 3) :: (69, .putfield 34, 3) :: (72, .aload_n 0, 1) :: (73, .aload_n 1, 1) :: (74, .getfield 37, 3) :: (77, .putfield 37, 3) :: []) (by decide +kernel)
theorem e_X1_copyFrom_0 : decode cX1_copyFrom 0 = .ok (.aload_n 0, 1) := D_X1_copyFrom_0.1
theorem e_X1_copyFrom_1 : decode cX1_copyFrom 1 = .ok (.aload_n 1, 1) := D_X1_copyFrom_0.2.1
theorem e_X1_copyFrom_2 : decode cX1_copyFrom 2 = .ok (.getfield 55, 3) := D_X1_copyFrom_0.2.2.1
theorem e_X1_copyFrom_5 : decode cX1_copyFrom 5 = .ok (.putfield 55, 3) := D_X1_copyFrom_0.2.2.2.1
theorem e_X1_copyFrom_8 : decode cX1_copyFrom 8 = .ok (.aload_n 0, 1) := D_X1_copyFrom_0.2.2.2.2.1
theorem e_X1_copyFrom_9 : decode cX1_copyFrom 9 = .ok (.aload_n 1, 1) := D_X1_copyFrom_0.2.2.2.2.2.1
theorem e_X1_copyFrom_10 : decode cX1_copyFrom 10 = .ok (.getfield 9, 3) := D_X1_copyFrom_0.2.2.2.2.2.2.1
theorem e_X1_copyFrom_13 : decode cX1_copyFrom 13 = .ok (.putfield 9, 3) := D_X1_copyFrom_0.2.2.2.2.2.2.2.1
theorem e_X1_copyFrom_16 : decode cX1_copyFrom 16 = .ok (.aload_n 0, 1) := D_X1_copyFrom_0.2.2.2.2.2.2.2.2.1
theorem e_X1_copyFrom_17 : decode cX1_copyFrom 17 = .ok (.aload_n 1, 1) := D_X1_copyFrom_0.2.2.2.2.2.2.2.2.2.1
theorem e_X1_copyFrom_18 : decode cX1_copyFrom 18 = .ok (.getfield 15, 3) := D_X1_copyFrom_0.2.2.2.2.2.2.2.2.2.2.1
theorem e_X1_copyFrom_21 : decode cX1_copyFrom 21 = .ok (.putfield 15, 3) := D_X1_copyFrom_0.2.2.2.2.2.2.2.2.2.2.2.1
theorem e_X1_copyFrom_24 : decode cX1_copyFrom 24 = .ok (.aload_n 0, 1) := D_X1_copyFrom_0.2.2.2.2.2.2.2.2.2.2.2.2.1
theorem e_X1_copyFrom_25 : decode cX1_copyFrom 25 = .ok (.aload_n 1, 1) := D_X1_copyFrom_0.2.2.2.2.2.2.2.2.2.2.2.2.2.1
theorem e_X1_copyFrom_26 : decode cX1_copyFrom 26 = .ok (.getfield 18, 3) := D_X1_copyFrom_0.2.2.2.2.2.2.2.2.2.2.2.2.2.2.1
theorem e_X1_copyFrom_29 : decode cX1_copyFrom 29 = .ok (.putfield 18, 3) := D_X1_copyFrom_0.2.2.2.2.2.2.2.2.2.2.2.2.2.2.2.1
theorem e_X1_copyFrom_32 : decode cX1_copyFrom 32 = .ok (.aload_n 0, 1) := D_X1_copyFrom_0.2.2.2.2.2.2.2.2.2.2.2.2.2.2.2.2.1
theorem e_X1_copyFrom_33 : decode cX1_copyFrom 33 = .ok (.aload_n 1, 1) := D_X1_copyFrom_0.2.2.2.2.2.2.2.2.2.2.2.2.2.2.2.2.2.1
theorem e_X1_copyFrom_34 : decode cX1_copyFrom 34 = .ok (.getfield 21, 3) := D_X1_copyFrom_0.2.2.2.2.2.2.2.2.2.2.2.2.2.2.2.2.2.2.1
theorem e_X1_copyFrom_37 : decode cX1_copyFrom 37 = .ok (.putfield 21, 3) := D_X1_copyFrom_0.2.2.2.2.2.2.2.2.2.2.2.2.2.2.2.2.2.2.2.1
theorem e_X1_copyFrom_40 : decode cX1_copyFrom 40 = .ok (.aload_n 0, 1) := D_X1_copyFrom_0.2.2.2.2.2.2.2.2.2.2.2.2.2.2.2.2.2.2.2.2.1
theorem e_X1_copyFrom_41 : decode cX1_copyFrom 41 = .ok (.aload_n 1, 1) := D_X1_copyFrom_0.2.2.2.2.2.2.2.2.2.2.2.2.2.2.2.2.2.2.2.2.2.1
theorem e_X1_copyFrom_42 : decode cX1_copyFrom 42 = .ok (.getfield 24, 3) := D_X1_copyFrom_0.2.2.2.2.2.2.2.2.2.2.2.2.2.2.2.2.2.2.2.2.2.2.1
theorem e_X1_copyFrom_45 : decode cX1_copyFrom 45 = .ok (.putfield 24, 3) := D_X1_copyFrom_0.2.2.2.2.2.2.2.2.2.2.2.2.2.2.2.2.2.2.2.2.2.2.2.1
theorem e_X1_copyFrom_48 : decode cX1_copyFrom 48 = .ok (.aload_n 0, 1) := D_X1_copyFrom_0.2.2.2.2.2.2.2.2.2.2.2.2.2.2.2.2.2.2.2.2.2.2.2.2.1
theorem e_X1_copyFrom_49 : decode cX1_copyFrom 49 = .ok (.aload_n 1, 1) := D_X1_copyFrom_0.2.2.2.2.2.2.2.2.2.2.2.2.2.2.2.2.2.2.2.2.2.2.2.2.2.1
theorem e_X1_copyFrom_50 : decode cX1_copyFrom 50 = .ok (.getfield 27, 3) := D_X1_copyFrom_0.2.2.2.2.2.2.2.2.2.2.2.2.2.2.2.2.2.2.2.2.2.2.2.2.2.2.1
theorem e_X1_copyFrom_53 : decode cX1_copyFrom 53 = .ok (.putfield 27, 3) := D_X1_copyFrom_0.2.2.2.2.2.2.2.2.2.2.2.2.2.2.2.2.2.2.2.2.2.2.2.2.2.2.2.1
theorem e_X1_copyFrom_56 : decode cX1_copyFrom 56 = .ok (.aload_n 0, 1) := D_X1_copyFrom_0.2.2.2.2.2.2.2.2.2.2.2.2.2.2.2.2.2.2.2.2.2.2.2.2.2.2.2.2.1
theorem e_X1_copyFrom_57 : decode cX1_copyFrom 57 = .ok (.aload_n 1, 1) := D_X1_copyFrom_0.2.2.2.2.2.2.2.2.2.2.2.2.2.2.2.2.2.2.2.2.2.2.2.2.2.2.2.2.2.1
theorem e_X1_copyFrom_58 : decode cX1_copyFrom 58 = .ok (.getfield 31, 3) := D_X1_copyFrom_0.2.2.2.2.2.2.2.2.2.2.2.2.2.2.2.2.2.2.2.2.2.2.2.2.2.2.2.2.2.2.1
theorem e_X1_copyFrom_61 : decode cX1_copyFrom 61 = .ok (.putfield 31, 3) := D_X1_copyFrom_0.2.2.2.2.2.2.2.2.2.2.2.2.2.2.2.2.2.2.2.2.2.2.2.2.2.2.2.2.2.2.2.1
theorem e_X1_copyFrom_64 : decode cX1_copyFrom 64 = .ok (.aload_n 0, 1) := D_X1_copyFrom_0.2.2.2.2.2.2.2.2.2.2.2.2.2.2.2.2.2.2.2.2.2.2.2.2.2.2.2.2.2.2.2.2.1
theorem e_X1_copyFrom_65 : decode cX1_copyFrom 65 = .ok (.aload_n 1, 1) := D_X1_copyFrom_0.2.2.2.2.2.2.2.2.2.2.2.2.2.2.2.2.2.2.2.2.2.2.2.2.2.2.2.2.2.2.2.2.2.1
theorem e_X1_copyFrom_66 : decode cX1_copyFrom 66 = .ok (.getfield 34, 3) := D_X1_copyFrom_0.2.2.2.2.2.2.2.2.2.2.2.2.2.2.2.2.2.2.2.2.2.2.2.2.2.2.2.2.2.2.2.2.2.2.1
theorem e_X1_copyFrom_69 : decode cX1_copyFrom 69 = .ok (.putfield 34, 3) := D_X1_copyFrom_0.2.2.2.2.2.2.2.2.2.2.2.2.2.2.2.2.2.2.2.2.2.2.2.2.2.2.2.2.2.2.2.2.2.2.2.1
theorem e_X1_copyFrom_72 : decode cX1_copyFrom 72 = .ok (.aload_n 0, 1) := D_X1_copyFrom_0.2.2.2.2.2.2.2.2.2.2.2.2.2.2.2.2.2.2.2.2.2.2.2.2.2.2.2.2.2.2.2.2.2.2.2.2.1
theorem e_X1_copyFrom_73 : decode cX1_copyFrom 73 = .ok (.aload_n 1, 1) := D_X1_copyFrom_0.2.2.2.2.2.2.2.2.2.2.2.2.2.2.2.2.2.2.2.2.2.2.2.2.2.2.2.2.2.2.2.2.2.2.2.2.2.1
theorem e_X1_copyFrom_74 : decode cX1_copyFrom 74 = .ok (.getfield 37, 3) := D_X1_copyFrom_0.2.2.2.2.2.2.2.2.2.2.2.2.2.2.2.2.2.2.2.2.2.2.2.2.2.2.2.2.2.2.2.2.2.2.2.2.2.2.1
theorem e_X1_copyFrom_77 : decode cX1_copyFrom 77 = .ok (.putfield 37, 3) := D_X1_copyFrom_0.2.2.2.2.2.2.2.2.2.2.2.2.2.2.2.2.2.2.2.2.2.2.2.2.2.2.2.2.2.2.2.2.2.2.2.2.2.2.2.1
set_option maxRecDepth 100000 in
theorem D_X1_copyFrom_1 : decode cX1_copyFrom 80 = .ok (.aload_n 0, 1) ∧ decode cX1_copyFrom 81 = .ok (.aload_n 1, 1) ∧ decode cX1_copyFrom 82 = .ok (.getfield 40, 3) ∧ decode cX1_copyFrom 85 = .ok (.putfield 40, 3) ∧ decode cX1_copyFrom 88 = .ok (.aload_n 0, 1) ∧ decode cX1_copyFrom 89 = .ok (.aload_n 1, 1) ∧ decode cX1_copyFrom 90 = .ok (.getfield 43, 3) ∧ decode cX1_copyFrom 93 = .ok (.putfield 43, 3) ∧ decode cX1_copyFrom 96 = .ok (.aload_n 0, 1) ∧ decode cX1_copyFrom 97 = .ok (.aload_n 1, 1) ∧ decode cX1_copyFrom 98 = .ok (.getfield 46, 3) ∧ decode cX1_copyFrom 101 = .ok (.putfield 46, 3) ∧ decode cX1_copyFrom 104 = .ok (.aload_n 0, 1) ∧ decode cX1_copyFrom 105 = .ok (.aload_n 1, 1) ∧ decode cX1_copyFrom 106 = .ok (.getfield 49, 3) ∧ decode cX1_copyFrom 109 = .ok (.putfield 49, 3) ∧ decode cX1_copyFrom 112 = .ok (.aload_n 0, 1) ∧ decode cX1_copyFrom 113 = .ok (.aload_n 1, 1) ∧ decode cX1_copyFrom 114 = .ok (.getfield 52, 3) ∧ decode cX1_copyFrom 117 = .ok (.putfield 52, 3) ∧ decode cX1_copyFrom 120 = .ok (.return_, 1) ∧ True := dq_of (l := (80, .aload_n 0, 1) :: (81, .aload_n 1, 1) :: (82, .getfield 40, 3) :: (85, .putfield 40, 3) :: (88, .aload_n 0, 1) :: (89, .aload_n 1, 1) :: (90, .getfield 43, 3) :: (93, .putfield 43, 3) :: (96, .aload_n 0, 1) :: (97, .aload_n 1, 1) :: (98, .getfield 46, 3) :: (101, .putfield 46, 3) :: (104, .aload_n 0, 1) :: (105, .aload_n 1, 1) :: (106, .getfield 49, 3) :: (109, .putfield 49, 3) :: (112, .aload_n 0, 1) :: (113, .aload_n 1, 1) :: (114, .getfield 52, 3) :: (117, .putfield 52, 3) :: (120, .return_, 1) :: []) (by decide +kernel)
theorem e_X1_copyFrom_80 : decode cX1_copyFrom 80 = .ok (.aload_n 0, 1) := D_X1_copyFrom_1.1
theorem e_X1_copyFrom_81 : decode cX1_copyFrom 81 = .ok (.aload_n 1, 1) := D_X1_copyFrom_1.2.1
theorem e_X1_copyFrom_82 : decode cX1_copyFrom 82 = .ok (.getfield 40, 3) := D_X1_copyFrom_1.2.2.1
theorem e_X1_copyFrom_85 : decode cX1_copyFrom 85 = .ok (.putfield 40, 3) := D_X1_copyFrom_1.2.2.2.1
theorem e_X1_copyFrom_88 : decode cX1_copyFrom 88 = .ok (.aload_n 0, 1) := D_X1_copyFrom_1.2.2.2.2.1
theorem e_X1_copyFrom_89 : decode cX1_copyFrom 89 = .ok (.aload_n 1, 1) := D_X1_copyFrom_1.2.2.2.2.2.1
theorem e_X1_copyFrom_90 : decode cX1_copyFrom 90 = .ok (.getfield 43, 3) := D_X1_copyFrom_1.2.2.2.2.2.2.1
theorem e_X1_copyFrom_93 : decode cX1_copyFrom 93 = .ok (.putfield 43, 3) := D_X1_copyFrom_1.2.2.2.2.2.2.2.1
theorem e_X1_copyFrom_96 : decode cX1_copyFrom 96 = .ok (.aload_n 0, 1) := D_X1_copyFrom_1.2.2.2.2.2.2.2.2.1
theorem e_X1_copyFrom_97 : decode cX1_copyFrom 97 = .ok (.aload_n 1, 1) := D_X1_copyFrom_1.2.2.2.2.2.2.2.2.2.1
theorem e_X1_copyFrom_98 : decode cX1_copyFrom 98 = .ok (.getfield 46, 3) := D_X1_copyFrom_1.2.2.2.2.2.2.2.2.2.2.1
theorem e_X1_copyFrom_101 : decode cX1_copyFrom 101 = .ok (.putfield 46, 3) := D_X1_copyFrom_1.2.2.2.2.2.2.2.2.2.2.2.1
theorem e_X1_copyFrom_104 : decode cX1_copyFrom 104 = .ok (.aload_n 0, 1) := D_X1_copyFrom_1.2.2.2.2.2.2.2.2.2.2.2.2.1
theorem e_X1_copyFrom_105 : decode cX1_copyFrom 105 = .ok (.aload_n 1, 1) := D_X1_copyFrom_1.2.2.2.2.2.2.2.2.2.2.2.2.2.1
theorem e_X1_copyFrom_106 : decode cX1_copyFrom 106 = .ok (.getfield 49, 3) := D_X1_copyFrom_1.2.2.2.2.2.2.2.2.2.2.2.2.2.2.1
theorem e_X1_copyFrom_109 : decode cX1_copyFrom 109 = .ok (.putfield 49, 3) := D_X1_copyFrom_1.2.2.2.2.2.2.2.2.2.2.2.2.2.2.2.1
theorem e_X1_copyFrom_112 : decode cX1_copyFrom 112 = .ok (.aload_n 0, 1) := D_X1_copyFrom_1.2.2.2.2.2.2.2.2.2.2.2.2.2.2.2.2.1
theorem e_X1_copyFrom_113 : decode cX1_copyFrom 113 = .ok (.aload_n 1, 1) := D_X1_copyFrom_1.2.2.2.2.2.2.2.2.2.2.2.2.2.2.2.2.2.1
theorem e_X1_copyFrom_114 : decode cX1_copyFrom 114 = .ok (.getfield 52, 3) := D_X1_copyFrom_1.2.2.2.2.2.2.2.2.2.2.2.2.2.2.2.2.2.2.1
theorem e_X1_copyFrom_117 : decode cX1_copyFrom 117 = .ok (.putfield 52, 3) := D_X1_copyFrom_1.2.2.2.2.2.2.2.2.2.2.2.2.2.2.2.2.2.2.2.1
theorem e_X1_copyFrom_120 : decode cX1_copyFrom 120 = .ok (.return_, 1) := D_X1_copyFrom_1.2.2.2.2.2.2.2.2.2.2.2.2.2.2.2.2.2.2.2.2.1
set_option maxRecDepth 100000 in
theorem D_X1_isInRange_0 : decode cX1_isInRange 0 = .ok (.aload_n 0, 1) ∧ decode cX1_isInRange 1 = .ok (.getfield 9, 3) ∧ decode cX1_isInRange 4 = .ok (.iconst 1, 1) ∧ decode cX1_isInRange 5 = .ok (.sipush 200, 3) ∧ decode cX1_isInRange 8 = .ok (.invokestatic 58, 3) ∧ decode cX1_isInRange 11 = .ok (.ifCond .eq 20, 3) ∧ decode cX1_isInRange 14 = .ok (.aload_n 0, 1) ∧ decode cX1_isInRange 15 = .ok (.getfield 15, 3) ∧ decode cX1_isInRange 18 = .ok (.iconst 1, 1) ∧ decode cX1_isInRange 19 = .ok (.bipush 50, 2) ∧ decode cX1_isInRange 21 = .ok (.invokestatic 58, 3) ∧ decode cX1_isInRange 24 = .ok (.ifCond .eq 7, 3) ∧ decode cX1_isInRange 27 = .ok (.iconst 1, 1) ∧ decode cX1_isInRange 28 = .ok (.goto 4, 3) ∧ decode cX1_isInRange 31 = .ok (.iconst 0, 1) ∧ decode cX1_isInRange 32 = .ok (.ireturn, 1) ∧ True := dq_of (l := (0, .aload_n 0, 1) :: (1, .getfield 9, 3) :: (4, .iconst 1, 1) :: (5, .sipush 200, 3) :: (8, .invokestatic 58, 3) :: (11, .ifCond .eq 20, 3) :: (14, .aload_n 0, 1) :: (15, .getfield 15, 3) :: (18, .iconst 1, 1) :: (19, .bipush 50, 2) :: (21, .invokestatic 58, 3) :: (24, .ifCond .eq 7, 3) :: (27, .iconst 1, 1) :: (28, .goto 4, 3) :: (31, .iconst 0, 1) :: (32, .ireturn, 1) :: []) (by decide +kernel)
theorem e_X1_isInRange_0 : decode cX1_isInRange 0 = .ok (.aload_n 0, 1) := D_X1_isInRange_0.1
theorem e_X1_isInRange_1 : decode cX1_isInRange 1 = .ok (.getfield 9, 3) := D_X1_isInRange_0.2.1
theorem e_X1_isInRange_4 : decode cX1_isInRange 4 = .ok (.iconst 1, 1) := D_X1_isInRange_0.2.2.1
theorem e_X1_isInRange_5 : decode cX1_isInRange 5 = .ok (.sipush 200, 3) := D_X1_isInRange_0.2.2.2.1
theorem e_X1_isInRange_8 : decode cX1_isInRange 8 = .ok (.invokestatic 58, 3) := D_X1_isInRange_0.2.2.2.2.1
theorem e_X1_isInRange_11 : decode cX1_isInRange 11 = .ok (.ifCond .eq 20, 3) := D_X1_isInRange_0.2.2.2.2.2.1
theorem e_X1_isInRange_14 : decode cX1_isInRange 14 = .ok (.aload_n 0, 1) := D_X1_isInRange_0.2.2.2.2.2.2.1
theorem e_X1_isInRange_15 : decode cX1_isInRange 15 = .ok (.getfield 15, 3) := D_X1_isInRange_0.2.2.2.2.2.2.2.1
theorem e_X1_isInRange_18 : decode cX1_isInRange 18 = .ok (.iconst 1, 1) := D_X1_isInRange_0.2.2.2.2.2.2.2.2.1
theorem e_X1_isInRange_19 : decode cX1_isInRange 19 = .ok (.bipush 50, 2) := D_X1_isInRange_0.2.2.2.2.2.2.2.2.2.1
theorem e_X1_isInRange_21 : decode cX1_isInRange 21 = .ok (.invokestatic 58, 3) := D_X1_isInRange_0.2.2.2.2.2.2.2.2.2.2.1
theorem e_X1_isInRange_24 : decode cX1_isInRange 24 = .ok (.ifCond .eq 7, 3) := D_X1_isInRange_0.2.2.2.2.2.2.2.2.2.2.2.1
theorem e_X1_isInRange_27 : decode cX1_isInRange 27 = .ok (.iconst 1, 1) := D_X1_isInRange_0.2.2.2.2.2.2.2.2.2.2.2.2.1
theorem e_X1_isInRange_28 : decode cX1_isInRange 28 = .ok (.goto 4, 3) := D_X1_isInRange_0.2.2.2.2.2.2.2.2.2.2.2.2.2.1
theorem e_X1_isInRange_31 : decode cX1_isInRange 31 = .ok (.iconst 0, 1) := D_X1_isInRange_0.2.2.2.2.2.2.2.2.2.2.2.2.2.2.1
theorem e_X1_isInRange_32 : decode cX1_isInRange 32 = .ok (.ireturn, 1) := D_X1_isInRange_0.2.2.2.2.2.2.2.2.2.2.2.2.2.2.2.1
set_option maxRecDepth 100000 in
theorem D_X1_isOn_0 : decode cX1_isOn 0 = .ok (.aload_n 0, 1) ∧ decode cX1_isOn 1 = .ok (.getfield 18, 3) ∧ decode cX1_isOn 4 = .ok (.iload_n 1, 1) ∧ decode cX1_isOn 5 = .ok (.if_icmp .ne 15, 3) ∧ decode cX1_isOn 8 = .ok (.aload_n 0, 1) ∧ decode cX1_isOn 9 = .ok (.getfield 21, 3) ∧ decode cX1_isOn 12 = .ok (.iload_n 2, 1) ∧ decode cX1_isOn 13 = .ok (.if_icmp .ne 7, 3) ∧ decode cX1_isOn 16 = .ok (.iconst 1, 1) ∧ decode cX1_isOn 17 = .ok (.goto 4, 3) ∧ decode cX1_isOn 20 = .ok (.iconst 0, 1) ∧ decode cX1_isOn 21 = .ok (.ireturn, 1) ∧ True := dq_of (l := (0, .aload_n 0, 1) :: (1, .getfield 18, 3) :: (4, .iload_n 1, 1) :: (5, .if_icmp .ne 15, 3) :: (8, .aload_n 0, 1) :: (9, .getfield 21, 3) :: (12, .iload_n 2, 1) :: (13, .if_icmp .ne 7, 3) :: (16, .iconst 1, 1) :: (17, .goto 4, 3) :: (20, .iconst 0, 1) :: (21, .ireturn, 1) :: []) (by decide +kernel)
theorem e_X1_isOn_0 : decode cX1_isOn 0 = .ok (.aload_n 0, 1) := D_X1_isOn_0.1
theorem e_X1_isOn_1 : decode cX1_isOn 1 = .ok (.getfield 18, 3) := D_X1_isOn_0.2.1
theorem e_X1_isOn_4 : decode cX1_isOn 4 = .ok (.iload_n 1, 1) := D_X1_isOn_0.2.2.1
theorem e_X1_isOn_5 : decode cX1_isOn 5 = .ok (.if_icmp .ne 15, 3) := D_X1_isOn_0.2.2.2.1
theorem e_X1_isOn_8 : decode cX1_isOn 8 = .ok (.aload_n 0, 1) := D_X1_isOn_0.2.2.2.2.1
theorem e_X1_isOn_9 : decode cX1_isOn 9 = .ok (.getfield 21, 3) := D_X1_isOn_0.2.2.2.2.2.1
theorem e_X1_isOn_12 : decode cX1_isOn 12 = .ok (.iload_n 2, 1) := D_X1_isOn_0.2.2.2.2.2.2.1
theorem e_X1_isOn_13 : decode cX1_isOn 13 = .ok (.if_icmp .ne 7, 3) := D_X1_isOn_0.2.2.2.2.2.2.2.1
theorem e_X1_isOn_16 : decode cX1_isOn 16 = .ok (.iconst 1, 1) := D_X1_isOn_0.2.2.2.2.2.2.2.2.1
theorem e_X1_isOn_17 : decode cX1_isOn 17 = .ok (.goto 4, 3) := D_X1_isOn_0.2.2.2.2.2.2.2.2.2.1
theorem e_X1_isOn_20 : decode cX1_isOn 20 = .ok (.iconst 0, 1) := D_X1_isOn_0.2.2.2.2.2.2.2.2.2.2.1
theorem e_X1_isOn_21 : decode cX1_isOn 21 = .ok (.ireturn, 1) := D_X1_isOn_0.2.2.2.2.2.2.2.2.2.2.2.1
set_option maxRecDepth 100000 in
theorem D_X1_staplingRefusal_0 : decode cX1_staplingRefusal 0 = .ok (.aload_n 0, 1) ∧ decode cX1_staplingRefusal 1 = .ok (.getfield 34, 3) ∧ decode cX1_staplingRefusal 4 = .ok (.ifCond .ne 5, 3) ∧ decode cX1_staplingRefusal 7 = .ok (.iconst 0, 1) ∧ decode cX1_staplingRefusal 8 = .ok (.ireturn, 1) ∧ decode cX1_staplingRefusal 9 = .ok (.aload_n 0, 1) ∧ decode cX1_staplingRefusal 10 = .ok (.getfield 31, 3) ∧ decode cX1_staplingRefusal 13 = .ok (.ifCond .ne 5, 3) ∧ decode cX1_staplingRefusal 16 = .ok (.iconst 1, 1) ∧ decode cX1_staplingRefusal 17 = .ok (.ireturn, 1) ∧ decode cX1_staplingRefusal 18 = .ok (.aload_n 0, 1) ∧ decode cX1_staplingRefusal 19 = .ok (.getfield 21, 3) ∧ decode cX1_staplingRefusal 22 = .ok (.iconst 3, 1) ∧ decode cX1_staplingRefusal 23 = .ok (.if_icmp .ne 5, 3) ∧ decode cX1_staplingRefusal 26 = .ok (.iconst 2, 1) ∧ decode cX1_staplingRefusal 27 = .ok (.ireturn, 1) ∧ decode cX1_staplingRefusal 28 = .ok (.aload_n 0, 1) ∧ decode cX1_staplingRefusal 29 = .ok (.getfield 37, 3) ∧ decode cX1_staplingRefusal 32 = .ok (.iconst 1, 1) ∧ decode cX1_staplingRefusal 33 = .ok (.if_icmp .ne 5, 3) ∧ decode cX1_staplingRefusal 36 = .ok (.iconst 3, 1) ∧ decode cX1_staplingRefusal 37 = .ok (.ireturn, 1) ∧ decode cX1_staplingRefusal 38 = .ok (.aload_n 0, 1) ∧ decode cX1_staplingRefusal 39 = .ok (.getfield 21, 3) ∧ decode cX1_staplingRefusal 42 = .ok (.iconst 1, 1) ∧ decode cX1_staplingRefusal 43 = .ok (.if_icmp .ne 9, 3) ∧ decode cX1_staplingRefusal 46 = .ok (.iload_n 1, 1) ∧ decode cX1_staplingRefusal 47 = .ok (.iconst 2, 1) ∧ decode cX1_staplingRefusal 48 = .ok (.idiv, 1) ∧ decode cX1_staplingRefusal 49 = .ok (.goto 4, 3) ∧ decode cX1_staplingRefusal 52 = .ok (.iload_n 1, 1) ∧ decode cX1_staplingRefusal 53 = .ok (.istore_n 2, 1) ∧ decode cX1_staplingRefusal 54 = .ok (.aload_n 0, 1) ∧ decode cX1_staplingRefusal 55 = .ok (.getfield 37, 3) ∧ decode cX1_staplingRefusal 58 = .ok (.iload_n 2, 1) ∧ decode cX1_staplingRefusal 59 = .ok (.if_icmp .le 7, 3) ∧ decode cX1_staplingRefusal 62 = .ok (.iconst 4, 1) ∧ decode cX1_staplingRefusal 63 = .ok (.goto 4, 3) ∧ decode cX1_staplingRefusal 66 = .ok (.iconst 0, 1) ∧ decode cX1_staplingRefusal 67 = .ok (.ireturn, 1) ∧ True := dq_of (l := (0, .aload_n 0, 1) :: (1, .getfield 34, 3) :: (4, .ifCond .ne 5, 3) :: (7, .iconst 0, 1) :: (8, .ireturn, 1) :: (9, .aload_n 0, 1) :: (10, .getfield 31, 3) :: (13, .ifCond .ne 5, 3) :: (16, .iconst 1, 1) :: (17, .ireturn, 1) :: (18, .aload_n 0, 1) :: (19, .getfield 21, 3) :: (22, .iconst 3, 1) :: (23, .if_icmp .ne 5, 3) :: (26, .iconst 2, 1) :: (27, .ireturn, 1) :: (28, .aload_n 0, 1) :: (29, .getfield 37, 3) :: (32, .iconst 1, 1) :: (33, .if_icmp .ne 5, 3) :: (36, .iconst 3, 1) :: (37, .ireturn, 1) :: (38, .aload_n 0, 1) :: (39, .getfield 21, 3) :: (42, .iconst 1, 1) :: (43, .if_icmp .ne 9, 3) :: (46, .iload_n 1, 1) :: (47, .iconst 2, 1) :: (48, .idiv, 1) :: (49, .goto 4, 3) :: (52, .iload_n 1, 1) :: (53, .istore_n 2, 1) :: (54, .aload_n 0, 1) :: (55, .getfield 37, 3) :: (58, .iload_n 2, 1) :: (59, .if_icmp .le 7, 3) :: (62, .iconst 4, 1) :: (63, .goto 4, 3) :: (66, .iconst 0, 1) :: (67, .ireturn, 1) :: []) (by decide +kernel)
theorem e_X1_staplingRefusal_0 : decode cX1_staplingRefusal 0 = .ok (.aload_n 0, 1) := D_X1_staplingRefusal_0.1
theorem e_X1_staplingRefusal_1 : decode cX1_staplingRefusal 1 = .ok (.getfield 34, 3) := D_X1_staplingRefusal_0.2.1
theorem e_X1_staplingRefusal_4 : decode cX1_staplingRefusal 4 = .ok (.ifCond .ne 5, 3) := D_X1_staplingRefusal_0.2.2.1
theorem e_X1_staplingRefusal_7 : decode cX1_staplingRefusal 7 = .ok (.iconst 0, 1) := D_X1_staplingRefusal_0.2.2.2.1
theorem e_X1_staplingRefusal_8 : decode cX1_staplingRefusal 8 = .ok (.ireturn, 1) := D_X1_staplingRefusal_0.2.2.2.2.1
theorem e_X1_staplingRefusal_9 : decode cX1_staplingRefusal 9 = .ok (.aload_n 0, 1) := D_X1_staplingRefusal_0.2.2.2.2.2.1
theorem e_X1_staplingRefusal_10 : decode cX1_staplingRefusal 10 = .ok (.getfield 31, 3) := D_X1_staplingRefusal_0.2.2.2.2.2.2.1
theorem e_X1_staplingRefusal_13 : decode cX1_staplingRefusal 13 = .ok (.ifCond .ne 5, 3) := D_X1_staplingRefusal_0.2.2.2.2.2.2.2.1
theorem e_X1_staplingRefusal_16 : decode cX1_staplingRefusal 16 = .ok (.iconst 1, 1) := D_X1_staplingRefusal_0.2.2.2.2.2.2.2.2.1
theorem e_X1_staplingRefusal_17 : decode cX1_staplingRefusal 17 = .ok (.ireturn, 1) := D_X1_staplingRefusal_0.2.2.2.2.2.2.2.2.2.1
theorem e_X1_staplingRefusal_18 : decode cX1_staplingRefusal 18 = .ok (.aload_n 0, 1) := D_X1_staplingRefusal_0.2.2.2.2.2.2.2.2.2.2.1
theorem e_X1_staplingRefusal_19 : decode cX1_staplingRefusal 19 = .ok (.getfield 21, 3) := D_X1_staplingRefusal_0.2.2.2.2.2.2.2.2.2.2.2.1
theorem e_X1_staplingRefusal_22 : decode cX1_staplingRefusal 22 = .ok (.iconst 3, 1) := D_X1_staplingRefusal_0.2.2.2.2.2.2.2.2.2.2.2.2.1
theorem e_X1_staplingRefusal_23 : decode cX1_staplingRefusal 23 = .ok (.if_icmp .ne 5, 3) := D_X1_staplingRefusal_0.2.2.2.2.2.2.2.2.2.2.2.2.2.1
theorem e_X1_staplingRefusal_26 : decode cX1_staplingRefusal 26 = .ok (.iconst 2, 1) := D_X1_staplingRefusal_0.2.2.2.2.2.2.2.2.2.2.2.2.2.2.1
theorem e_X1_staplingRefusal_27 : decode cX1_staplingRefusal 27 = .ok (.ireturn, 1) := D_X1_staplingRefusal_0.2.2.2.2.2.2.2.2.2.2.2.2.2.2.2.1
theorem e_X1_staplingRefusal_28 : decode cX1_staplingRefusal 28 = .ok (.aload_n 0, 1) := D_X1_staplingRefusal_0.2.2.2.2.2.2.2.2.2.2.2.2.2.2.2.2.1
theorem e_X1_staplingRefusal_29 : decode cX1_staplingRefusal 29 = .ok (.getfield 37, 3) := D_X1_staplingRefusal_0.2.2.2.2.2.2.2.2.2.2.2.2.2.2.2.2.2.1
theorem e_X1_staplingRefusal_32 : decode cX1_staplingRefusal 32 = .ok (.iconst 1, 1) := D_X1_staplingRefusal_0.2.2.2.2.2.2.2.2.2.2.2.2.2.2.2.2.2.2.1
theorem e_X1_staplingRefusal_33 : decode cX1_staplingRefusal 33 = .ok (.if_icmp .ne 5, 3) := D_X1_staplingRefusal_0.2.2.2.2.2.2.2.2.2.2.2.2.2.2.2.2.2.2.2.1
theorem e_X1_staplingRefusal_36 : decode cX1_staplingRefusal 36 = .ok (.iconst 3, 1) := D_X1_staplingRefusal_0.2.2.2.2.2.2.2.2.2.2.2.2.2.2.2.2.2.2.2.2.1
theorem e_X1_staplingRefusal_37 : decode cX1_staplingRefusal 37 = .ok (.ireturn, 1) := D_X1_staplingRefusal_0.2.2.2.2.2.2.2.2.2.2.2.2.2.2.2.2.2.2.2.2.2.1
theorem e_X1_staplingRefusal_38 : decode cX1_staplingRefusal 38 = .ok (.aload_n 0, 1) := D_X1_staplingRefusal_0.2.2.2.2.2.2.2.2.2.2.2.2.2.2.2.2.2.2.2.2.2.2.1
theorem e_X1_staplingRefusal_39 : decode cX1_staplingRefusal 39 = .ok (.getfield 21, 3) := D_X1_staplingRefusal_0.2.2.2.2.2.2.2.2.2.2.2.2.2.2.2.2.2.2.2.2.2.2.2.1
theorem e_X1_staplingRefusal_42 : decode cX1_staplingRefusal 42 = .ok (.iconst 1, 1) := D_X1_staplingRefusal_0.2.2.2.2.2.2.2.2.2.2.2.2.2.2.2.2.2.2.2.2.2.2.2.2.1
theorem e_X1_staplingRefusal_43 : decode cX1_staplingRefusal 43 = .ok (.if_icmp .ne 9, 3) := D_X1_staplingRefusal_0.2.2.2.2.2.2.2.2.2.2.2.2.2.2.2.2.2.2.2.2.2.2.2.2.2.1
theorem e_X1_staplingRefusal_46 : decode cX1_staplingRefusal 46 = .ok (.iload_n 1, 1) := D_X1_staplingRefusal_0.2.2.2.2.2.2.2.2.2.2.2.2.2.2.2.2.2.2.2.2.2.2.2.2.2.2.1
theorem e_X1_staplingRefusal_47 : decode cX1_staplingRefusal 47 = .ok (.iconst 2, 1) := D_X1_staplingRefusal_0.2.2.2.2.2.2.2.2.2.2.2.2.2.2.2.2.2.2.2.2.2.2.2.2.2.2.2.1
theorem e_X1_staplingRefusal_48 : decode cX1_staplingRefusal 48 = .ok (.idiv, 1) := D_X1_staplingRefusal_0.2.2.2.2.2.2.2.2.2.2.2.2.2.2.2.2.2.2.2.2.2.2.2.2.2.2.2.2.1
theorem e_X1_staplingRefusal_49 : decode cX1_staplingRefusal 49 = .ok (.goto 4, 3) := D_X1_staplingRefusal_0.2.2.2.2.2.2.2.2.2.2.2.2.2.2.2.2.2.2.2.2.2.2.2.2.2.2.2.2.2.1
theorem e_X1_staplingRefusal_52 : decode cX1_staplingRefusal 52 = .ok (.iload_n 1, 1) := D_X1_staplingRefusal_0.2.2.2.2.2.2.2.2.2.2.2.2.2.2.2.2.2.2.2.2.2.2.2.2.2.2.2.2.2.2.1
theorem e_X1_staplingRefusal_53 : decode cX1_staplingRefusal 53 = .ok (.istore_n 2, 1) := D_X1_staplingRefusal_0.2.2.2.2.2.2.2.2.2.2.2.2.2.2.2.2.2.2.2.2.2.2.2.2.2.2.2.2.2.2.2.1
theorem e_X1_staplingRefusal_54 : decode cX1_staplingRefusal 54 = .ok (.aload_n 0, 1) := D_X1_staplingRefusal_0.2.2.2.2.2.2.2.2.2.2.2.2.2.2.2.2.2.2.2.2.2.2.2.2.2.2.2.2.2.2.2.2.1
theorem e_X1_staplingRefusal_55 : decode cX1_staplingRefusal 55 = .ok (.getfield 37, 3) := D_X1_staplingRefusal_0.2.2.2.2.2.2.2.2.2.2.2.2.2.2.2.2.2.2.2.2.2.2.2.2.2.2.2.2.2.2.2.2.2.1
theorem e_X1_staplingRefusal_58 : decode cX1_staplingRefusal 58 = .ok (.iload_n 2, 1) := D_X1_staplingRefusal_0.2.2.2.2.2.2.2.2.2.2.2.2.2.2.2.2.2.2.2.2.2.2.2.2.2.2.2.2.2.2.2.2.2.2.1
theorem e_X1_staplingRefusal_59 : decode cX1_staplingRefusal 59 = .ok (.if_icmp .le 7, 3) := D_X1_staplingRefusal_0.2.2.2.2.2.2.2.2.2.2.2.2.2.2.2.2.2.2.2.2.2.2.2.2.2.2.2.2.2.2.2.2.2.2.2.1
theorem e_X1_staplingRefusal_62 : decode cX1_staplingRefusal 62 = .ok (.iconst 4, 1) := D_X1_staplingRefusal_0.2.2.2.2.2.2.2.2.2.2.2.2.2.2.2.2.2.2.2.2.2.2.2.2.2.2.2.2.2.2.2.2.2.2.2.2.1
theorem e_X1_staplingRefusal_63 : decode cX1_staplingRefusal 63 = .ok (.goto 4, 3) := D_X1_staplingRefusal_0.2.2.2.2.2.2.2.2.2.2.2.2.2.2.2.2.2.2.2.2.2.2.2.2.2.2.2.2.2.2.2.2.2.2.2.2.2.1
theorem e_X1_staplingRefusal_66 : decode cX1_staplingRefusal 66 = .ok (.iconst 0, 1) := D_X1_staplingRefusal_0.2.2.2.2.2.2.2.2.2.2.2.2.2.2.2.2.2.2.2.2.2.2.2.2.2.2.2.2.2.2.2.2.2.2.2.2.2.2.1
theorem e_X1_staplingRefusal_67 : decode cX1_staplingRefusal 67 = .ok (.ireturn, 1) := D_X1_staplingRefusal_0.2.2.2.2.2.2.2.2.2.2.2.2.2.2.2.2.2.2.2.2.2.2.2.2.2.2.2.2.2.2.2.2.2.2.2.2.2.2.2.1
set_option maxRecDepth 100000 in
theorem D_X1_hasSetToStaple_0 : decode cX1_hasSetToStaple 0 = .ok (.aload_n 0, 1) ∧ decode cX1_hasSetToStaple 1 = .ok (.getfield 34, 3) ∧ decode cX1_hasSetToStaple 4 = .ok (.ifCond .le 30, 3) ∧ decode cX1_hasSetToStaple 7 = .ok (.aload_n 0, 1) ∧ decode cX1_hasSetToStaple 8 = .ok (.getfield 37, 3) ∧ decode cX1_hasSetToStaple 11 = .ok (.ifCond .le 23, 3) ∧ decode cX1_hasSetToStaple 14 = .ok (.aload_n 0, 1) ∧ decode cX1_hasSetToStaple 15 = .ok (.getfield 52, 3) ∧ decode cX1_hasSetToStaple 18 = .ok (.aload_n 0, 1) ∧ decode cX1_hasSetToStaple 19 = .ok (.getfield 49, 3) ∧ decode cX1_hasSetToStaple 22 = .ok (.aload_n 0, 1) ∧ decode cX1_hasSetToStaple 23 = .ok (.getfield 37, 3) ∧ decode cX1_hasSetToStaple 26 = .ok (.idiv, 1) ∧ decode cX1_hasSetToStaple 27 = .ok (.if_icmp .ge 7, 3) ∧ decode cX1_hasSetToStaple 30 = .ok (.iconst 1, 1) ∧ decode cX1_hasSetToStaple 31 = .ok (.goto 4, 3) ∧ decode cX1_hasSetToStaple 34 = .ok (.iconst 0, 1) ∧ decode cX1_hasSetToStaple 35 = .ok (.ireturn, 1) ∧ True := dq_of (l := (0, .aload_n 0, 1) :: (1, .getfield 34, 3) :: (4, .ifCond .le 30, 3) :: (7, .aload_n 0, 1) :: (8, .getfield 37, 3) :: (11, .ifCond .le 23, 3) :: (14, .aload_n 0, 1) :: (15, .getfield 52, 3) :: (18, .aload_n 0, 1) :: (19, .getfield 49, 3) :: (22, .aload_n 0, 1) :: (23, .getfield 37, 3) :: (26, .idiv, 1) :: (27, .if_icmp .ge 7, 3) :: (30, .iconst 1, 1) :: (31, .goto 4, 3) :: (34, .iconst 0, 1) :: (35, .ireturn, 1) :: []) (by decide +kernel)
theorem e_X1_hasSetToStaple_0 : decode cX1_hasSetToStaple 0 = .ok (.aload_n 0, 1) := D_X1_hasSetToStaple_0.1
theorem e_X1_hasSetToStaple_1 : decode cX1_hasSetToStaple 1 = .ok (.getfield 34, 3) := D_X1_hasSetToStaple_0.2.1
theorem e_X1_hasSetToStaple_4 : decode cX1_hasSetToStaple 4 = .ok (.ifCond .le 30, 3) := D_X1_hasSetToStaple_0.2.2.1
theorem e_X1_hasSetToStaple_7 : decode cX1_hasSetToStaple 7 = .ok (.aload_n 0, 1) := D_X1_hasSetToStaple_0.2.2.2.1
theorem e_X1_hasSetToStaple_8 : decode cX1_hasSetToStaple 8 = .ok (.getfield 37, 3) := D_X1_hasSetToStaple_0.2.2.2.2.1
theorem e_X1_hasSetToStaple_11 : decode cX1_hasSetToStaple 11 = .ok (.ifCond .le 23, 3) := D_X1_hasSetToStaple_0.2.2.2.2.2.1
theorem e_X1_hasSetToStaple_14 : decode cX1_hasSetToStaple 14 = .ok (.aload_n 0, 1) := D_X1_hasSetToStaple_0.2.2.2.2.2.2.1
theorem e_X1_hasSetToStaple_15 : decode cX1_hasSetToStaple 15 = .ok (.getfield 52, 3) := D_X1_hasSetToStaple_0.2.2.2.2.2.2.2.1
theorem e_X1_hasSetToStaple_18 : decode cX1_hasSetToStaple 18 = .ok (.aload_n 0, 1) := D_X1_hasSetToStaple_0.2.2.2.2.2.2.2.2.1
theorem e_X1_hasSetToStaple_19 : decode cX1_hasSetToStaple 19 = .ok (.getfield 49, 3) := D_X1_hasSetToStaple_0.2.2.2.2.2.2.2.2.2.1
theorem e_X1_hasSetToStaple_22 : decode cX1_hasSetToStaple 22 = .ok (.aload_n 0, 1) := D_X1_hasSetToStaple_0.2.2.2.2.2.2.2.2.2.2.1
theorem e_X1_hasSetToStaple_23 : decode cX1_hasSetToStaple 23 = .ok (.getfield 37, 3) := D_X1_hasSetToStaple_0.2.2.2.2.2.2.2.2.2.2.2.1
theorem e_X1_hasSetToStaple_26 : decode cX1_hasSetToStaple 26 = .ok (.idiv, 1) := D_X1_hasSetToStaple_0.2.2.2.2.2.2.2.2.2.2.2.2.1
theorem e_X1_hasSetToStaple_27 : decode cX1_hasSetToStaple 27 = .ok (.if_icmp .ge 7, 3) := D_X1_hasSetToStaple_0.2.2.2.2.2.2.2.2.2.2.2.2.2.1
theorem e_X1_hasSetToStaple_30 : decode cX1_hasSetToStaple 30 = .ok (.iconst 1, 1) := D_X1_hasSetToStaple_0.2.2.2.2.2.2.2.2.2.2.2.2.2.2.1
theorem e_X1_hasSetToStaple_31 : decode cX1_hasSetToStaple 31 = .ok (.goto 4, 3) := D_X1_hasSetToStaple_0.2.2.2.2.2.2.2.2.2.2.2.2.2.2.2.1
theorem e_X1_hasSetToStaple_34 : decode cX1_hasSetToStaple 34 = .ok (.iconst 0, 1) := D_X1_hasSetToStaple_0.2.2.2.2.2.2.2.2.2.2.2.2.2.2.2.2.1
theorem e_X1_hasSetToStaple_35 : decode cX1_hasSetToStaple 35 = .ok (.ireturn, 1) := D_X1_hasSetToStaple_0.2.2.2.2.2.2.2.2.2.2.2.2.2.2.2.2.2.1
set_option maxRecDepth 100000 in
theorem D_X1_isFinished_0 : decode cX1_isFinished 0 = .ok (.aload_n 0, 1) ∧ decode cX1_isFinished 1 = .ok (.getfield 49, 3) ∧ decode cX1_isFinished 4 = .ok (.aload_n 0, 1) ∧ decode cX1_isFinished 5 = .ok (.getfield 40, 3) ∧ decode cX1_isFinished 8 = .ok (.if_icmp .lt 25, 3) ∧ decode cX1_isFinished 11 = .ok (.aload_n 0, 1) ∧ decode cX1_isFinished 12 = .ok (.getfield 34, 3) ∧ decode cX1_isFinished 15 = .ok (.ifCond .eq 14, 3) ∧ decode cX1_isFinished 18 = .ok (.aload_n 0, 1) ∧ decode cX1_isFinished 19 = .ok (.getfield 52, 3) ∧ decode cX1_isFinished 22 = .ok (.aload_n 0, 1) ∧ decode cX1_isFinished 23 = .ok (.getfield 15, 3) ∧ decode cX1_isFinished 26 = .ok (.if_icmp .lt 7, 3) ∧ decode cX1_isFinished 29 = .ok (.iconst 1, 1) ∧ decode cX1_isFinished 30 = .ok (.goto 4, 3) ∧ decode cX1_isFinished 33 = .ok (.iconst 0, 1) ∧ decode cX1_isFinished 34 = .ok (.ireturn, 1) ∧ True := dq_of (l := (0, .aload_n 0, 1) :: (1, .getfield 49, 3) :: (4, .aload_n 0, 1) :: (5, .getfield 40, 3) :: (8, .if_icmp .lt 25, 3) :: (11, .aload_n 0, 1) :: (12, .getfield 34, 3) :: (15, .ifCond .eq 14, 3) :: (18, .aload_n 0, 1) :: (19, .getfield 52, 3) :: (22, .aload_n 0, 1) :: (23, .getfield 15, 3) :: (26, .if_icmp .lt 7, 3) :: (29, .iconst 1, 1) :: (30, .goto 4, 3) :: (33, .iconst 0, 1) :: (34, .ireturn, 1) :: []) (by decide +kernel)
theorem e_X1_isFinished_0 : decode cX1_isFinished 0 = .ok (.aload_n 0, 1) := D_X1_isFinished_0.1
theorem e_X1_isFinished_1 : decode cX1_isFinished 1 = .ok (.getfield 49, 3) := D_X1_isFinished_0.2.1
theorem e_X1_isFinished_4 : decode cX1_isFinished 4 = .ok (.aload_n 0, 1) := D_X1_isFinished_0.2.2.1
theorem e_X1_isFinished_5 : decode cX1_isFinished 5 = .ok (.getfield 40, 3) := D_X1_isFinished_0.2.2.2.1
theorem e_X1_isFinished_8 : decode cX1_isFinished 8 = .ok (.if_icmp .lt 25, 3) := D_X1_isFinished_0.2.2.2.2.1
theorem e_X1_isFinished_11 : decode cX1_isFinished 11 = .ok (.aload_n 0, 1) := D_X1_isFinished_0.2.2.2.2.2.1
theorem e_X1_isFinished_12 : decode cX1_isFinished 12 = .ok (.getfield 34, 3) := D_X1_isFinished_0.2.2.2.2.2.2.1
theorem e_X1_isFinished_15 : decode cX1_isFinished 15 = .ok (.ifCond .eq 14, 3) := D_X1_isFinished_0.2.2.2.2.2.2.2.1
theorem e_X1_isFinished_18 : decode cX1_isFinished 18 = .ok (.aload_n 0, 1) := D_X1_isFinished_0.2.2.2.2.2.2.2.2.1
theorem e_X1_isFinished_19 : decode cX1_isFinished 19 = .ok (.getfield 52, 3) := D_X1_isFinished_0.2.2.2.2.2.2.2.2.2.1
theorem e_X1_isFinished_22 : decode cX1_isFinished 22 = .ok (.aload_n 0, 1) := D_X1_isFinished_0.2.2.2.2.2.2.2.2.2.2.1
theorem e_X1_isFinished_23 : decode cX1_isFinished 23 = .ok (.getfield 15, 3) := D_X1_isFinished_0.2.2.2.2.2.2.2.2.2.2.2.1
theorem e_X1_isFinished_26 : decode cX1_isFinished 26 = .ok (.if_icmp .lt 7, 3) := D_X1_isFinished_0.2.2.2.2.2.2.2.2.2.2.2.2.1
theorem e_X1_isFinished_29 : decode cX1_isFinished 29 = .ok (.iconst 1, 1) := D_X1_isFinished_0.2.2.2.2.2.2.2.2.2.2.2.2.2.1
theorem e_X1_isFinished_30 : decode cX1_isFinished 30 = .ok (.goto 4, 3) := D_X1_isFinished_0.2.2.2.2.2.2.2.2.2.2.2.2.2.2.1
theorem e_X1_isFinished_33 : decode cX1_isFinished 33 = .ok (.iconst 0, 1) := D_X1_isFinished_0.2.2.2.2.2.2.2.2.2.2.2.2.2.2.2.1
theorem e_X1_isFinished_34 : decode cX1_isFinished 34 = .ok (.ireturn, 1) := D_X1_isFinished_0.2.2.2.2.2.2.2.2.2.2.2.2.2.2.2.2.1
set_option maxRecDepth 100000 in
theorem D_X1_nextSheet_0 : decode cX1_nextSheet 0 = .ok (.aload_n 0, 1) ∧ decode cX1_nextSheet 1 = .ok (.getfield 49, 3) ∧ decode cX1_nextSheet 4 = .ok (.aload_n 0, 1) ∧ decode cX1_nextSheet 5 = .ok (.getfield 40, 3) ∧ decode cX1_nextSheet 8 = .ok (.if_icmp .ge 19, 3) ∧ decode cX1_nextSheet 11 = .ok (.aload_n 0, 1) ∧ decode cX1_nextSheet 12 = .ok (.getfield 37, 3) ∧ decode cX1_nextSheet 15 = .ok (.iconst 1, 1) ∧ decode cX1_nextSheet 16 = .ok (.if_icmp .lt 11, 3) ∧ decode cX1_nextSheet 19 = .ok (.aload_n 0, 1) ∧ decode cX1_nextSheet 20 = .ok (.getfield 15, 3) ∧ decode cX1_nextSheet 23 = .ok (.iconst 1, 1) ∧ decode cX1_nextSheet 24 = .ok (.if_icmp .ge 6, 3) ∧ decode cX1_nextSheet 27 = .ok (.bipush (-4), 2) ∧ decode cX1_nextSheet 29 = .ok (.ireturn, 1) ∧ decode cX1_nextSheet 30 = .ok (.aload_n 0, 1) ∧ decode cX1_nextSheet 31 = .ok (.getfield 31, 3) ∧ decode cX1_nextSheet 34 = .ok (.ifCond .eq 15, 3) ∧ decode cX1_nextSheet 37 = .ok (.aload_n 0, 1) ∧ decode cX1_nextSheet 38 = .ok (.getfield 49, 3) ∧ decode cX1_nextSheet 41 = .ok (.aload_n 0, 1) ∧ decode cX1_nextSheet 42 = .ok (.getfield 37, 3) ∧ decode cX1_nextSheet 45 = .ok (.irem, 1) ∧ decode cX1_nextSheet 46 = .ok (.goto 12, 3) ∧ decode cX1_nextSheet 49 = .ok (.aload_n 0, 1) ∧ decode cX1_nextSheet 50 = .ok (.getfield 49, 3) ∧ decode cX1_nextSheet 53 = .ok (.aload_n 0, 1) ∧ decode cX1_nextSheet 54 = .ok (.getfield 15, 3) ∧ decode cX1_nextSheet 57 = .ok (.idiv, 1) ∧ decode cX1_nextSheet 58 = .ok (.ireturn, 1) ∧ True := dq_of (l := (0, .aload_n 0, 1) :: (1, .getfield 49, 3) :: (4, .aload_n 0, 1) :: (5, .getfield 40, 3) :: (8, .if_icmp .ge 19, 3) :: (11, .aload_n 0, 1) :: (12, .getfield 37, 3) :: (15, .iconst 1, 1) :: (16, .if_icmp .lt 11, 3) :: (19, .aload_n 0, 1) :: (20, .getfield 15, 3) :: (23, .iconst 1, 1) :: (24, .if_icmp .ge 6, 3) :: (27, .bipush (-4), 2) :: (29, .ireturn, 1) :: (30, .aload_n 0, 1) :: (31, .getfield 31, 3) :: (34, .ifCond .eq 15, 3) :: (37, .aload_n 0, 1) :: (38, .getfield 49, 3) :: (41, .aload_n 0, 1) :: (42, .getfield 37, 3) :: (45, .irem, 1) :: (46, .goto 12, 3) :: (49, .aload_n 0, 1) :: (50, .getfield 49, 3) :: (53, .aload_n 0, 1) :: (54, .getfield 15, 3) :: (57, .idiv, 1) :: (58, .ireturn, 1) :: []) (by decide +kernel)
theorem e_X1_nextSheet_0 : decode cX1_nextSheet 0 = .ok (.aload_n 0, 1) := D_X1_nextSheet_0.1
theorem e_X1_nextSheet_1 : decode cX1_nextSheet 1 = .ok (.getfield 49, 3) := D_X1_nextSheet_0.2.1
theorem e_X1_nextSheet_4 : decode cX1_nextSheet 4 = .ok (.aload_n 0, 1) := D_X1_nextSheet_0.2.2.1
theorem e_X1_nextSheet_5 : decode cX1_nextSheet 5 = .ok (.getfield 40, 3) := D_X1_nextSheet_0.2.2.2.1
theorem e_X1_nextSheet_8 : decode cX1_nextSheet 8 = .ok (.if_icmp .ge 19, 3) := D_X1_nextSheet_0.2.2.2.2.1
theorem e_X1_nextSheet_11 : decode cX1_nextSheet 11 = .ok (.aload_n 0, 1) := D_X1_nextSheet_0.2.2.2.2.2.1
theorem e_X1_nextSheet_12 : decode cX1_nextSheet 12 = .ok (.getfield 37, 3) := D_X1_nextSheet_0.2.2.2.2.2.2.1
theorem e_X1_nextSheet_15 : decode cX1_nextSheet 15 = .ok (.iconst 1, 1) := D_X1_nextSheet_0.2.2.2.2.2.2.2.1
theorem e_X1_nextSheet_16 : decode cX1_nextSheet 16 = .ok (.if_icmp .lt 11, 3) := D_X1_nextSheet_0.2.2.2.2.2.2.2.2.1
theorem e_X1_nextSheet_19 : decode cX1_nextSheet 19 = .ok (.aload_n 0, 1) := D_X1_nextSheet_0.2.2.2.2.2.2.2.2.2.1
theorem e_X1_nextSheet_20 : decode cX1_nextSheet 20 = .ok (.getfield 15, 3) := D_X1_nextSheet_0.2.2.2.2.2.2.2.2.2.2.1
theorem e_X1_nextSheet_23 : decode cX1_nextSheet 23 = .ok (.iconst 1, 1) := D_X1_nextSheet_0.2.2.2.2.2.2.2.2.2.2.2.1
theorem e_X1_nextSheet_24 : decode cX1_nextSheet 24 = .ok (.if_icmp .ge 6, 3) := D_X1_nextSheet_0.2.2.2.2.2.2.2.2.2.2.2.2.1
theorem e_X1_nextSheet_27 : decode cX1_nextSheet 27 = .ok (.bipush (-4), 2) := D_X1_nextSheet_0.2.2.2.2.2.2.2.2.2.2.2.2.2.1
theorem e_X1_nextSheet_29 : decode cX1_nextSheet 29 = .ok (.ireturn, 1) := D_X1_nextSheet_0.2.2.2.2.2.2.2.2.2.2.2.2.2.2.1
theorem e_X1_nextSheet_30 : decode cX1_nextSheet 30 = .ok (.aload_n 0, 1) := D_X1_nextSheet_0.2.2.2.2.2.2.2.2.2.2.2.2.2.2.2.1
theorem e_X1_nextSheet_31 : decode cX1_nextSheet 31 = .ok (.getfield 31, 3) := D_X1_nextSheet_0.2.2.2.2.2.2.2.2.2.2.2.2.2.2.2.2.1
theorem e_X1_nextSheet_34 : decode cX1_nextSheet 34 = .ok (.ifCond .eq 15, 3) := D_X1_nextSheet_0.2.2.2.2.2.2.2.2.2.2.2.2.2.2.2.2.2.1
theorem e_X1_nextSheet_37 : decode cX1_nextSheet 37 = .ok (.aload_n 0, 1) := D_X1_nextSheet_0.2.2.2.2.2.2.2.2.2.2.2.2.2.2.2.2.2.2.1
theorem e_X1_nextSheet_38 : decode cX1_nextSheet 38 = .ok (.getfield 49, 3) := D_X1_nextSheet_0.2.2.2.2.2.2.2.2.2.2.2.2.2.2.2.2.2.2.2.1
theorem e_X1_nextSheet_41 : decode cX1_nextSheet 41 = .ok (.aload_n 0, 1) := D_X1_nextSheet_0.2.2.2.2.2.2.2.2.2.2.2.2.2.2.2.2.2.2.2.2.1
theorem e_X1_nextSheet_42 : decode cX1_nextSheet 42 = .ok (.getfield 37, 3) := D_X1_nextSheet_0.2.2.2.2.2.2.2.2.2.2.2.2.2.2.2.2.2.2.2.2.2.1
theorem e_X1_nextSheet_45 : decode cX1_nextSheet 45 = .ok (.irem, 1) := D_X1_nextSheet_0.2.2.2.2.2.2.2.2.2.2.2.2.2.2.2.2.2.2.2.2.2.2.1
theorem e_X1_nextSheet_46 : decode cX1_nextSheet 46 = .ok (.goto 12, 3) := D_X1_nextSheet_0.2.2.2.2.2.2.2.2.2.2.2.2.2.2.2.2.2.2.2.2.2.2.2.1
theorem e_X1_nextSheet_49 : decode cX1_nextSheet 49 = .ok (.aload_n 0, 1) := D_X1_nextSheet_0.2.2.2.2.2.2.2.2.2.2.2.2.2.2.2.2.2.2.2.2.2.2.2.2.1
theorem e_X1_nextSheet_50 : decode cX1_nextSheet 50 = .ok (.getfield 49, 3) := D_X1_nextSheet_0.2.2.2.2.2.2.2.2.2.2.2.2.2.2.2.2.2.2.2.2.2.2.2.2.2.1
theorem e_X1_nextSheet_53 : decode cX1_nextSheet 53 = .ok (.aload_n 0, 1) := D_X1_nextSheet_0.2.2.2.2.2.2.2.2.2.2.2.2.2.2.2.2.2.2.2.2.2.2.2.2.2.2.1
theorem e_X1_nextSheet_54 : decode cX1_nextSheet 54 = .ok (.getfield 15, 3) := D_X1_nextSheet_0.2.2.2.2.2.2.2.2.2.2.2.2.2.2.2.2.2.2.2.2.2.2.2.2.2.2.2.1
theorem e_X1_nextSheet_57 : decode cX1_nextSheet 57 = .ok (.idiv, 1) := D_X1_nextSheet_0.2.2.2.2.2.2.2.2.2.2.2.2.2.2.2.2.2.2.2.2.2.2.2.2.2.2.2.2.1
theorem e_X1_nextSheet_58 : decode cX1_nextSheet 58 = .ok (.ireturn, 1) := D_X1_nextSheet_0.2.2.2.2.2.2.2.2.2.2.2.2.2.2.2.2.2.2.2.2.2.2.2.2.2.2.2.2.2.1
set_option maxRecDepth 100000 in
theorem D_X1_nextCopy_0 : decode cX1_nextCopy 0 = .ok (.aload_n 0, 1) ∧ decode cX1_nextCopy 1 = .ok (.getfield 49, 3) ∧ decode cX1_nextCopy 4 = .ok (.aload_n 0, 1) ∧ decode cX1_nextCopy 5 = .ok (.getfield 40, 3) ∧ decode cX1_nextCopy 8 = .ok (.if_icmp .ge 19, 3) ∧ decode cX1_nextCopy 11 = .ok (.aload_n 0, 1) ∧ decode cX1_nextCopy 12 = .ok (.getfield 37, 3) ∧ decode cX1_nextCopy 15 = .ok (.iconst 1, 1) ∧ decode cX1_nextCopy 16 = .ok (.if_icmp .lt 11, 3) ∧ decode cX1_nextCopy 19 = .ok (.aload_n 0, 1) ∧ decode cX1_nextCopy 20 = .ok (.getfield 15, 3) ∧ decode cX1_nextCopy 23 = .ok (.iconst 1, 1) ∧ decode cX1_nextCopy 24 = .ok (.if_icmp .ge 6, 3) ∧ decode cX1_nextCopy 27 = .ok (.bipush (-4), 2) ∧ decode cX1_nextCopy 29 = .ok (.ireturn, 1) ∧ decode cX1_nextCopy 30 = .ok (.aload_n 0, 1) ∧ decode cX1_nextCopy 31 = .ok (.getfield 31, 3) ∧ decode cX1_nextCopy 34 = .ok (.ifCond .eq 15, 3) ∧ decode cX1_nextCopy 37 = .ok (.aload_n 0, 1) ∧ decode cX1_nextCopy 38 = .ok (.getfield 49, 3) ∧ decode cX1_nextCopy 41 = .ok (.aload_n 0, 1) ∧ decode cX1_nextCopy 42 = .ok (.getfield 37, 3) ∧ decode cX1_nextCopy 45 = .ok (.idiv, 1) ∧ decode cX1_nextCopy 46 = .ok (.goto 12, 3) ∧ decode cX1_nextCopy 49 = .ok (.aload_n 0, 1) ∧ decode cX1_nextCopy 50 = .ok (.getfield 49, 3) ∧ decode cX1_nextCopy 53 = .ok (.aload_n 0, 1) ∧ decode cX1_nextCopy 54 = .ok (.getfield 15, 3) ∧ decode cX1_nextCopy 57 = .ok (.irem, 1) ∧ decode cX1_nextCopy 58 = .ok (.ireturn, 1) ∧ True := dq_of (l := (0, .aload_n 0, 1) :: (1, .getfield 49, 3) :: (4, .aload_n 0, 1) :: (5, .getfield 40, 3) :: (8, .if_icmp .ge 19, 3) :: (11, .aload_n 0, 1) :: (12, .getfield 37, 3) :: (15, .iconst 1, 1) :: (16, .if_icmp .lt 11, 3) :: (19, .aload_n 0, 1) :: (20, .getfield 15, 3) :: (23, .iconst 1, 1) :: (24, .if_icmp .ge 6, 3) :: (27, .bipush (-4), 2) :: (29, .ireturn, 1) :: (30, .aload_n 0, 1) :: (31, .getfield 31, 3) :: (34, .ifCond .eq 15, 3) :: (37, .aload_n 0, 1) :: (38, .getfield 49, 3) :: (41, .aload_n 0, 1) :: (42, .getfield 37, 3) :: (45, .idiv, 1) :: (46, .goto 12, 3) :: (49, .aload_n 0, 1) :: (50, .getfield 49, 3) :: (53, .aload_n 0, 1) :: (54, .getfield 15, 3) :: (57, .irem, 1) :: (58, .ireturn, 1) :: []) (by decide +kernel)
theorem e_X1_nextCopy_0 : decode cX1_nextCopy 0 = .ok (.aload_n 0, 1) := D_X1_nextCopy_0.1
theorem e_X1_nextCopy_1 : decode cX1_nextCopy 1 = .ok (.getfield 49, 3) := D_X1_nextCopy_0.2.1
theorem e_X1_nextCopy_4 : decode cX1_nextCopy 4 = .ok (.aload_n 0, 1) := D_X1_nextCopy_0.2.2.1
theorem e_X1_nextCopy_5 : decode cX1_nextCopy 5 = .ok (.getfield 40, 3) := D_X1_nextCopy_0.2.2.2.1
theorem e_X1_nextCopy_8 : decode cX1_nextCopy 8 = .ok (.if_icmp .ge 19, 3) := D_X1_nextCopy_0.2.2.2.2.1
theorem e_X1_nextCopy_11 : decode cX1_nextCopy 11 = .ok (.aload_n 0, 1) := D_X1_nextCopy_0.2.2.2.2.2.1
theorem e_X1_nextCopy_12 : decode cX1_nextCopy 12 = .ok (.getfield 37, 3) := D_X1_nextCopy_0.2.2.2.2.2.2.1
theorem e_X1_nextCopy_15 : decode cX1_nextCopy 15 = .ok (.iconst 1, 1) := D_X1_nextCopy_0.2.2.2.2.2.2.2.1
theorem e_X1_nextCopy_16 : decode cX1_nextCopy 16 = .ok (.if_icmp .lt 11, 3) := D_X1_nextCopy_0.2.2.2.2.2.2.2.2.1
theorem e_X1_nextCopy_19 : decode cX1_nextCopy 19 = .ok (.aload_n 0, 1) := D_X1_nextCopy_0.2.2.2.2.2.2.2.2.2.1
theorem e_X1_nextCopy_20 : decode cX1_nextCopy 20 = .ok (.getfield 15, 3) := D_X1_nextCopy_0.2.2.2.2.2.2.2.2.2.2.1
theorem e_X1_nextCopy_23 : decode cX1_nextCopy 23 = .ok (.iconst 1, 1) := D_X1_nextCopy_0.2.2.2.2.2.2.2.2.2.2.2.1
theorem e_X1_nextCopy_24 : decode cX1_nextCopy 24 = .ok (.if_icmp .ge 6, 3) := D_X1_nextCopy_0.2.2.2.2.2.2.2.2.2.2.2.2.1
theorem e_X1_nextCopy_27 : decode cX1_nextCopy 27 = .ok (.bipush (-4), 2) := D_X1_nextCopy_0.2.2.2.2.2.2.2.2.2.2.2.2.2.1
theorem e_X1_nextCopy_29 : decode cX1_nextCopy 29 = .ok (.ireturn, 1) := D_X1_nextCopy_0.2.2.2.2.2.2.2.2.2.2.2.2.2.2.1
theorem e_X1_nextCopy_30 : decode cX1_nextCopy 30 = .ok (.aload_n 0, 1) := D_X1_nextCopy_0.2.2.2.2.2.2.2.2.2.2.2.2.2.2.2.1
theorem e_X1_nextCopy_31 : decode cX1_nextCopy 31 = .ok (.getfield 31, 3) := D_X1_nextCopy_0.2.2.2.2.2.2.2.2.2.2.2.2.2.2.2.2.1
theorem e_X1_nextCopy_34 : decode cX1_nextCopy 34 = .ok (.ifCond .eq 15, 3) := D_X1_nextCopy_0.2.2.2.2.2.2.2.2.2.2.2.2.2.2.2.2.2.1
theorem e_X1_nextCopy_37 : decode cX1_nextCopy 37 = .ok (.aload_n 0, 1) := D_X1_nextCopy_0.2.2.2.2.2.2.2.2.2.2.2.2.2.2.2.2.2.2.1
theorem e_X1_nextCopy_38 : decode cX1_nextCopy 38 = .ok (.getfield 49, 3) := D_X1_nextCopy_0.2.2.2.2.2.2.2.2.2.2.2.2.2.2.2.2.2.2.2.1
theorem e_X1_nextCopy_41 : decode cX1_nextCopy 41 = .ok (.aload_n 0, 1) := D_X1_nextCopy_0.2.2.2.2.2.2.2.2.2.2.2.2.2.2.2.2.2.2.2.2.1
theorem e_X1_nextCopy_42 : decode cX1_nextCopy 42 = .ok (.getfield 37, 3) := D_X1_nextCopy_0.2.2.2.2.2.2.2.2.2.2.2.2.2.2.2.2.2.2.2.2.2.1
theorem e_X1_nextCopy_45 : decode cX1_nextCopy 45 = .ok (.idiv, 1) := D_X1_nextCopy_0.2.2.2.2.2.2.2.2.2.2.2.2.2.2.2.2.2.2.2.2.2.2.1
theorem e_X1_nextCopy_46 : decode cX1_nextCopy 46 = .ok (.goto 12, 3) := D_X1_nextCopy_0.2.2.2.2.2.2.2.2.2.2.2.2.2.2.2.2.2.2.2.2.2.2.2.1
theorem e_X1_nextCopy_49 : decode cX1_nextCopy 49 = .ok (.aload_n 0, 1) := D_X1_nextCopy_0.2.2.2.2.2.2.2.2.2.2.2.2.2.2.2.2.2.2.2.2.2.2.2.2.1
theorem e_X1_nextCopy_50 : decode cX1_nextCopy 50 = .ok (.getfield 49, 3) := D_X1_nextCopy_0.2.2.2.2.2.2.2.2.2.2.2.2.2.2.2.2.2.2.2.2.2.2.2.2.2.1
theorem e_X1_nextCopy_53 : decode cX1_nextCopy 53 = .ok (.aload_n 0, 1) := D_X1_nextCopy_0.2.2.2.2.2.2.2.2.2.2.2.2.2.2.2.2.2.2.2.2.2.2.2.2.2.2.1
theorem e_X1_nextCopy_54 : decode cX1_nextCopy 54 = .ok (.getfield 15, 3) := D_X1_nextCopy_0.2.2.2.2.2.2.2.2.2.2.2.2.2.2.2.2.2.2.2.2.2.2.2.2.2.2.2.1
theorem e_X1_nextCopy_57 : decode cX1_nextCopy 57 = .ok (.irem, 1) := D_X1_nextCopy_0.2.2.2.2.2.2.2.2.2.2.2.2.2.2.2.2.2.2.2.2.2.2.2.2.2.2.2.2.1
theorem e_X1_nextCopy_58 : decode cX1_nextCopy 58 = .ok (.ireturn, 1) := D_X1_nextCopy_0.2.2.2.2.2.2.2.2.2.2.2.2.2.2.2.2.2.2.2.2.2.2.2.2.2.2.2.2.2.1
set_option maxRecDepth 100000 in
theorem D_X1_sidesOfNextSheet_0 : decode cX1_sidesOfNextSheet 0 = .ok (.aload_n 0, 1) ∧ decode cX1_sidesOfNextSheet 1 = .ok (.invokevirtual 62, 3) ∧ decode cX1_sidesOfNextSheet 4 = .ok (.aload_n 0, 1) ∧ decode cX1_sidesOfNextSheet 5 = .ok (.getfield 37, 3) ∧ decode cX1_sidesOfNextSheet 8 = .ok (.iconst 1, 1) ∧ decode cX1_sidesOfNextSheet 9 = .ok (.isub, 1) ∧ decode cX1_sidesOfNextSheet 10 = .ok (.if_icmp .ne 7, 3) ∧ decode cX1_sidesOfNextSheet 13 = .ok (.iconst 1, 1) ∧ decode cX1_sidesOfNextSheet 14 = .ok (.goto 4, 3) ∧ decode cX1_sidesOfNextSheet 17 = .ok (.iconst 0, 1) ∧ decode cX1_sidesOfNextSheet 18 = .ok (.istore_n 1, 1) ∧ decode cX1_sidesOfNextSheet 19 = .ok (.aload_n 0, 1) ∧ decode cX1_sidesOfNextSheet 20 = .ok (.getfield 27, 3) ∧ decode cX1_sidesOfNextSheet 23 = .ok (.ifCond .eq 20, 3) ∧ decode cX1_sidesOfNextSheet 26 = .ok (.iload_n 1, 1) ∧ decode cX1_sidesOfNextSheet 27 = .ok (.ifCond .eq 12, 3) ∧ decode cX1_sidesOfNextSheet 30 = .ok (.aload_n 0, 1) ∧ decode cX1_sidesOfNextSheet 31 = .ok (.getfield 9, 3) ∧ decode cX1_sidesOfNextSheet 34 = .ok (.iconst 2, 1) ∧ decode cX1_sidesOfNextSheet 35 = .ok (.irem, 1) ∧ decode cX1_sidesOfNextSheet 36 = .ok (.ifCond .ne 7, 3) ∧ decode cX1_sidesOfNextSheet 39 = .ok (.iconst 2, 1) ∧ decode cX1_sidesOfNextSheet 40 = .ok (.goto 4, 3) ∧ decode cX1_sidesOfNextSheet 43 = .ok (.iconst 1, 1) ∧ decode cX1_sidesOfNextSheet 44 = .ok (.ireturn, 1) ∧ True := dq_of (l := (0, .aload_n 0, 1) :: (1, .invokevirtual 62, 3) :: (4, .aload_n 0, 1) :: (5, .getfield 37, 3) :: (8, .iconst 1, 1) :: (9, .isub, 1) :: (10, .if_icmp .ne 7, 3) :: (13, .iconst 1, 1) :: (14, .goto 4, 3) :: (17, .iconst 0, 1) :: (18, .istore_n 1, 1) :: (19, .aload_n 0, 1) :: (20, .getfield 27, 3) :: (23, .ifCond .eq 20, 3) :: (26, .iload_n 1, 1) :: (27, .ifCond .eq 12, 3) :: (30, .aload_n 0, 1) :: (31, .getfield 9, 3) :: (34, .iconst 2, 1) :: (35, .irem, 1) :: (36, .ifCond .ne 7, 3) :: (39, .iconst 2, 1) :: (40, .goto 4, 3) :: (43, .iconst 1, 1) :: (44, .ireturn, 1) :: []) (by decide +kernel)
theorem e_X1_sidesOfNextSheet_0 : decode cX1_sidesOfNextSheet 0 = .ok (.aload_n 0, 1) := D_X1_sidesOfNextSheet_0.1
theorem e_X1_sidesOfNextSheet_1 : decode cX1_sidesOfNextSheet 1 = .ok (.invokevirtual 62, 3) := D_X1_sidesOfNextSheet_0.2.1
theorem e_X1_sidesOfNextSheet_4 : decode cX1_sidesOfNextSheet 4 = .ok (.aload_n 0, 1) := D_X1_sidesOfNextSheet_0.2.2.1
theorem e_X1_sidesOfNextSheet_5 : decode cX1_sidesOfNextSheet 5 = .ok (.getfield 37, 3) := D_X1_sidesOfNextSheet_0.2.2.2.1
theorem e_X1_sidesOfNextSheet_8 : decode cX1_sidesOfNextSheet 8 = .ok (.iconst 1, 1) := D_X1_sidesOfNextSheet_0.2.2.2.2.1
theorem e_X1_sidesOfNextSheet_9 : decode cX1_sidesOfNextSheet 9 = .ok (.isub, 1) := D_X1_sidesOfNextSheet_0.2.2.2.2.2.1
theorem e_X1_sidesOfNextSheet_10 : decode cX1_sidesOfNextSheet 10 = .ok (.if_icmp .ne 7, 3) := D_X1_sidesOfNextSheet_0.2.2.2.2.2.2.1
theorem e_X1_sidesOfNextSheet_13 : decode cX1_sidesOfNextSheet 13 = .ok (.iconst 1, 1) := D_X1_sidesOfNextSheet_0.2.2.2.2.2.2.2.1
theorem e_X1_sidesOfNextSheet_14 : decode cX1_sidesOfNextSheet 14 = .ok (.goto 4, 3) := D_X1_sidesOfNextSheet_0.2.2.2.2.2.2.2.2.1
theorem e_X1_sidesOfNextSheet_17 : decode cX1_sidesOfNextSheet 17 = .ok (.iconst 0, 1) := D_X1_sidesOfNextSheet_0.2.2.2.2.2.2.2.2.2.1
theorem e_X1_sidesOfNextSheet_18 : decode cX1_sidesOfNextSheet 18 = .ok (.istore_n 1, 1) := D_X1_sidesOfNextSheet_0.2.2.2.2.2.2.2.2.2.2.1
theorem e_X1_sidesOfNextSheet_19 : decode cX1_sidesOfNextSheet 19 = .ok (.aload_n 0, 1) := D_X1_sidesOfNextSheet_0.2.2.2.2.2.2.2.2.2.2.2.1
theorem e_X1_sidesOfNextSheet_20 : decode cX1_sidesOfNextSheet 20 = .ok (.getfield 27, 3) := D_X1_sidesOfNextSheet_0.2.2.2.2.2.2.2.2.2.2.2.2.1
theorem e_X1_sidesOfNextSheet_23 : decode cX1_sidesOfNextSheet 23 = .ok (.ifCond .eq 20, 3) := D_X1_sidesOfNextSheet_0.2.2.2.2.2.2.2.2.2.2.2.2.2.1
theorem e_X1_sidesOfNextSheet_26 : decode cX1_sidesOfNextSheet 26 = .ok (.iload_n 1, 1) := D_X1_sidesOfNextSheet_0.2.2.2.2.2.2.2.2.2.2.2.2.2.2.1
theorem e_X1_sidesOfNextSheet_27 : decode cX1_sidesOfNextSheet 27 = .ok (.ifCond .eq 12, 3) := D_X1_sidesOfNextSheet_0.2.2.2.2.2.2.2.2.2.2.2.2.2.2.2.1
theorem e_X1_sidesOfNextSheet_30 : decode cX1_sidesOfNextSheet 30 = .ok (.aload_n 0, 1) := D_X1_sidesOfNextSheet_0.2.2.2.2.2.2.2.2.2.2.2.2.2.2.2.2.1
theorem e_X1_sidesOfNextSheet_31 : decode cX1_sidesOfNextSheet 31 = .ok (.getfield 9, 3) := D_X1_sidesOfNextSheet_0.2.2.2.2.2.2.2.2.2.2.2.2.2.2.2.2.2.1
theorem e_X1_sidesOfNextSheet_34 : decode cX1_sidesOfNextSheet 34 = .ok (.iconst 2, 1) := D_X1_sidesOfNextSheet_0.2.2.2.2.2.2.2.2.2.2.2.2.2.2.2.2.2.2.1
theorem e_X1_sidesOfNextSheet_35 : decode cX1_sidesOfNextSheet 35 = .ok (.irem, 1) := D_X1_sidesOfNextSheet_0.2.2.2.2.2.2.2.2.2.2.2.2.2.2.2.2.2.2.2.1
theorem e_X1_sidesOfNextSheet_36 : decode cX1_sidesOfNextSheet 36 = .ok (.ifCond .ne 7, 3) := D_X1_sidesOfNextSheet_0.2.2.2.2.2.2.2.2.2.2.2.2.2.2.2.2.2.2.2.2.1
theorem e_X1_sidesOfNextSheet_39 : decode cX1_sidesOfNextSheet 39 = .ok (.iconst 2, 1) := D_X1_sidesOfNextSheet_0.2.2.2.2.2.2.2.2.2.2.2.2.2.2.2.2.2.2.2.2.2.1
theorem e_X1_sidesOfNextSheet_40 : decode cX1_sidesOfNextSheet 40 = .ok (.goto 4, 3) := D_X1_sidesOfNextSheet_0.2.2.2.2.2.2.2.2.2.2.2.2.2.2.2.2.2.2.2.2.2.2.1
theorem e_X1_sidesOfNextSheet_43 : decode cX1_sidesOfNextSheet 43 = .ok (.iconst 1, 1) := D_X1_sidesOfNextSheet_0.2.2.2.2.2.2.2.2.2.2.2.2.2.2.2.2.2.2.2.2.2.2.2.1
theorem e_X1_sidesOfNextSheet_44 : decode cX1_sidesOfNextSheet 44 = .ok (.ireturn, 1) := D_X1_sidesOfNextSheet_0.2.2.2.2.2.2.2.2.2.2.2.2.2.2.2.2.2.2.2.2.2.2.2.2.1
set_option maxRecDepth 100000 in
theorem D_X1_property_0 : decode cX1_property 0 = .ok (.iload_n 1, 1) ∧ decode cX1_property 1 = .ok (.tableswitch 131 0 11 #[63, 68, 73, 78, 83, 88, 93, 106, 111, 116, 121, 126], 63) ∧ decode cX1_property 64 = .ok (.aload_n 0, 1) ∧ decode cX1_property 65 = .ok (.getfield 9, 3) ∧ decode cX1_property 68 = .ok (.ireturn, 1) ∧ decode cX1_property 69 = .ok (.aload_n 0, 1) ∧ decode cX1_property 70 = .ok (.getfield 15, 3) ∧ decode cX1_property 73 = .ok (.ireturn, 1) ∧ decode cX1_property 74 = .ok (.aload_n 0, 1) ∧ decode cX1_property 75 = .ok (.getfield 18, 3) ∧ decode cX1_property 78 = .ok (.ireturn, 1) ∧ decode cX1_property 79 = .ok (.aload_n 0, 1) ∧ decode cX1_property 80 = .ok (.getfield 21, 3) ∧ decode cX1_property 83 = .ok (.ireturn, 1) ∧ decode cX1_property 84 = .ok (.aload_n 0, 1) ∧ decode cX1_property 85 = .ok (.getfield 24, 3) ∧ decode cX1_property 88 = .ok (.ireturn, 1) ∧ decode cX1_property 89 = .ok (.aload_n 0, 1) ∧ decode cX1_property 90 = .ok (.getfield 43, 3) ∧ decode cX1_property 93 = .ok (.ireturn, 1) ∧ decode cX1_property 94 = .ok (.aload_n 0, 1) ∧ decode cX1_property 95 = .ok (.getfield 46, 3) ∧ decode cX1_property 98 = .ok (.ifCond .eq 7, 3) ∧ decode cX1_property 101 = .ok (.iconst 1, 1) ∧ decode cX1_property 102 = .ok (.goto 4, 3) ∧ decode cX1_property 105 = .ok (.iconst 0, 1) ∧ decode cX1_property 106 = .ok (.ireturn, 1) ∧ decode cX1_property 107 = .ok (.aload_n 0, 1) ∧ decode cX1_property 108 = .ok (.getfield 37, 3) ∧ decode cX1_property 111 = .ok (.ireturn, 1) ∧ decode cX1_property 112 = .ok (.aload_n 0, 1) ∧ decode cX1_property 113 = .ok (.getfield 40, 3) ∧ decode cX1_property 116 = .ok (.ireturn, 1) ∧ decode cX1_property 117 = .ok (.aload_n 0, 1) ∧ decode cX1_property 118 = .ok (.getfield 49, 3) ∧ decode cX1_property 121 = .ok (.ireturn, 1) ∧ decode cX1_property 122 = .ok (.aload_n 0, 1) ∧ decode cX1_property 123 = .ok (.getfield 52, 3) ∧ decode cX1_property 126 = .ok (.ireturn, 1) ∧ decode cX1_property 127 = .ok (.aload_n 0, 1) ∧ True := dq_of (l := (0, .iload_n 1, 1) :: (1, .tableswitch 131 0 11 #[63, 68, 73, 78, 83, 88, 93, 106, 111, 116, 121, 126], 63) :: (64, .aload_n 0, 1) :: (65, .getfield 9, 3) :: (68, .ireturn, 1) :: (69, .aload_n 0, 1) :: (70, .getfield 15, 3) :: (73, .ireturn, 1) :: (74, .aload_n 0, 1) :: (75, .getfield 18, 3) :: (78, .ireturn, 1) :: (79, .aload_n 0, 1) :: (80, .getfield 21, 3) :: (83, .ireturn, 1) :: (84, .aload_n 0, 1) :: (85, .getfield 24, 3) :: (88, .ireturn, 1) :: (89, .aload_n 0, 1) :: (90, .getfield 43, 3) :: (93, .ireturn, 1) :: (94, .aload_n 0, 1) :: (95, .getfield 46, 3) :: (98, .ifCond .eq 7, 3) :: (101, .iconst 1, 1) :: (102, .goto 4, 3) :: (105, .iconst 0, 1) :: (106, .ireturn, 1) :: (107, .aload_n 0, 1) :: (108, .getfield 37, 3) :: (111, .ireturn, 1) :: (112, .aload_n 0, 1) :: (113, .getfield 40, 3) :: (116, .ireturn, 1) :: (117, .aload_n 0, 1) :: (118, .getfield 49, 3) :: (121, .ireturn, 1) :: (122, .aload_n 0, 1) :: (123, .getfield 52, 3) :: (126, .ireturn, 1) :: (127, .aload_n 0, 1) :: []) (by decide +kernel)
theorem e_X1_property_0 : decode cX1_property 0 = .ok (.iload_n 1, 1) := D_X1_property_0.1
theorem e_X1_property_1 : decode cX1_property 1 = .ok (.tableswitch 131 0 11 #[63, 68, 73, 78, 83, 88, 93, 106, 111, 116, 121, 126], 63) := D_X1_property_0.2.1
theorem e_X1_property_64 : decode cX1_property 64 = .ok (.aload_n 0, 1) := D_X1_property_0.2.2.1
theorem e_X1_property_65 : decode cX1_property 65 = .ok (.getfield 9, 3) := D_X1_property_0.2.2.2.1
theorem e_X1_property_68 : decode cX1_property 68 = .ok (.ireturn, 1) := D_X1_property_0.2.2.2.2.1
theorem e_X1_property_69 : decode cX1_property 69 = .ok (.aload_n 0, 1) := D_X1_property_0.2.2.2.2.2.1
theorem e_X1_property_70 : decode cX1_property 70 = .ok (.getfield 15, 3) := D_X1_property_0.2.2.2.2.2.2.1
theorem e_X1_property_73 : decode cX1_property 73 = .ok (.ireturn, 1) := D_X1_property_0.2.2.2.2.2.2.2.1
theorem e_X1_property_74 : decode cX1_property 74 = .ok (.aload_n 0, 1) := D_X1_property_0.2.2.2.2.2.2.2.2.1
theorem e_X1_property_75 : decode cX1_property 75 = .ok (.getfield 18, 3) := D_X1_property_0.2.2.2.2.2.2.2.2.2.1
theorem e_X1_property_78 : decode cX1_property 78 = .ok (.ireturn, 1) := D_X1_property_0.2.2.2.2.2.2.2.2.2.2.1
theorem e_X1_property_79 : decode cX1_property 79 = .ok (.aload_n 0, 1) := D_X1_property_0.2.2.2.2.2.2.2.2.2.2.2.1
theorem e_X1_property_80 : decode cX1_property 80 = .ok (.getfield 21, 3) := D_X1_property_0.2.2.2.2.2.2.2.2.2.2.2.2.1
theorem e_X1_property_83 : decode cX1_property 83 = .ok (.ireturn, 1) := D_X1_property_0.2.2.2.2.2.2.2.2.2.2.2.2.2.1
theorem e_X1_property_84 : decode cX1_property 84 = .ok (.aload_n 0, 1) := D_X1_property_0.2.2.2.2.2.2.2.2.2.2.2.2.2.2.1
theorem e_X1_property_85 : decode cX1_property 85 = .ok (.getfield 24, 3) := D_X1_property_0.2.2.2.2.2.2.2.2.2.2.2.2.2.2.2.1
theorem e_X1_property_88 : decode cX1_property 88 = .ok (.ireturn, 1) := D_X1_property_0.2.2.2.2.2.2.2.2.2.2.2.2.2.2.2.2.1
theorem e_X1_property_89 : decode cX1_property 89 = .ok (.aload_n 0, 1) := D_X1_property_0.2.2.2.2.2.2.2.2.2.2.2.2.2.2.2.2.2.1
theorem e_X1_property_90 : decode cX1_property 90 = .ok (.getfield 43, 3) := D_X1_property_0.2.2.2.2.2.2.2.2.2.2.2.2.2.2.2.2.2.2.1
theorem e_X1_property_93 : decode cX1_property 93 = .ok (.ireturn, 1) := D_X1_property_0.2.2.2.2.2.2.2.2.2.2.2.2.2.2.2.2.2.2.2.1
theorem e_X1_property_94 : decode cX1_property 94 = .ok (.aload_n 0, 1) := D_X1_property_0.2.2.2.2.2.2.2.2.2.2.2.2.2.2.2.2.2.2.2.2.1
theorem e_X1_property_95 : decode cX1_property 95 = .ok (.getfield 46, 3) := D_X1_property_0.2.2.2.2.2.2.2.2.2.2.2.2.2.2.2.2.2.2.2.2.2.1
theorem e_X1_property_98 : decode cX1_property 98 = .ok (.ifCond .eq 7, 3) := D_X1_property_0.2.2.2.2.2.2.2.2.2.2.2.2.2.2.2.2.2.2.2.2.2.2.1
theorem e_X1_property_101 : decode cX1_property 101 = .ok (.iconst 1, 1) := D_X1_property_0.2.2.2.2.2.2.2.2.2.2.2.2.2.2.2.2.2.2.2.2.2.2.2.1
theorem e_X1_property_102 : decode cX1_property 102 = .ok (.goto 4, 3) := D_X1_property_0.2.2.2.2.2.2.2.2.2.2.2.2.2.2.2.2.2.2.2.2.2.2.2.2.1
theorem e_X1_property_105 : decode cX1_property 105 = .ok (.iconst 0, 1) := D_X1_property_0.2.2.2.2.2.2.2.2.2.2.2.2.2.2.2.2.2.2.2.2.2.2.2.2.2.1
theorem e_X1_property_106 : decode cX1_property 106 = .ok (.ireturn, 1) := D_X1_property_0.2.2.2.2.2.2.2.2.2.2.2.2.2.2.2.2.2.2.2.2.2.2.2.2.2.2.1
theorem e_X1_property_107 : decode cX1_property 107 = .ok (.aload_n 0, 1) := D_X1_property_0.2.2.2.2.2.2.2.2.2.2.2.2.2.2.2.2.2.2.2.2.2.2.2.2.2.2.2.1
theorem e_X1_property_108 : decode cX1_property 108 = .ok (.getfield 37, 3) := D_X1_property_0.2.2.2.2.2.2.2.2.2.2.2.2.2.2.2.2.2.2.2.2.2.2.2.2.2.2.2.2.1
theorem e_X1_property_111 : decode cX1_property 111 = .ok (.ireturn, 1) := D_X1_property_0.2.2.2.2.2.2.2.2.2.2.2.2.2.2.2.2.2.2.2.2.2.2.2.2.2.2.2.2.2.1
theorem e_X1_property_112 : decode cX1_property 112 = .ok (.aload_n 0, 1) := D_X1_property_0.2.2.2.2.2.2.2.2.2.2.2.2.2.2.2.2.2.2.2.2.2.2.2.2.2.2.2.2.2.2.1
theorem e_X1_property_113 : decode cX1_property 113 = .ok (.getfield 40, 3) := D_X1_property_0.2.2.2.2.2.2.2.2.2.2.2.2.2.2.2.2.2.2.2.2.2.2.2.2.2.2.2.2.2.2.2.1
theorem e_X1_property_116 : decode cX1_property 116 = .ok (.ireturn, 1) := D_X1_property_0.2.2.2.2.2.2.2.2.2.2.2.2.2.2.2.2.2.2.2.2.2.2.2.2.2.2.2.2.2.2.2.2.1
theorem e_X1_property_117 : decode cX1_property 117 = .ok (.aload_n 0, 1) := D_X1_property_0.2.2.2.2.2.2.2.2.2.2.2.2.2.2.2.2.2.2.2.2.2.2.2.2.2.2.2.2.2.2.2.2.2.1
theorem e_X1_property_118 : decode cX1_property 118 = .ok (.getfield 49, 3) := D_X1_property_0.2.2.2.2.2.2.2.2.2.2.2.2.2.2.2.2.2.2.2.2.2.2.2.2.2.2.2.2.2.2.2.2.2.2.1
theorem e_X1_property_121 : decode cX1_property 121 = .ok (.ireturn, 1) := D_X1_property_0.2.2.2.2.2.2.2.2.2.2.2.2.2.2.2.2.2.2.2.2.2.2.2.2.2.2.2.2.2.2.2.2.2.2.2.1
theorem e_X1_property_122 : decode cX1_property 122 = .ok (.aload_n 0, 1) := D_X1_property_0.2.2.2.2.2.2.2.2.2.2.2.2.2.2.2.2.2.2.2.2.2.2.2.2.2.2.2.2.2.2.2.2.2.2.2.2.1
theorem e_X1_property_123 : decode cX1_property 123 = .ok (.getfield 52, 3) := D_X1_property_0.2.2.2.2.2.2.2.2.2.2.2.2.2.2.2.2.2.2.2.2.2.2.2.2.2.2.2.2.2.2.2.2.2.2.2.2.2.1
theorem e_X1_property_126 : decode cX1_property 126 = .ok (.ireturn, 1) := D_X1_property_0.2.2.2.2.2.2.2.2.2.2.2.2.2.2.2.2.2.2.2.2.2.2.2.2.2.2.2.2.2.2.2.2.2.2.2.2.2.2.1
theorem e_X1_property_127 : decode cX1_property 127 = .ok (.aload_n 0, 1) := D_X1_property_0.2.2.2.2.2.2.2.2.2.2.2.2.2.2.2.2.2.2.2.2.2.2.2.2.2.2.2.2.2.2.2.2.2.2.2.2.2.2.2.1
set_option maxRecDepth 100000 in
theorem D_X1_property_1 : decode cX1_property 128 = .ok (.invokevirtual 62, 3) ∧ decode cX1_property 131 = .ok (.ireturn, 1) ∧ decode cX1_property 132 = .ok (.aload_n 0, 1) ∧ decode cX1_property 133 = .ok (.invokevirtual 66, 3) ∧ decode cX1_property 136 = .ok (.ireturn, 1) ∧ True := dq_of (l := (128, .invokevirtual 62, 3) :: (131, .ireturn, 1) :: (132, .aload_n 0, 1) :: (133, .invokevirtual 66, 3) :: (136, .ireturn, 1) :: []) (by decide +kernel)
theorem e_X1_property_128 : decode cX1_property 128 = .ok (.invokevirtual 62, 3) := D_X1_property_1.1
theorem e_X1_property_131 : decode cX1_property 131 = .ok (.ireturn, 1) := D_X1_property_1.2.1
theorem e_X1_property_132 : decode cX1_property 132 = .ok (.aload_n 0, 1) := D_X1_property_1.2.2.1
theorem e_X1_property_133 : decode cX1_property 133 = .ok (.invokevirtual 66, 3) := D_X1_property_1.2.2.2.1
theorem e_X1_property_136 : decode cX1_property 136 = .ok (.ireturn, 1) := D_X1_property_1.2.2.2.2.1
set_option maxRecDepth 100000 in
theorem D_X2_init_0 : decode cX2_init 0 = .ok (.aload_n 0, 1) ∧ decode cX2_init 1 = .ok (.invokespecial 3, 3) ∧ decode cX2_init 4 = .ok (.aload_n 0, 1) ∧ decode cX2_init 5 = .ok (.bipush 100, 2) ∧ decode cX2_init 7 = .ok (.newarray .char, 2) ∧ decode cX2_init 9 = .ok (.putfield 9, 3) ∧ decode cX2_init 12 = .ok (.return_, 1) ∧ True := dq_of (l := (0, .aload_n 0, 1) :: (1, .invokespecial 3, 3) :: (4, .aload_n 0, 1) :: (5, .bipush 100, 2) :: (7, .newarray .char, 2) :: (9, .putfield 9, 3) :: (12, .return_, 1) :: []) (by decide +kernel)
theorem e_X2_init_0 : decode cX2_init 0 = .ok (.aload_n 0, 1) := D_X2_init_0.1
theorem e_X2_init_1 : decode cX2_init 1 = .ok (.invokespecial 3, 3) := D_X2_init_0.2.1
theorem e_X2_init_4 : decode cX2_init 4 = .ok (.aload_n 0, 1) := D_X2_init_0.2.2.1
theorem e_X2_init_5 : decode cX2_init 5 = .ok (.bipush 100, 2) := D_X2_init_0.2.2.2.1
theorem e_X2_init_7 : decode cX2_init 7 = .ok (.newarray .char, 2) := D_X2_init_0.2.2.2.2.1
theorem e_X2_init_9 : decode cX2_init 9 = .ok (.putfield 9, 3) := D_X2_init_0.2.2.2.2.2.1
theorem e_X2_init_12 : decode cX2_init 12 = .ok (.return_, 1) := D_X2_init_0.2.2.2.2.2.2.1
set_option maxRecDepth 100000 in
theorem D_X2_append_0 : decode cX2_append 0 = .ok (.aload_n 0, 1) ∧ decode cX2_append 1 = .ok (.getfield 15, 3) ∧ decode cX2_append 4 = .ok (.bipush 100, 2) ∧ decode cX2_append 6 = .ok (.invokestatic 19, 3) ∧ decode cX2_append 9 = .ok (.ifCond .eq 23, 3) ∧ decode cX2_append 12 = .ok (.aload_n 0, 1) ∧ decode cX2_append 13 = .ok (.getfield 9, 3) ∧ decode cX2_append 16 = .ok (.aload_n 0, 1) ∧ decode cX2_append 17 = .ok (.getfield 15, 3) ∧ decode cX2_append 20 = .ok (.iload_n 1, 1) ∧ decode cX2_append 21 = .ok (.castore, 1) ∧ decode cX2_append 22 = .ok (.aload_n 0, 1) ∧ decode cX2_append 23 = .ok (.dup, 1) ∧ decode cX2_append 24 = .ok (.getfield 15, 3) ∧ decode cX2_append 27 = .ok (.iconst 1, 1) ∧ decode cX2_append 28 = .ok (.iadd, 1) ∧ decode cX2_append 29 = .ok (.putfield 15, 3) ∧ decode cX2_append 32 = .ok (.return_, 1) ∧ True := dq_of (l := (0, .aload_n 0, 1) :: (1, .getfield 15, 3) :: (4, .bipush 100, 2) :: (6, .invokestatic 19, 3) :: (9, .ifCond .eq 23, 3) :: (12, .aload_n 0, 1) :: (13, .getfield 9, 3) :: (16, .aload_n 0, 1) :: (17, .getfield 15, 3) :: (20, .iload_n 1, 1) :: (21, .castore, 1) :: (22, .aload_n 0, 1) :: (23, .dup, 1) :: (24, .getfield 15, 3) :: (27, .iconst 1, 1) :: (28, .iadd, 1) :: (29, .putfield 15, 3) :: (32, .return_, 1) :: []) (by decide +kernel)
theorem e_X2_append_0 : decode cX2_append 0 = .ok (.aload_n 0, 1) := D_X2_append_0.1
theorem e_X2_append_1 : decode cX2_append 1 = .ok (.getfield 15, 3) := D_X2_append_0.2.1
theorem e_X2_append_4 : decode cX2_append 4 = .ok (.bipush 100, 2) := D_X2_append_0.2.2.1
theorem e_X2_append_6 : decode cX2_append 6 = .ok (.invokestatic 19, 3) := D_X2_append_0.2.2.2.1
theorem e_X2_append_9 : decode cX2_append 9 = .ok (.ifCond .eq 23, 3) := D_X2_append_0.2.2.2.2.1
theorem e_X2_append_12 : decode cX2_append 12 = .ok (.aload_n 0, 1) := D_X2_append_0.2.2.2.2.2.1
theorem e_X2_append_13 : decode cX2_append 13 = .ok (.getfield 9, 3) := D_X2_append_0.2.2.2.2.2.2.1
theorem e_X2_append_16 : decode cX2_append 16 = .ok (.aload_n 0, 1) := D_X2_append_0.2.2.2.2.2.2.2.1
theorem e_X2_append_17 : decode cX2_append 17 = .ok (.getfield 15, 3) := D_X2_append_0.2.2.2.2.2.2.2.2.1
theorem e_X2_append_20 : decode cX2_append 20 = .ok (.iload_n 1, 1) := D_X2_append_0.2.2.2.2.2.2.2.2.2.1
theorem e_X2_append_21 : decode cX2_append 21 = .ok (.castore, 1) := D_X2_append_0.2.2.2.2.2.2.2.2.2.2.1
theorem e_X2_append_22 : decode cX2_append 22 = .ok (.aload_n 0, 1) := D_X2_append_0.2.2.2.2.2.2.2.2.2.2.2.1
theorem e_X2_append_23 : decode cX2_append 23 = .ok (.dup, 1) := D_X2_append_0.2.2.2.2.2.2.2.2.2.2.2.2.1
theorem e_X2_append_24 : decode cX2_append 24 = .ok (.getfield 15, 3) := D_X2_append_0.2.2.2.2.2.2.2.2.2.2.2.2.2.1
theorem e_X2_append_27 : decode cX2_append 27 = .ok (.iconst 1, 1) := D_X2_append_0.2.2.2.2.2.2.2.2.2.2.2.2.2.2.1
theorem e_X2_append_28 : decode cX2_append 28 = .ok (.iadd, 1) := D_X2_append_0.2.2.2.2.2.2.2.2.2.2.2.2.2.2.2.1
theorem e_X2_append_29 : decode cX2_append 29 = .ok (.putfield 15, 3) := D_X2_append_0.2.2.2.2.2.2.2.2.2.2.2.2.2.2.2.2.1
theorem e_X2_append_32 : decode cX2_append 32 = .ok (.return_, 1) := D_X2_append_0.2.2.2.2.2.2.2.2.2.2.2.2.2.2.2.2.2.1
set_option maxRecDepth 100000 in
theorem D_X2_examine_0 : decode cX2_examine 0 = .ok (.aload_n 2, 1) ∧ decode cX2_examine 1 = .ok (.getfield 23, 3) ∧ decode cX2_examine 4 = .ok (.iconst 3, 1) ∧ decode cX2_examine 5 = .ok (.iaload, 1) ∧ decode cX2_examine 6 = .ok (.istore_n 3, 1) ∧ decode cX2_examine 7 = .ok (.aload_n 2, 1) ∧ decode cX2_examine 8 = .ok (.getfield 29, 3) ∧ decode cX2_examine 11 = .ok (.invokevirtual 33, 3) ∧ decode cX2_examine 14 = .ok (.istore 4, 2) ∧ decode cX2_examine 16 = .ok (.aload_n 0, 1) ∧ decode cX2_examine 17 = .ok (.iconst 0, 1) ∧ decode cX2_examine 18 = .ok (.putfield 39, 3) ∧ decode cX2_examine 21 = .ok (.aload_n 0, 1) ∧ decode cX2_examine 22 = .ok (.iconst 0, 1) ∧ decode cX2_examine 23 = .ok (.putfield 42, 3) ∧ decode cX2_examine 26 = .ok (.aload_n 0, 1) ∧ decode cX2_examine 27 = .ok (.iconst 0, 1) ∧ decode cX2_examine 28 = .ok (.putfield 45, 3) ∧ decode cX2_examine 31 = .ok (.iconst 0, 1) ∧ decode cX2_examine 32 = .ok (.istore 5, 2) ∧ decode cX2_examine 34 = .ok (.iload 5, 2) ∧ decode cX2_examine 36 = .ok (.bipush 100, 2) ∧ decode cX2_examine 38 = .ok (.if_icmp .ge 64, 3) ∧ decode cX2_examine 41 = .ok (.aload_n 0, 1) ∧ decode cX2_examine 42 = .ok (.getfield 39, 3) ∧ decode cX2_examine 45 = .ok (.aload_n 0, 1) ∧ decode cX2_examine 46 = .ok (.getfield 15, 3) ∧ decode cX2_examine 49 = .ok (.if_icmp .ge 53, 3) ∧ decode cX2_examine 52 = .ok (.aload_n 0, 1) ∧ decode cX2_examine 53 = .ok (.getfield 45, 3) ∧ decode cX2_examine 56 = .ok (.ifCond .ne 46, 3) ∧ decode cX2_examine 59 = .ok (.aload_n 0, 1) ∧ decode cX2_examine 60 = .ok (.aload_n 0, 1) ∧ decode cX2_examine 61 = .ok (.getfield 39, 3) ∧ decode cX2_examine 64 = .ok (.putfield 48, 3) ∧ decode cX2_examine 67 = .ok (.aload_n 0, 1) ∧ decode cX2_examine 68 = .ok (.aload_n 0, 1) ∧ decode cX2_examine 69 = .ok (.aload_n 1, 1) ∧ decode cX2_examine 70 = .ok (.iload_n 3, 1) ∧ decode cX2_examine 71 = .ok (.iload 4, 2) ∧ True := dq_of (l := (0, .aload_n 2, 1) :: (1, .getfield 23, 3) :: (4, .iconst 3, 1) :: (5, .iaload, 1) :: (6, .istore_n 3, 1) :: (7, .aload_n 2, 1) :: (8, .getfield 29, 3) :: (11, .invokevirtual 33, 3) :: (14, .istore 4, 2) :: (16, .aload_n 0, 1) :: (17, .iconst 0, 1) :: (18, .putfield 39, 3) :: (21, .aload_n 0, 1) :: (22, .iconst 0, 1) :: (23, .putfield 42, 3) :: (26, .aload_n 0, 1) :: (27, .iconst 0, 1) :: (28, .putfield 45, 3) :: (31, .iconst 0, 1) :: (32, .istore 5, 2) :: (34, .iload 5, 2) :: (36, .bipush 100, 2) :: (38, .if_icmp .ge 64, 3) :: (41, .aload_n 0, 1) :: (42, .getfield 39, 3) :: (45, .aload_n 0, 1) :: (46, .getfield 15, 3) :: (49, .if_icmp .ge 53, 3) :: (52, .aload_n 0, 1) :: (53, .getfield 45, 3) :: (56, .ifCond .ne 46, 3) :: (59, .aload_n 0, 1) :: (60, .aload_n 0, 1) :: (61, .getfield 39, 3) :: (64, .putfield 48, 3) :: (67, .aload_n 0, 1) :: (68, .aload_n 0, 1) :: (69, .aload_n 1, 1) :: (70, .iload_n 3, 1) :: (71, .iload 4, 2) :: []) (by decide +kernel)
theorem e_X2_examine_0 : decode cX2_examine 0 = .ok (.aload_n 2, 1) := D_X2_examine_0.1
theorem e_X2_examine_1 : decode cX2_examine 1 = .ok (.getfield 23, 3) := D_X2_examine_0.2.1
theorem e_X2_examine_4 : decode cX2_examine 4 = .ok (.iconst 3, 1) := D_X2_examine_0.2.2.1
theorem e_X2_examine_5 : decode cX2_examine 5 = .ok (.iaload, 1) := D_X2_examine_0.2.2.2.1
theorem e_X2_examine_6 : decode cX2_examine 6 = .ok (.istore_n 3, 1) := D_X2_examine_0.2.2.2.2.1
theorem e_X2_examine_7 : decode cX2_examine 7 = .ok (.aload_n 2, 1) := D_X2_examine_0.2.2.2.2.2.1
theorem e_X2_examine_8 : decode cX2_examine 8 = .ok (.getfield 29, 3) := D_X2_examine_0.2.2.2.2.2.2.1
theorem e_X2_examine_11 : decode cX2_examine 11 = .ok (.invokevirtual 33, 3) := D_X2_examine_0.2.2.2.2.2.2.2.1
theorem e_X2_examine_14 : decode cX2_examine 14 = .ok (.istore 4, 2) := D_X2_examine_0.2.2.2.2.2.2.2.2.1
theorem e_X2_examine_16 : decode cX2_examine 16 = .ok (.aload_n 0, 1) := D_X2_examine_0.2.2.2.2.2.2.2.2.2.1
theorem e_X2_examine_17 : decode cX2_examine 17 = .ok (.iconst 0, 1) := D_X2_examine_0.2.2.2.2.2.2.2.2.2.2.1
theorem e_X2_examine_18 : decode cX2_examine 18 = .ok (.putfield 39, 3) := D_X2_examine_0.2.2.2.2.2.2.2.2.2.2.2.1
theorem e_X2_examine_21 : decode cX2_examine 21 = .ok (.aload_n 0, 1) := D_X2_examine_0.2.2.2.2.2.2.2.2.2.2.2.2.1
theorem e_X2_examine_22 : decode cX2_examine 22 = .ok (.iconst 0, 1) := D_X2_examine_0.2.2.2.2.2.2.2.2.2.2.2.2.2.1
theorem e_X2_examine_23 : decode cX2_examine 23 = .ok (.putfield 42, 3) := D_X2_examine_0.2.2.2.2.2.2.2.2.2.2.2.2.2.2.1
theorem e_X2_examine_26 : decode cX2_examine 26 = .ok (.aload_n 0, 1) := D_X2_examine_0.2.2.2.2.2.2.2.2.2.2.2.2.2.2.2.1
theorem e_X2_examine_27 : decode cX2_examine 27 = .ok (.iconst 0, 1) := D_X2_examine_0.2.2.2.2.2.2.2.2.2.2.2.2.2.2.2.2.1
theorem e_X2_examine_28 : decode cX2_examine 28 = .ok (.putfield 45, 3) := D_X2_examine_0.2.2.2.2.2.2.2.2.2.2.2.2.2.2.2.2.2.1
theorem e_X2_examine_31 : decode cX2_examine 31 = .ok (.iconst 0, 1) := D_X2_examine_0.2.2.2.2.2.2.2.2.2.2.2.2.2.2.2.2.2.2.1
theorem e_X2_examine_32 : decode cX2_examine 32 = .ok (.istore 5, 2) := D_X2_examine_0.2.2.2.2.2.2.2.2.2.2.2.2.2.2.2.2.2.2.2.1
theorem e_X2_examine_34 : decode cX2_examine 34 = .ok (.iload 5, 2) := D_X2_examine_0.2.2.2.2.2.2.2.2.2.2.2.2.2.2.2.2.2.2.2.2.1
theorem e_X2_examine_36 : decode cX2_examine 36 = .ok (.bipush 100, 2) := D_X2_examine_0.2.2.2.2.2.2.2.2.2.2.2.2.2.2.2.2.2.2.2.2.2.1
theorem e_X2_examine_38 : decode cX2_examine 38 = .ok (.if_icmp .ge 64, 3) := D_X2_examine_0.2.2.2.2.2.2.2.2.2.2.2.2.2.2.2.2.2.2.2.2.2.2.1
theorem e_X2_examine_41 : decode cX2_examine 41 = .ok (.aload_n 0, 1) := D_X2_examine_0.2.2.2.2.2.2.2.2.2.2.2.2.2.2.2.2.2.2.2.2.2.2.2.1
theorem e_X2_examine_42 : decode cX2_examine 42 = .ok (.getfield 39, 3) := D_X2_examine_0.2.2.2.2.2.2.2.2.2.2.2.2.2.2.2.2.2.2.2.2.2.2.2.2.1
theorem e_X2_examine_45 : decode cX2_examine 45 = .ok (.aload_n 0, 1) := D_X2_examine_0.2.2.2.2.2.2.2.2.2.2.2.2.2.2.2.2.2.2.2.2.2.2.2.2.2.1
theorem e_X2_examine_46 : decode cX2_examine 46 = .ok (.getfield 15, 3) := D_X2_examine_0.2.2.2.2.2.2.2.2.2.2.2.2.2.2.2.2.2.2.2.2.2.2.2.2.2.2.1
theorem e_X2_examine_49 : decode cX2_examine 49 = .ok (.if_icmp .ge 53, 3) := D_X2_examine_0.2.2.2.2.2.2.2.2.2.2.2.2.2.2.2.2.2.2.2.2.2.2.2.2.2.2.2.1
theorem e_X2_examine_52 : decode cX2_examine 52 = .ok (.aload_n 0, 1) := D_X2_examine_0.2.2.2.2.2.2.2.2.2.2.2.2.2.2.2.2.2.2.2.2.2.2.2.2.2.2.2.2.1
theorem e_X2_examine_53 : decode cX2_examine 53 = .ok (.getfield 45, 3) := D_X2_examine_0.2.2.2.2.2.2.2.2.2.2.2.2.2.2.2.2.2.2.2.2.2.2.2.2.2.2.2.2.2.1
theorem e_X2_examine_56 : decode cX2_examine 56 = .ok (.ifCond .ne 46, 3) := D_X2_examine_0.2.2.2.2.2.2.2.2.2.2.2.2.2.2.2.2.2.2.2.2.2.2.2.2.2.2.2.2.2.2.1
theorem e_X2_examine_59 : decode cX2_examine 59 = .ok (.aload_n 0, 1) := D_X2_examine_0.2.2.2.2.2.2.2.2.2.2.2.2.2.2.2.2.2.2.2.2.2.2.2.2.2.2.2.2.2.2.2.1
theorem e_X2_examine_60 : decode cX2_examine 60 = .ok (.aload_n 0, 1) := D_X2_examine_0.2.2.2.2.2.2.2.2.2.2.2.2.2.2.2.2.2.2.2.2.2.2.2.2.2.2.2.2.2.2.2.2.1
theorem e_X2_examine_61 : decode cX2_examine 61 = .ok (.getfield 39, 3) := D_X2_examine_0.2.2.2.2.2.2.2.2.2.2.2.2.2.2.2.2.2.2.2.2.2.2.2.2.2.2.2.2.2.2.2.2.2.1
theorem e_X2_examine_64 : decode cX2_examine 64 = .ok (.putfield 48, 3) := D_X2_examine_0.2.2.2.2.2.2.2.2.2.2.2.2.2.2.2.2.2.2.2.2.2.2.2.2.2.2.2.2.2.2.2.2.2.2.1
theorem e_X2_examine_67 : decode cX2_examine 67 = .ok (.aload_n 0, 1) := D_X2_examine_0.2.2.2.2.2.2.2.2.2.2.2.2.2.2.2.2.2.2.2.2.2.2.2.2.2.2.2.2.2.2.2.2.2.2.2.1
theorem e_X2_examine_68 : decode cX2_examine 68 = .ok (.aload_n 0, 1) := D_X2_examine_0.2.2.2.2.2.2.2.2.2.2.2.2.2.2.2.2.2.2.2.2.2.2.2.2.2.2.2.2.2.2.2.2.2.2.2.2.1
theorem e_X2_examine_69 : decode cX2_examine 69 = .ok (.aload_n 1, 1) := D_X2_examine_0.2.2.2.2.2.2.2.2.2.2.2.2.2.2.2.2.2.2.2.2.2.2.2.2.2.2.2.2.2.2.2.2.2.2.2.2.2.1
theorem e_X2_examine_70 : decode cX2_examine 70 = .ok (.iload_n 3, 1) := D_X2_examine_0.2.2.2.2.2.2.2.2.2.2.2.2.2.2.2.2.2.2.2.2.2.2.2.2.2.2.2.2.2.2.2.2.2.2.2.2.2.2.1
theorem e_X2_examine_71 : decode cX2_examine 71 = .ok (.iload 4, 2) := D_X2_examine_0.2.2.2.2.2.2.2.2.2.2.2.2.2.2.2.2.2.2.2.2.2.2.2.2.2.2.2.2.2.2.2.2.2.2.2.2.2.2.2.1
set_option maxRecDepth 100000 in
theorem D_X2_examine_1 : decode cX2_examine 73 = .ok (.invokevirtual 51, 3) ∧ decode cX2_examine 76 = .ok (.putfield 45, 3) ∧ decode cX2_examine 79 = .ok (.aload_n 0, 1) ∧ decode cX2_examine 80 = .ok (.getfield 45, 3) ∧ decode cX2_examine 83 = .ok (.ifCond .ne 13, 3) ∧ decode cX2_examine 86 = .ok (.aload_n 0, 1) ∧ decode cX2_examine 87 = .ok (.dup, 1) ∧ decode cX2_examine 88 = .ok (.getfield 42, 3) ∧ decode cX2_examine 91 = .ok (.iconst 1, 1) ∧ decode cX2_examine 92 = .ok (.iadd, 1) ∧ decode cX2_examine 93 = .ok (.putfield 42, 3) ∧ decode cX2_examine 96 = .ok (.iinc 5 1, 3) ∧ decode cX2_examine 99 = .ok (.goto (-65), 3) ∧ decode cX2_examine 102 = .ok (.return_, 1) ∧ True := dq_of (l := (73, .invokevirtual 51, 3) :: (76, .putfield 45, 3) :: (79, .aload_n 0, 1) :: (80, .getfield 45, 3) :: (83, .ifCond .ne 13, 3) :: (86, .aload_n 0, 1) :: (87, .dup, 1) :: (88, .getfield 42, 3) :: (91, .iconst 1, 1) :: (92, .iadd, 1) :: (93, .putfield 42, 3) :: (96, .iinc 5 1, 3) :: (99, .goto (-65), 3) :: (102, .return_, 1) :: []) (by decide +kernel)
theorem e_X2_examine_73 : decode cX2_examine 73 = .ok (.invokevirtual 51, 3) := D_X2_examine_1.1
theorem e_X2_examine_76 : decode cX2_examine 76 = .ok (.putfield 45, 3) := D_X2_examine_1.2.1
theorem e_X2_examine_79 : decode cX2_examine 79 = .ok (.aload_n 0, 1) := D_X2_examine_1.2.2.1
theorem e_X2_examine_80 : decode cX2_examine 80 = .ok (.getfield 45, 3) := D_X2_examine_1.2.2.2.1
theorem e_X2_examine_83 : decode cX2_examine 83 = .ok (.ifCond .ne 13, 3) := D_X2_examine_1.2.2.2.2.1
theorem e_X2_examine_86 : decode cX2_examine 86 = .ok (.aload_n 0, 1) := D_X2_examine_1.2.2.2.2.2.1
theorem e_X2_examine_87 : decode cX2_examine 87 = .ok (.dup, 1) := D_X2_examine_1.2.2.2.2.2.2.1
theorem e_X2_examine_88 : decode cX2_examine 88 = .ok (.getfield 42, 3) := D_X2_examine_1.2.2.2.2.2.2.2.1
theorem e_X2_examine_91 : decode cX2_examine 91 = .ok (.iconst 1, 1) := D_X2_examine_1.2.2.2.2.2.2.2.2.1
theorem e_X2_examine_92 : decode cX2_examine 92 = .ok (.iadd, 1) := D_X2_examine_1.2.2.2.2.2.2.2.2.2.1
theorem e_X2_examine_93 : decode cX2_examine 93 = .ok (.putfield 42, 3) := D_X2_examine_1.2.2.2.2.2.2.2.2.2.2.1
theorem e_X2_examine_96 : decode cX2_examine 96 = .ok (.iinc 5 1, 3) := D_X2_examine_1.2.2.2.2.2.2.2.2.2.2.2.1
theorem e_X2_examine_99 : decode cX2_examine 99 = .ok (.goto (-65), 3) := D_X2_examine_1.2.2.2.2.2.2.2.2.2.2.2.2.1
theorem e_X2_examine_102 : decode cX2_examine 102 = .ok (.return_, 1) := D_X2_examine_1.2.2.2.2.2.2.2.2.2.2.2.2.2.1
set_option maxRecDepth 100000 in
theorem D_X2_reasonOfNext_0 : decode cX2_reasonOfNext 0 = .ok (.aload_n 0, 1) ∧ decode cX2_reasonOfNext 1 = .ok (.aload_n 1, 1) ∧ decode cX2_reasonOfNext 2 = .ok (.invokevirtual 55, 3) ∧ decode cX2_reasonOfNext 5 = .ok (.ifCond .ne 5, 3) ∧ decode cX2_reasonOfNext 8 = .ok (.iconst 1, 1) ∧ decode cX2_reasonOfNext 9 = .ok (.ireturn, 1) ∧ decode cX2_reasonOfNext 10 = .ok (.aload_n 1, 1) ∧ decode cX2_reasonOfNext 11 = .ok (.invokevirtual 59, 3) ∧ decode cX2_reasonOfNext 14 = .ok (.ifCond .ne 5, 3) ∧ decode cX2_reasonOfNext 17 = .ok (.iconst 2, 1) ∧ decode cX2_reasonOfNext 18 = .ok (.ireturn, 1) ∧ decode cX2_reasonOfNext 19 = .ok (.aload_n 1, 1) ∧ decode cX2_reasonOfNext 20 = .ok (.iload_n 2, 1) ∧ decode cX2_reasonOfNext 21 = .ok (.invokevirtual 65, 3) ∧ decode cX2_reasonOfNext 24 = .ok (.ifCond .eq 5, 3) ∧ decode cX2_reasonOfNext 27 = .ok (.iconst 3, 1) ∧ decode cX2_reasonOfNext 28 = .ok (.ireturn, 1) ∧ decode cX2_reasonOfNext 29 = .ok (.aload_n 0, 1) ∧ decode cX2_reasonOfNext 30 = .ok (.getfield 42, 3) ∧ decode cX2_reasonOfNext 33 = .ok (.iload_n 3, 1) ∧ decode cX2_reasonOfNext 34 = .ok (.if_icmp .lt 7, 3) ∧ decode cX2_reasonOfNext 37 = .ok (.iconst 4, 1) ∧ decode cX2_reasonOfNext 38 = .ok (.goto 4, 3) ∧ decode cX2_reasonOfNext 41 = .ok (.iconst 0, 1) ∧ decode cX2_reasonOfNext 42 = .ok (.ireturn, 1) ∧ True := dq_of (l := (0, .aload_n 0, 1) :: (1, .aload_n 1, 1) :: (2, .invokevirtual 55, 3) :: (5, .ifCond .ne 5, 3) :: (8, .iconst 1, 1) :: (9, .ireturn, 1) :: (10, .aload_n 1, 1) :: (11, .invokevirtual 59, 3) :: (14, .ifCond .ne 5, 3) :: (17, .iconst 2, 1) :: (18, .ireturn, 1) :: (19, .aload_n 1, 1) :: (20, .iload_n 2, 1) :: (21, .invokevirtual 65, 3) :: (24, .ifCond .eq 5, 3) :: (27, .iconst 3, 1) :: (28, .ireturn, 1) :: (29, .aload_n 0, 1) :: (30, .getfield 42, 3) :: (33, .iload_n 3, 1) :: (34, .if_icmp .lt 7, 3) :: (37, .iconst 4, 1) :: (38, .goto 4, 3) :: (41, .iconst 0, 1) :: (42, .ireturn, 1) :: []) (by decide +kernel)
theorem e_X2_reasonOfNext_0 : decode cX2_reasonOfNext 0 = .ok (.aload_n 0, 1) := D_X2_reasonOfNext_0.1
theorem e_X2_reasonOfNext_1 : decode cX2_reasonOfNext 1 = .ok (.aload_n 1, 1) := D_X2_reasonOfNext_0.2.1
theorem e_X2_reasonOfNext_2 : decode cX2_reasonOfNext 2 = .ok (.invokevirtual 55, 3) := D_X2_reasonOfNext_0.2.2.1
theorem e_X2_reasonOfNext_5 : decode cX2_reasonOfNext 5 = .ok (.ifCond .ne 5, 3) := D_X2_reasonOfNext_0.2.2.2.1
theorem e_X2_reasonOfNext_8 : decode cX2_reasonOfNext 8 = .ok (.iconst 1, 1) := D_X2_reasonOfNext_0.2.2.2.2.1
theorem e_X2_reasonOfNext_9 : decode cX2_reasonOfNext 9 = .ok (.ireturn, 1) := D_X2_reasonOfNext_0.2.2.2.2.2.1
theorem e_X2_reasonOfNext_10 : decode cX2_reasonOfNext 10 = .ok (.aload_n 1, 1) := D_X2_reasonOfNext_0.2.2.2.2.2.2.1
theorem e_X2_reasonOfNext_11 : decode cX2_reasonOfNext 11 = .ok (.invokevirtual 59, 3) := D_X2_reasonOfNext_0.2.2.2.2.2.2.2.1
theorem e_X2_reasonOfNext_14 : decode cX2_reasonOfNext 14 = .ok (.ifCond .ne 5, 3) := D_X2_reasonOfNext_0.2.2.2.2.2.2.2.2.1
theorem e_X2_reasonOfNext_17 : decode cX2_reasonOfNext 17 = .ok (.iconst 2, 1) := D_X2_reasonOfNext_0.2.2.2.2.2.2.2.2.2.1
theorem e_X2_reasonOfNext_18 : decode cX2_reasonOfNext 18 = .ok (.ireturn, 1) := D_X2_reasonOfNext_0.2.2.2.2.2.2.2.2.2.2.1
theorem e_X2_reasonOfNext_19 : decode cX2_reasonOfNext 19 = .ok (.aload_n 1, 1) := D_X2_reasonOfNext_0.2.2.2.2.2.2.2.2.2.2.2.1
theorem e_X2_reasonOfNext_20 : decode cX2_reasonOfNext 20 = .ok (.iload_n 2, 1) := D_X2_reasonOfNext_0.2.2.2.2.2.2.2.2.2.2.2.2.1
theorem e_X2_reasonOfNext_21 : decode cX2_reasonOfNext 21 = .ok (.invokevirtual 65, 3) := D_X2_reasonOfNext_0.2.2.2.2.2.2.2.2.2.2.2.2.2.1
theorem e_X2_reasonOfNext_24 : decode cX2_reasonOfNext 24 = .ok (.ifCond .eq 5, 3) := D_X2_reasonOfNext_0.2.2.2.2.2.2.2.2.2.2.2.2.2.2.1
theorem e_X2_reasonOfNext_27 : decode cX2_reasonOfNext 27 = .ok (.iconst 3, 1) := D_X2_reasonOfNext_0.2.2.2.2.2.2.2.2.2.2.2.2.2.2.2.1
theorem e_X2_reasonOfNext_28 : decode cX2_reasonOfNext 28 = .ok (.ireturn, 1) := D_X2_reasonOfNext_0.2.2.2.2.2.2.2.2.2.2.2.2.2.2.2.2.1
theorem e_X2_reasonOfNext_29 : decode cX2_reasonOfNext 29 = .ok (.aload_n 0, 1) := D_X2_reasonOfNext_0.2.2.2.2.2.2.2.2.2.2.2.2.2.2.2.2.2.1
theorem e_X2_reasonOfNext_30 : decode cX2_reasonOfNext 30 = .ok (.getfield 42, 3) := D_X2_reasonOfNext_0.2.2.2.2.2.2.2.2.2.2.2.2.2.2.2.2.2.2.1
theorem e_X2_reasonOfNext_33 : decode cX2_reasonOfNext 33 = .ok (.iload_n 3, 1) := D_X2_reasonOfNext_0.2.2.2.2.2.2.2.2.2.2.2.2.2.2.2.2.2.2.2.1
theorem e_X2_reasonOfNext_34 : decode cX2_reasonOfNext 34 = .ok (.if_icmp .lt 7, 3) := D_X2_reasonOfNext_0.2.2.2.2.2.2.2.2.2.2.2.2.2.2.2.2.2.2.2.2.1
theorem e_X2_reasonOfNext_37 : decode cX2_reasonOfNext 37 = .ok (.iconst 4, 1) := D_X2_reasonOfNext_0.2.2.2.2.2.2.2.2.2.2.2.2.2.2.2.2.2.2.2.2.2.1
theorem e_X2_reasonOfNext_38 : decode cX2_reasonOfNext 38 = .ok (.goto 4, 3) := D_X2_reasonOfNext_0.2.2.2.2.2.2.2.2.2.2.2.2.2.2.2.2.2.2.2.2.2.2.1
theorem e_X2_reasonOfNext_41 : decode cX2_reasonOfNext 41 = .ok (.iconst 0, 1) := D_X2_reasonOfNext_0.2.2.2.2.2.2.2.2.2.2.2.2.2.2.2.2.2.2.2.2.2.2.2.1
theorem e_X2_reasonOfNext_42 : decode cX2_reasonOfNext 42 = .ok (.ireturn, 1) := D_X2_reasonOfNext_0.2.2.2.2.2.2.2.2.2.2.2.2.2.2.2.2.2.2.2.2.2.2.2.2.1
set_option maxRecDepth 100000 in
theorem D_X2_readJob_0 : decode cX2_readJob 0 = .ok (.aload_n 0, 1) ∧ decode cX2_readJob 1 = .ok (.ldc 69, 2) ∧ decode cX2_readJob 3 = .ok (.invokevirtual 71, 3) ∧ decode cX2_readJob 6 = .ok (.istore_n 2, 1) ∧ decode cX2_readJob 7 = .ok (.iload_n 2, 1) ∧ decode cX2_readJob 8 = .ok (.iconst (-1), 1) ∧ decode cX2_readJob 9 = .ok (.if_icmp .ne 7, 3) ∧ decode cX2_readJob 12 = .ok (.iconst (-1), 1) ∧ decode cX2_readJob 13 = .ok (.goto 9, 3) ∧ decode cX2_readJob 16 = .ok (.aload_n 0, 1) ∧ decode cX2_readJob 17 = .ok (.ldc 75, 2) ∧ decode cX2_readJob 19 = .ok (.invokevirtual 71, 3) ∧ decode cX2_readJob 22 = .ok (.istore_n 3, 1) ∧ decode cX2_readJob 23 = .ok (.iload_n 3, 1) ∧ decode cX2_readJob 24 = .ok (.iconst (-1), 1) ∧ decode cX2_readJob 25 = .ok (.if_icmp .ne 5, 3) ∧ decode cX2_readJob 28 = .ok (.iconst 0, 1) ∧ decode cX2_readJob 29 = .ok (.ireturn, 1) ∧ decode cX2_readJob 30 = .ok (.aload_n 0, 1) ∧ decode cX2_readJob 31 = .ok (.invokevirtual 77, 3) ∧ decode cX2_readJob 34 = .ok (.istore 4, 2) ∧ decode cX2_readJob 36 = .ok (.aload_n 0, 1) ∧ decode cX2_readJob 37 = .ok (.invokevirtual 80, 3) ∧ decode cX2_readJob 40 = .ok (.istore 5, 2) ∧ decode cX2_readJob 42 = .ok (.iload 5, 2) ∧ decode cX2_readJob 44 = .ok (.iconst (-1), 1) ∧ decode cX2_readJob 45 = .ok (.if_icmp .ne 7, 3) ∧ decode cX2_readJob 48 = .ok (.iconst (-1), 1) ∧ decode cX2_readJob 49 = .ok (.goto 7, 3) ∧ decode cX2_readJob 52 = .ok (.aload_n 0, 1) ∧ decode cX2_readJob 53 = .ok (.invokevirtual 83, 3) ∧ decode cX2_readJob 56 = .ok (.istore 6, 2) ∧ decode cX2_readJob 58 = .ok (.iload 6, 2) ∧ decode cX2_readJob 60 = .ok (.iconst (-1), 1) ∧ decode cX2_readJob 61 = .ok (.if_icmp .ne 5, 3) ∧ decode cX2_readJob 64 = .ok (.iconst 0, 1) ∧ decode cX2_readJob 65 = .ok (.ireturn, 1) ∧ decode cX2_readJob 66 = .ok (.aload_n 1, 1) ∧ decode cX2_readJob 67 = .ok (.iload_n 2, 1) ∧ decode cX2_readJob 68 = .ok (.iload_n 3, 1) ∧ True := dq_of (l := (0, .aload_n 0, 1) :: (1, .ldc 69, 2) :: (3, .invokevirtual 71, 3) :: (6, .istore_n 2, 1) :: (7, .iload_n 2, 1) :: (8, .iconst (-1), 1) :: (9, .if_icmp .ne 7, 3) :: (12, .iconst (-1), 1) :: (13, .goto 9, 3) :: (16, .aload_n 0, 1) :: (17, .ldc 75, 2) :: (19, .invokevirtual 71, 3) :: (22, .istore_n 3, 1) :: (23, .iload_n 3, 1) :: (24, .iconst (-1), 1) :: (25, .if_icmp .ne 5, 3) :: (28, .iconst 0, 1) :: (29, .ireturn, 1) :: (30, .aload_n 0, 1) :: (31, .invokevirtual 77, 3) :: (34, .istore 4, 2) :: (36, .aload_n 0, 1) :: (37, .invokevirtual 80, 3) :: (40, .istore 5, 2) :: (42, .iload 5, 2) :: (44, .iconst (-1), 1) :: (45, .if_icmp .ne 7, 3) :: (48, .iconst (-1), 1) :: (49, .goto 7, 3) :: (52, .aload_n 0, 1) :: (53, .invokevirtual 83, 3) :: (56, .istore 6, 2) :: (58, .iload 6, 2) :: (60, .iconst (-1), 1) :: (61, .if_icmp .ne 5, 3) :: (64, .iconst 0, 1) :: (65, .ireturn, 1) :: (66, .aload_n 1, 1) :: (67, .iload_n 2, 1) :: (68, .iload_n 3, 1) :: []) (by decide +kernel)
theorem e_X2_readJob_0 : decode cX2_readJob 0 = .ok (.aload_n 0, 1) := D_X2_readJob_0.1
theorem e_X2_readJob_1 : decode cX2_readJob 1 = .ok (.ldc 69, 2) := D_X2_readJob_0.2.1
theorem e_X2_readJob_3 : decode cX2_readJob 3 = .ok (.invokevirtual 71, 3) := D_X2_readJob_0.2.2.1
theorem e_X2_readJob_6 : decode cX2_readJob 6 = .ok (.istore_n 2, 1) := D_X2_readJob_0.2.2.2.1
theorem e_X2_readJob_7 : decode cX2_readJob 7 = .ok (.iload_n 2, 1) := D_X2_readJob_0.2.2.2.2.1
theorem e_X2_readJob_8 : decode cX2_readJob 8 = .ok (.iconst (-1), 1) := D_X2_readJob_0.2.2.2.2.2.1
theorem e_X2_readJob_9 : decode cX2_readJob 9 = .ok (.if_icmp .ne 7, 3) := D_X2_readJob_0.2.2.2.2.2.2.1
theorem e_X2_readJob_12 : decode cX2_readJob 12 = .ok (.iconst (-1), 1) := D_X2_readJob_0.2.2.2.2.2.2.2.1
theorem e_X2_readJob_13 : decode cX2_readJob 13 = .ok (.goto 9, 3) := D_X2_readJob_0.2.2.2.2.2.2.2.2.1
theorem e_X2_readJob_16 : decode cX2_readJob 16 = .ok (.aload_n 0, 1) := D_X2_readJob_0.2.2.2.2.2.2.2.2.2.1
theorem e_X2_readJob_17 : decode cX2_readJob 17 = .ok (.ldc 75, 2) := D_X2_readJob_0.2.2.2.2.2.2.2.2.2.2.1
theorem e_X2_readJob_19 : decode cX2_readJob 19 = .ok (.invokevirtual 71, 3) := D_X2_readJob_0.2.2.2.2.2.2.2.2.2.2.2.1
theorem e_X2_readJob_22 : decode cX2_readJob 22 = .ok (.istore_n 3, 1) := D_X2_readJob_0.2.2.2.2.2.2.2.2.2.2.2.2.1
theorem e_X2_readJob_23 : decode cX2_readJob 23 = .ok (.iload_n 3, 1) := D_X2_readJob_0.2.2.2.2.2.2.2.2.2.2.2.2.2.1
theorem e_X2_readJob_24 : decode cX2_readJob 24 = .ok (.iconst (-1), 1) := D_X2_readJob_0.2.2.2.2.2.2.2.2.2.2.2.2.2.2.1
theorem e_X2_readJob_25 : decode cX2_readJob 25 = .ok (.if_icmp .ne 5, 3) := D_X2_readJob_0.2.2.2.2.2.2.2.2.2.2.2.2.2.2.2.1
theorem e_X2_readJob_28 : decode cX2_readJob 28 = .ok (.iconst 0, 1) := D_X2_readJob_0.2.2.2.2.2.2.2.2.2.2.2.2.2.2.2.2.1
theorem e_X2_readJob_29 : decode cX2_readJob 29 = .ok (.ireturn, 1) := D_X2_readJob_0.2.2.2.2.2.2.2.2.2.2.2.2.2.2.2.2.2.1
theorem e_X2_readJob_30 : decode cX2_readJob 30 = .ok (.aload_n 0, 1) := D_X2_readJob_0.2.2.2.2.2.2.2.2.2.2.2.2.2.2.2.2.2.2.1
theorem e_X2_readJob_31 : decode cX2_readJob 31 = .ok (.invokevirtual 77, 3) := D_X2_readJob_0.2.2.2.2.2.2.2.2.2.2.2.2.2.2.2.2.2.2.2.1
theorem e_X2_readJob_34 : decode cX2_readJob 34 = .ok (.istore 4, 2) := D_X2_readJob_0.2.2.2.2.2.2.2.2.2.2.2.2.2.2.2.2.2.2.2.2.1
theorem e_X2_readJob_36 : decode cX2_readJob 36 = .ok (.aload_n 0, 1) := D_X2_readJob_0.2.2.2.2.2.2.2.2.2.2.2.2.2.2.2.2.2.2.2.2.2.1
theorem e_X2_readJob_37 : decode cX2_readJob 37 = .ok (.invokevirtual 80, 3) := D_X2_readJob_0.2.2.2.2.2.2.2.2.2.2.2.2.2.2.2.2.2.2.2.2.2.2.1
theorem e_X2_readJob_40 : decode cX2_readJob 40 = .ok (.istore 5, 2) := D_X2_readJob_0.2.2.2.2.2.2.2.2.2.2.2.2.2.2.2.2.2.2.2.2.2.2.2.1
theorem e_X2_readJob_42 : decode cX2_readJob 42 = .ok (.iload 5, 2) := D_X2_readJob_0.2.2.2.2.2.2.2.2.2.2.2.2.2.2.2.2.2.2.2.2.2.2.2.2.1
theorem e_X2_readJob_44 : decode cX2_readJob 44 = .ok (.iconst (-1), 1) := D_X2_readJob_0.2.2.2.2.2.2.2.2.2.2.2.2.2.2.2.2.2.2.2.2.2.2.2.2.2.1
theorem e_X2_readJob_45 : decode cX2_readJob 45 = .ok (.if_icmp .ne 7, 3) := D_X2_readJob_0.2.2.2.2.2.2.2.2.2.2.2.2.2.2.2.2.2.2.2.2.2.2.2.2.2.2.1
theorem e_X2_readJob_48 : decode cX2_readJob 48 = .ok (.iconst (-1), 1) := D_X2_readJob_0.2.2.2.2.2.2.2.2.2.2.2.2.2.2.2.2.2.2.2.2.2.2.2.2.2.2.2.1
theorem e_X2_readJob_49 : decode cX2_readJob 49 = .ok (.goto 7, 3) := D_X2_readJob_0.2.2.2.2.2.2.2.2.2.2.2.2.2.2.2.2.2.2.2.2.2.2.2.2.2.2.2.2.1
theorem e_X2_readJob_52 : decode cX2_readJob 52 = .ok (.aload_n 0, 1) := D_X2_readJob_0.2.2.2.2.2.2.2.2.2.2.2.2.2.2.2.2.2.2.2.2.2.2.2.2.2.2.2.2.2.1
theorem e_X2_readJob_53 : decode cX2_readJob 53 = .ok (.invokevirtual 83, 3) := D_X2_readJob_0.2.2.2.2.2.2.2.2.2.2.2.2.2.2.2.2.2.2.2.2.2.2.2.2.2.2.2.2.2.2.1
theorem e_X2_readJob_56 : decode cX2_readJob 56 = .ok (.istore 6, 2) := D_X2_readJob_0.2.2.2.2.2.2.2.2.2.2.2.2.2.2.2.2.2.2.2.2.2.2.2.2.2.2.2.2.2.2.2.1
theorem e_X2_readJob_58 : decode cX2_readJob 58 = .ok (.iload 6, 2) := D_X2_readJob_0.2.2.2.2.2.2.2.2.2.2.2.2.2.2.2.2.2.2.2.2.2.2.2.2.2.2.2.2.2.2.2.2.1
theorem e_X2_readJob_60 : decode cX2_readJob 60 = .ok (.iconst (-1), 1) := D_X2_readJob_0.2.2.2.2.2.2.2.2.2.2.2.2.2.2.2.2.2.2.2.2.2.2.2.2.2.2.2.2.2.2.2.2.2.1
theorem e_X2_readJob_61 : decode cX2_readJob 61 = .ok (.if_icmp .ne 5, 3) := D_X2_readJob_0.2.2.2.2.2.2.2.2.2.2.2.2.2.2.2.2.2.2.2.2.2.2.2.2.2.2.2.2.2.2.2.2.2.2.1
theorem e_X2_readJob_64 : decode cX2_readJob 64 = .ok (.iconst 0, 1) := D_X2_readJob_0.2.2.2.2.2.2.2.2.2.2.2.2.2.2.2.2.2.2.2.2.2.2.2.2.2.2.2.2.2.2.2.2.2.2.2.1
theorem e_X2_readJob_65 : decode cX2_readJob 65 = .ok (.ireturn, 1) := D_X2_readJob_0.2.2.2.2.2.2.2.2.2.2.2.2.2.2.2.2.2.2.2.2.2.2.2.2.2.2.2.2.2.2.2.2.2.2.2.2.1
theorem e_X2_readJob_66 : decode cX2_readJob 66 = .ok (.aload_n 1, 1) := D_X2_readJob_0.2.2.2.2.2.2.2.2.2.2.2.2.2.2.2.2.2.2.2.2.2.2.2.2.2.2.2.2.2.2.2.2.2.2.2.2.2.1
theorem e_X2_readJob_67 : decode cX2_readJob 67 = .ok (.iload_n 2, 1) := D_X2_readJob_0.2.2.2.2.2.2.2.2.2.2.2.2.2.2.2.2.2.2.2.2.2.2.2.2.2.2.2.2.2.2.2.2.2.2.2.2.2.2.1
theorem e_X2_readJob_68 : decode cX2_readJob 68 = .ok (.iload_n 3, 1) := D_X2_readJob_0.2.2.2.2.2.2.2.2.2.2.2.2.2.2.2.2.2.2.2.2.2.2.2.2.2.2.2.2.2.2.2.2.2.2.2.2.2.2.2.1
set_option maxRecDepth 100000 in
theorem D_X2_readJob_1 : decode cX2_readJob 69 = .ok (.iload 5, 2) ∧ decode cX2_readJob 71 = .ok (.iload 6, 2) ∧ decode cX2_readJob 73 = .ok (.iload 4, 2) ∧ decode cX2_readJob 75 = .ok (.invokevirtual 86, 3) ∧ decode cX2_readJob 78 = .ok (.iconst 1, 1) ∧ decode cX2_readJob 79 = .ok (.ireturn, 1) ∧ True := dq_of (l := (69, .iload 5, 2) :: (71, .iload 6, 2) :: (73, .iload 4, 2) :: (75, .invokevirtual 86, 3) :: (78, .iconst 1, 1) :: (79, .ireturn, 1) :: []) (by decide +kernel)
theorem e_X2_readJob_69 : decode cX2_readJob 69 = .ok (.iload 5, 2) := D_X2_readJob_1.1
theorem e_X2_readJob_71 : decode cX2_readJob 71 = .ok (.iload 6, 2) := D_X2_readJob_1.2.1
theorem e_X2_readJob_73 : decode cX2_readJob 73 = .ok (.iload 4, 2) := D_X2_readJob_1.2.2.1
theorem e_X2_readJob_75 : decode cX2_readJob 75 = .ok (.invokevirtual 86, 3) := D_X2_readJob_1.2.2.2.1
theorem e_X2_readJob_78 : decode cX2_readJob 78 = .ok (.iconst 1, 1) := D_X2_readJob_1.2.2.2.2.1
theorem e_X2_readJob_79 : decode cX2_readJob 79 = .ok (.ireturn, 1) := D_X2_readJob_1.2.2.2.2.2.1
set_option maxRecDepth 100000 in
theorem D_X2_readNumber_0 : decode cX2_readNumber 0 = .ok (.iconst 0, 1) ∧ decode cX2_readNumber 1 = .ok (.istore_n 2, 1) ∧ decode cX2_readNumber 2 = .ok (.iconst 0, 1) ∧ decode cX2_readNumber 3 = .ok (.istore_n 3, 1) ∧ decode cX2_readNumber 4 = .ok (.iload_n 3, 1) ∧ decode cX2_readNumber 5 = .ok (.iconst 3, 1) ∧ decode cX2_readNumber 6 = .ok (.if_icmp .ge 37, 3) ∧ decode cX2_readNumber 9 = .ok (.aload_n 0, 1) ∧ decode cX2_readNumber 10 = .ok (.invokevirtual 90, 3) ∧ decode cX2_readNumber 13 = .ok (.iconst (-1), 1) ∧ decode cX2_readNumber 14 = .ok (.if_icmp .eq 29, 3) ∧ decode cX2_readNumber 17 = .ok (.iload_n 2, 1) ∧ decode cX2_readNumber 18 = .ok (.bipush 10, 2) ∧ decode cX2_readNumber 20 = .ok (.imul, 1) ∧ decode cX2_readNumber 21 = .ok (.aload_n 0, 1) ∧ decode cX2_readNumber 22 = .ok (.invokevirtual 90, 3) ∧ decode cX2_readNumber 25 = .ok (.iadd, 1) ∧ decode cX2_readNumber 26 = .ok (.istore_n 2, 1) ∧ decode cX2_readNumber 27 = .ok (.iinc 3 1, 3) ∧ decode cX2_readNumber 30 = .ok (.aload_n 0, 1) ∧ decode cX2_readNumber 31 = .ok (.dup, 1) ∧ decode cX2_readNumber 32 = .ok (.getfield 39, 3) ∧ decode cX2_readNumber 35 = .ok (.iconst 1, 1) ∧ decode cX2_readNumber 36 = .ok (.iadd, 1) ∧ decode cX2_readNumber 37 = .ok (.putfield 39, 3) ∧ decode cX2_readNumber 40 = .ok (.goto (-36), 3) ∧ decode cX2_readNumber 43 = .ok (.iload_n 3, 1) ∧ decode cX2_readNumber 44 = .ok (.ifCond .le 15, 3) ∧ decode cX2_readNumber 47 = .ok (.aload_n 0, 1) ∧ decode cX2_readNumber 48 = .ok (.aload_n 1, 1) ∧ decode cX2_readNumber 49 = .ok (.invokevirtual 93, 3) ∧ decode cX2_readNumber 52 = .ok (.ifCond .eq 7, 3) ∧ decode cX2_readNumber 55 = .ok (.iload_n 2, 1) ∧ decode cX2_readNumber 56 = .ok (.goto 4, 3) ∧ decode cX2_readNumber 59 = .ok (.iconst (-1), 1) ∧ decode cX2_readNumber 60 = .ok (.ireturn, 1) ∧ True := dq_of (l := (0, .iconst 0, 1) :: (1, .istore_n 2, 1) :: (2, .iconst 0, 1) :: (3, .istore_n 3, 1) :: (4, .iload_n 3, 1) :: (5, .iconst 3, 1) :: (6, .if_icmp .ge 37, 3) :: (9, .aload_n 0, 1) :: (10, .invokevirtual 90, 3) :: (13, .iconst (-1), 1) :: (14, .if_icmp .eq 29, 3) :: (17, .iload_n 2, 1) :: (18, .bipush 10, 2) :: (20, .imul, 1) :: (21, .aload_n 0, 1) :: (22, .invokevirtual 90, 3) :: (25, .iadd, 1) :: (26, .istore_n 2, 1) :: (27, .iinc 3 1, 3) :: (30, .aload_n 0, 1) :: (31, .dup, 1) :: (32, .getfield 39, 3) :: (35, .iconst 1, 1) :: (36, .iadd, 1) :: (37, .putfield 39, 3) :: (40, .goto (-36), 3) :: (43, .iload_n 3, 1) :: (44, .ifCond .le 15, 3) :: (47, .aload_n 0, 1) :: (48, .aload_n 1, 1) :: (49, .invokevirtual 93, 3) :: (52, .ifCond .eq 7, 3) :: (55, .iload_n 2, 1) :: (56, .goto 4, 3) :: (59, .iconst (-1), 1) :: (60, .ireturn, 1) :: []) (by decide +kernel)
theorem e_X2_readNumber_0 : decode cX2_readNumber 0 = .ok (.iconst 0, 1) := D_X2_readNumber_0.1
theorem e_X2_readNumber_1 : decode cX2_readNumber 1 = .ok (.istore_n 2, 1) := D_X2_readNumber_0.2.1
theorem e_X2_readNumber_2 : decode cX2_readNumber 2 = .ok (.iconst 0, 1) := D_X2_readNumber_0.2.2.1
theorem e_X2_readNumber_3 : decode cX2_readNumber 3 = .ok (.istore_n 3, 1) := D_X2_readNumber_0.2.2.2.1
theorem e_X2_readNumber_4 : decode cX2_readNumber 4 = .ok (.iload_n 3, 1) := D_X2_readNumber_0.2.2.2.2.1
theorem e_X2_readNumber_5 : decode cX2_readNumber 5 = .ok (.iconst 3, 1) := D_X2_readNumber_0.2.2.2.2.2.1
theorem e_X2_readNumber_6 : decode cX2_readNumber 6 = .ok (.if_icmp .ge 37, 3) := D_X2_readNumber_0.2.2.2.2.2.2.1
theorem e_X2_readNumber_9 : decode cX2_readNumber 9 = .ok (.aload_n 0, 1) := D_X2_readNumber_0.2.2.2.2.2.2.2.1
theorem e_X2_readNumber_10 : decode cX2_readNumber 10 = .ok (.invokevirtual 90, 3) := D_X2_readNumber_0.2.2.2.2.2.2.2.2.1
theorem e_X2_readNumber_13 : decode cX2_readNumber 13 = .ok (.iconst (-1), 1) := D_X2_readNumber_0.2.2.2.2.2.2.2.2.2.1
theorem e_X2_readNumber_14 : decode cX2_readNumber 14 = .ok (.if_icmp .eq 29, 3) := D_X2_readNumber_0.2.2.2.2.2.2.2.2.2.2.1
theorem e_X2_readNumber_17 : decode cX2_readNumber 17 = .ok (.iload_n 2, 1) := D_X2_readNumber_0.2.2.2.2.2.2.2.2.2.2.2.1
theorem e_X2_readNumber_18 : decode cX2_readNumber 18 = .ok (.bipush 10, 2) := D_X2_readNumber_0.2.2.2.2.2.2.2.2.2.2.2.2.1
theorem e_X2_readNumber_20 : decode cX2_readNumber 20 = .ok (.imul, 1) := D_X2_readNumber_0.2.2.2.2.2.2.2.2.2.2.2.2.2.1
theorem e_X2_readNumber_21 : decode cX2_readNumber 21 = .ok (.aload_n 0, 1) := D_X2_readNumber_0.2.2.2.2.2.2.2.2.2.2.2.2.2.2.1
theorem e_X2_readNumber_22 : decode cX2_readNumber 22 = .ok (.invokevirtual 90, 3) := D_X2_readNumber_0.2.2.2.2.2.2.2.2.2.2.2.2.2.2.2.1
theorem e_X2_readNumber_25 : decode cX2_readNumber 25 = .ok (.iadd, 1) := D_X2_readNumber_0.2.2.2.2.2.2.2.2.2.2.2.2.2.2.2.2.1
theorem e_X2_readNumber_26 : decode cX2_readNumber 26 = .ok (.istore_n 2, 1) := D_X2_readNumber_0.2.2.2.2.2.2.2.2.2.2.2.2.2.2.2.2.2.1
theorem e_X2_readNumber_27 : decode cX2_readNumber 27 = .ok (.iinc 3 1, 3) := D_X2_readNumber_0.2.2.2.2.2.2.2.2.2.2.2.2.2.2.2.2.2.2.1
theorem e_X2_readNumber_30 : decode cX2_readNumber 30 = .ok (.aload_n 0, 1) := D_X2_readNumber_0.2.2.2.2.2.2.2.2.2.2.2.2.2.2.2.2.2.2.2.1
theorem e_X2_readNumber_31 : decode cX2_readNumber 31 = .ok (.dup, 1) := D_X2_readNumber_0.2.2.2.2.2.2.2.2.2.2.2.2.2.2.2.2.2.2.2.2.1
theorem e_X2_readNumber_32 : decode cX2_readNumber 32 = .ok (.getfield 39, 3) := D_X2_readNumber_0.2.2.2.2.2.2.2.2.2.2.2.2.2.2.2.2.2.2.2.2.2.1
theorem e_X2_readNumber_35 : decode cX2_readNumber 35 = .ok (.iconst 1, 1) := D_X2_readNumber_0.2.2.2.2.2.2.2.2.2.2.2.2.2.2.2.2.2.2.2.2.2.2.1
theorem e_X2_readNumber_36 : decode cX2_readNumber 36 = .ok (.iadd, 1) := D_X2_readNumber_0.2.2.2.2.2.2.2.2.2.2.2.2.2.2.2.2.2.2.2.2.2.2.2.1
theorem e_X2_readNumber_37 : decode cX2_readNumber 37 = .ok (.putfield 39, 3) := D_X2_readNumber_0.2.2.2.2.2.2.2.2.2.2.2.2.2.2.2.2.2.2.2.2.2.2.2.2.1
theorem e_X2_readNumber_40 : decode cX2_readNumber 40 = .ok (.goto (-36), 3) := D_X2_readNumber_0.2.2.2.2.2.2.2.2.2.2.2.2.2.2.2.2.2.2.2.2.2.2.2.2.2.1
theorem e_X2_readNumber_43 : decode cX2_readNumber 43 = .ok (.iload_n 3, 1) := D_X2_readNumber_0.2.2.2.2.2.2.2.2.2.2.2.2.2.2.2.2.2.2.2.2.2.2.2.2.2.2.1
theorem e_X2_readNumber_44 : decode cX2_readNumber 44 = .ok (.ifCond .le 15, 3) := D_X2_readNumber_0.2.2.2.2.2.2.2.2.2.2.2.2.2.2.2.2.2.2.2.2.2.2.2.2.2.2.2.1
theorem e_X2_readNumber_47 : decode cX2_readNumber 47 = .ok (.aload_n 0, 1) := D_X2_readNumber_0.2.2.2.2.2.2.2.2.2.2.2.2.2.2.2.2.2.2.2.2.2.2.2.2.2.2.2.2.1
theorem e_X2_readNumber_48 : decode cX2_readNumber 48 = .ok (.aload_n 1, 1) := D_X2_readNumber_0.2.2.2.2.2.2.2.2.2.2.2.2.2.2.2.2.2.2.2.2.2.2.2.2.2.2.2.2.2.1
theorem e_X2_readNumber_49 : decode cX2_readNumber 49 = .ok (.invokevirtual 93, 3) := D_X2_readNumber_0.2.2.2.2.2.2.2.2.2.2.2.2.2.2.2.2.2.2.2.2.2.2.2.2.2.2.2.2.2.2.1
theorem e_X2_readNumber_52 : decode cX2_readNumber 52 = .ok (.ifCond .eq 7, 3) := D_X2_readNumber_0.2.2.2.2.2.2.2.2.2.2.2.2.2.2.2.2.2.2.2.2.2.2.2.2.2.2.2.2.2.2.2.1
theorem e_X2_readNumber_55 : decode cX2_readNumber 55 = .ok (.iload_n 2, 1) := D_X2_readNumber_0.2.2.2.2.2.2.2.2.2.2.2.2.2.2.2.2.2.2.2.2.2.2.2.2.2.2.2.2.2.2.2.2.1
theorem e_X2_readNumber_56 : decode cX2_readNumber 56 = .ok (.goto 4, 3) := D_X2_readNumber_0.2.2.2.2.2.2.2.2.2.2.2.2.2.2.2.2.2.2.2.2.2.2.2.2.2.2.2.2.2.2.2.2.2.1
theorem e_X2_readNumber_59 : decode cX2_readNumber 59 = .ok (.iconst (-1), 1) := D_X2_readNumber_0.2.2.2.2.2.2.2.2.2.2.2.2.2.2.2.2.2.2.2.2.2.2.2.2.2.2.2.2.2.2.2.2.2.2.1
theorem e_X2_readNumber_60 : decode cX2_readNumber 60 = .ok (.ireturn, 1) := D_X2_readNumber_0.2.2.2.2.2.2.2.2.2.2.2.2.2.2.2.2.2.2.2.2.2.2.2.2.2.2.2.2.2.2.2.2.2.2.2.1
set_option maxRecDepth 100000 in
theorem D_X2_digitAtPlace_0 : decode cX2_digitAtPlace 0 = .ok (.aload_n 0, 1) ∧ decode cX2_digitAtPlace 1 = .ok (.getfield 39, 3) ∧ decode cX2_digitAtPlace 4 = .ok (.ifCond .lt 23, 3) ∧ decode cX2_digitAtPlace 7 = .ok (.aload_n 0, 1) ∧ decode cX2_digitAtPlace 8 = .ok (.getfield 39, 3) ∧ decode cX2_digitAtPlace 11 = .ok (.aload_n 0, 1) ∧ decode cX2_digitAtPlace 12 = .ok (.getfield 15, 3) ∧ decode cX2_digitAtPlace 15 = .ok (.if_icmp .ge 12, 3) ∧ decode cX2_digitAtPlace 18 = .ok (.aload_n 0, 1) ∧ decode cX2_digitAtPlace 19 = .ok (.getfield 39, 3) ∧ decode cX2_digitAtPlace 22 = .ok (.bipush 100, 2) ∧ decode cX2_digitAtPlace 24 = .ok (.if_icmp .lt 5, 3) ∧ decode cX2_digitAtPlace 27 = .ok (.iconst (-1), 1) ∧ decode cX2_digitAtPlace 28 = .ok (.ireturn, 1) ∧ decode cX2_digitAtPlace 29 = .ok (.aload_n 0, 1) ∧ decode cX2_digitAtPlace 30 = .ok (.getfield 9, 3) ∧ decode cX2_digitAtPlace 33 = .ok (.aload_n 0, 1) ∧ decode cX2_digitAtPlace 34 = .ok (.getfield 39, 3) ∧ decode cX2_digitAtPlace 37 = .ok (.caload, 1) ∧ decode cX2_digitAtPlace 38 = .ok (.bipush 48, 2) ∧ decode cX2_digitAtPlace 40 = .ok (.isub, 1) ∧ decode cX2_digitAtPlace 41 = .ok (.istore_n 1, 1) ∧ decode cX2_digitAtPlace 42 = .ok (.iload_n 1, 1) ∧ decode cX2_digitAtPlace 43 = .ok (.ifCond .lt 13, 3) ∧ decode cX2_digitAtPlace 46 = .ok (.iload_n 1, 1) ∧ decode cX2_digitAtPlace 47 = .ok (.bipush 9, 2) ∧ decode cX2_digitAtPlace 49 = .ok (.if_icmp .gt 7, 3) ∧ decode cX2_digitAtPlace 52 = .ok (.iload_n 1, 1) ∧ decode cX2_digitAtPlace 53 = .ok (.goto 4, 3) ∧ decode cX2_digitAtPlace 56 = .ok (.iconst (-1), 1) ∧ decode cX2_digitAtPlace 57 = .ok (.ireturn, 1) ∧ True := dq_of (l := (0, .aload_n 0, 1) :: (1, .getfield 39, 3) :: (4, .ifCond .lt 23, 3) :: (7, .aload_n 0, 1) :: (8, .getfield 39, 3) :: (11, .aload_n 0, 1) :: (12, .getfield 15, 3) :: (15, .if_icmp .ge 12, 3) :: (18, .aload_n 0, 1) :: (19, .getfield 39, 3) :: (22, .bipush 100, 2) :: (24, .if_icmp .lt 5, 3) :: (27, .iconst (-1), 1) :: (28, .ireturn, 1) :: (29, .aload_n 0, 1) :: (30, .getfield 9, 3) :: (33, .aload_n 0, 1) :: (34, .getfield 39, 3) :: (37, .caload, 1) :: (38, .bipush 48, 2) :: (40, .isub, 1) :: (41, .istore_n 1, 1) :: (42, .iload_n 1, 1) :: (43, .ifCond .lt 13, 3) :: (46, .iload_n 1, 1) :: (47, .bipush 9, 2) :: (49, .if_icmp .gt 7, 3) :: (52, .iload_n 1, 1) :: (53, .goto 4, 3) :: (56, .iconst (-1), 1) :: (57, .ireturn, 1) :: []) (by decide +kernel)
theorem e_X2_digitAtPlace_0 : decode cX2_digitAtPlace 0 = .ok (.aload_n 0, 1) := D_X2_digitAtPlace_0.1
theorem e_X2_digitAtPlace_1 : decode cX2_digitAtPlace 1 = .ok (.getfield 39, 3) := D_X2_digitAtPlace_0.2.1
theorem e_X2_digitAtPlace_4 : decode cX2_digitAtPlace 4 = .ok (.ifCond .lt 23, 3) := D_X2_digitAtPlace_0.2.2.1
theorem e_X2_digitAtPlace_7 : decode cX2_digitAtPlace 7 = .ok (.aload_n 0, 1) := D_X2_digitAtPlace_0.2.2.2.1
theorem e_X2_digitAtPlace_8 : decode cX2_digitAtPlace 8 = .ok (.getfield 39, 3) := D_X2_digitAtPlace_0.2.2.2.2.1
theorem e_X2_digitAtPlace_11 : decode cX2_digitAtPlace 11 = .ok (.aload_n 0, 1) := D_X2_digitAtPlace_0.2.2.2.2.2.1
theorem e_X2_digitAtPlace_12 : decode cX2_digitAtPlace 12 = .ok (.getfield 15, 3) := D_X2_digitAtPlace_0.2.2.2.2.2.2.1
theorem e_X2_digitAtPlace_15 : decode cX2_digitAtPlace 15 = .ok (.if_icmp .ge 12, 3) := D_X2_digitAtPlace_0.2.2.2.2.2.2.2.1
theorem e_X2_digitAtPlace_18 : decode cX2_digitAtPlace 18 = .ok (.aload_n 0, 1) := D_X2_digitAtPlace_0.2.2.2.2.2.2.2.2.1
theorem e_X2_digitAtPlace_19 : decode cX2_digitAtPlace 19 = .ok (.getfield 39, 3) := D_X2_digitAtPlace_0.2.2.2.2.2.2.2.2.2.1
theorem e_X2_digitAtPlace_22 : decode cX2_digitAtPlace 22 = .ok (.bipush 100, 2) := D_X2_digitAtPlace_0.2.2.2.2.2.2.2.2.2.2.1
theorem e_X2_digitAtPlace_24 : decode cX2_digitAtPlace 24 = .ok (.if_icmp .lt 5, 3) := D_X2_digitAtPlace_0.2.2.2.2.2.2.2.2.2.2.2.1
theorem e_X2_digitAtPlace_27 : decode cX2_digitAtPlace 27 = .ok (.iconst (-1), 1) := D_X2_digitAtPlace_0.2.2.2.2.2.2.2.2.2.2.2.2.1
theorem e_X2_digitAtPlace_28 : decode cX2_digitAtPlace 28 = .ok (.ireturn, 1) := D_X2_digitAtPlace_0.2.2.2.2.2.2.2.2.2.2.2.2.2.1
theorem e_X2_digitAtPlace_29 : decode cX2_digitAtPlace 29 = .ok (.aload_n 0, 1) := D_X2_digitAtPlace_0.2.2.2.2.2.2.2.2.2.2.2.2.2.2.1
theorem e_X2_digitAtPlace_30 : decode cX2_digitAtPlace 30 = .ok (.getfield 9, 3) := D_X2_digitAtPlace_0.2.2.2.2.2.2.2.2.2.2.2.2.2.2.2.1
theorem e_X2_digitAtPlace_33 : decode cX2_digitAtPlace 33 = .ok (.aload_n 0, 1) := D_X2_digitAtPlace_0.2.2.2.2.2.2.2.2.2.2.2.2.2.2.2.2.1
theorem e_X2_digitAtPlace_34 : decode cX2_digitAtPlace 34 = .ok (.getfield 39, 3) := D_X2_digitAtPlace_0.2.2.2.2.2.2.2.2.2.2.2.2.2.2.2.2.2.1
theorem e_X2_digitAtPlace_37 : decode cX2_digitAtPlace 37 = .ok (.caload, 1) := D_X2_digitAtPlace_0.2.2.2.2.2.2.2.2.2.2.2.2.2.2.2.2.2.2.1
theorem e_X2_digitAtPlace_38 : decode cX2_digitAtPlace 38 = .ok (.bipush 48, 2) := D_X2_digitAtPlace_0.2.2.2.2.2.2.2.2.2.2.2.2.2.2.2.2.2.2.2.1
theorem e_X2_digitAtPlace_40 : decode cX2_digitAtPlace 40 = .ok (.isub, 1) := D_X2_digitAtPlace_0.2.2.2.2.2.2.2.2.2.2.2.2.2.2.2.2.2.2.2.2.1
theorem e_X2_digitAtPlace_41 : decode cX2_digitAtPlace 41 = .ok (.istore_n 1, 1) := D_X2_digitAtPlace_0.2.2.2.2.2.2.2.2.2.2.2.2.2.2.2.2.2.2.2.2.2.1
theorem e_X2_digitAtPlace_42 : decode cX2_digitAtPlace 42 = .ok (.iload_n 1, 1) := D_X2_digitAtPlace_0.2.2.2.2.2.2.2.2.2.2.2.2.2.2.2.2.2.2.2.2.2.2.1
theorem e_X2_digitAtPlace_43 : decode cX2_digitAtPlace 43 = .ok (.ifCond .lt 13, 3) := D_X2_digitAtPlace_0.2.2.2.2.2.2.2.2.2.2.2.2.2.2.2.2.2.2.2.2.2.2.2.1
theorem e_X2_digitAtPlace_46 : decode cX2_digitAtPlace 46 = .ok (.iload_n 1, 1) := D_X2_digitAtPlace_0.2.2.2.2.2.2.2.2.2.2.2.2.2.2.2.2.2.2.2.2.2.2.2.2.1
theorem e_X2_digitAtPlace_47 : decode cX2_digitAtPlace 47 = .ok (.bipush 9, 2) := D_X2_digitAtPlace_0.2.2.2.2.2.2.2.2.2.2.2.2.2.2.2.2.2.2.2.2.2.2.2.2.2.1
theorem e_X2_digitAtPlace_49 : decode cX2_digitAtPlace 49 = .ok (.if_icmp .gt 7, 3) := D_X2_digitAtPlace_0.2.2.2.2.2.2.2.2.2.2.2.2.2.2.2.2.2.2.2.2.2.2.2.2.2.2.1
theorem e_X2_digitAtPlace_52 : decode cX2_digitAtPlace 52 = .ok (.iload_n 1, 1) := D_X2_digitAtPlace_0.2.2.2.2.2.2.2.2.2.2.2.2.2.2.2.2.2.2.2.2.2.2.2.2.2.2.2.1
theorem e_X2_digitAtPlace_53 : decode cX2_digitAtPlace 53 = .ok (.goto 4, 3) := D_X2_digitAtPlace_0.2.2.2.2.2.2.2.2.2.2.2.2.2.2.2.2.2.2.2.2.2.2.2.2.2.2.2.2.1
theorem e_X2_digitAtPlace_56 : decode cX2_digitAtPlace 56 = .ok (.iconst (-1), 1) := D_X2_digitAtPlace_0.2.2.2.2.2.2.2.2.2.2.2.2.2.2.2.2.2.2.2.2.2.2.2.2.2.2.2.2.2.1
theorem e_X2_digitAtPlace_57 : decode cX2_digitAtPlace 57 = .ok (.ireturn, 1) := D_X2_digitAtPlace_0.2.2.2.2.2.2.2.2.2.2.2.2.2.2.2.2.2.2.2.2.2.2.2.2.2.2.2.2.2.2.1
set_option maxRecDepth 100000 in
theorem D_X2_readHow_0 : decode cX2_readHow 0 = .ok (.iconst 0, 1) ∧ decode cX2_readHow 1 = .ok (.istore_n 1, 1) ∧ decode cX2_readHow 2 = .ok (.aload_n 0, 1) ∧ decode cX2_readHow 3 = .ok (.ldc 97, 2) ∧ decode cX2_readHow 5 = .ok (.invokevirtual 93, 3) ∧ decode cX2_readHow 8 = .ok (.ifCond .eq 6, 3) ∧ decode cX2_readHow 11 = .ok (.iinc 1 1, 3) ∧ decode cX2_readHow 14 = .ok (.aload_n 0, 1) ∧ decode cX2_readHow 15 = .ok (.ldc 99, 2) ∧ decode cX2_readHow 17 = .ok (.invokevirtual 93, 3) ∧ decode cX2_readHow 20 = .ok (.ifCond .eq 6, 3) ∧ decode cX2_readHow 23 = .ok (.iinc 1 2, 3) ∧ decode cX2_readHow 26 = .ok (.aload_n 0, 1) ∧ decode cX2_readHow 27 = .ok (.ldc 101, 2) ∧ decode cX2_readHow 29 = .ok (.invokevirtual 93, 3) ∧ decode cX2_readHow 32 = .ok (.ifCond .eq 9, 3) ∧ decode cX2_readHow 35 = .ok (.iinc 1 4, 3) ∧ decode cX2_readHow 38 = .ok (.goto 15, 3) ∧ decode cX2_readHow 41 = .ok (.aload_n 0, 1) ∧ decode cX2_readHow 42 = .ok (.ldc 103, 2) ∧ decode cX2_readHow 44 = .ok (.invokevirtual 93, 3) ∧ decode cX2_readHow 47 = .ok (.ifCond .eq 6, 3) ∧ decode cX2_readHow 50 = .ok (.iinc 1 8, 3) ∧ decode cX2_readHow 53 = .ok (.iload_n 1, 1) ∧ decode cX2_readHow 54 = .ok (.ireturn, 1) ∧ True := dq_of (l := (0, .iconst 0, 1) :: (1, .istore_n 1, 1) :: (2, .aload_n 0, 1) :: (3, .ldc 97, 2) :: (5, .invokevirtual 93, 3) :: (8, .ifCond .eq 6, 3) :: (11, .iinc 1 1, 3) :: (14, .aload_n 0, 1) :: (15, .ldc 99, 2) :: (17, .invokevirtual 93, 3) :: (20, .ifCond .eq 6, 3) :: (23, .iinc 1 2, 3) :: (26, .aload_n 0, 1) :: (27, .ldc 101, 2) :: (29, .invokevirtual 93, 3) :: (32, .ifCond .eq 9, 3) :: (35, .iinc 1 4, 3) :: (38, .goto 15, 3) :: (41, .aload_n 0, 1) :: (42, .ldc 103, 2) :: (44, .invokevirtual 93, 3) :: (47, .ifCond .eq 6, 3) :: (50, .iinc 1 8, 3) :: (53, .iload_n 1, 1) :: (54, .ireturn, 1) :: []) (by decide +kernel)
theorem e_X2_readHow_0 : decode cX2_readHow 0 = .ok (.iconst 0, 1) := D_X2_readHow_0.1
theorem e_X2_readHow_1 : decode cX2_readHow 1 = .ok (.istore_n 1, 1) := D_X2_readHow_0.2.1
theorem e_X2_readHow_2 : decode cX2_readHow 2 = .ok (.aload_n 0, 1) := D_X2_readHow_0.2.2.1
theorem e_X2_readHow_3 : decode cX2_readHow 3 = .ok (.ldc 97, 2) := D_X2_readHow_0.2.2.2.1
theorem e_X2_readHow_5 : decode cX2_readHow 5 = .ok (.invokevirtual 93, 3) := D_X2_readHow_0.2.2.2.2.1
theorem e_X2_readHow_8 : decode cX2_readHow 8 = .ok (.ifCond .eq 6, 3) := D_X2_readHow_0.2.2.2.2.2.1
theorem e_X2_readHow_11 : decode cX2_readHow 11 = .ok (.iinc 1 1, 3) := D_X2_readHow_0.2.2.2.2.2.2.1
theorem e_X2_readHow_14 : decode cX2_readHow 14 = .ok (.aload_n 0, 1) := D_X2_readHow_0.2.2.2.2.2.2.2.1
theorem e_X2_readHow_15 : decode cX2_readHow 15 = .ok (.ldc 99, 2) := D_X2_readHow_0.2.2.2.2.2.2.2.2.1
theorem e_X2_readHow_17 : decode cX2_readHow 17 = .ok (.invokevirtual 93, 3) := D_X2_readHow_0.2.2.2.2.2.2.2.2.2.1
theorem e_X2_readHow_20 : decode cX2_readHow 20 = .ok (.ifCond .eq 6, 3) := D_X2_readHow_0.2.2.2.2.2.2.2.2.2.2.1
theorem e_X2_readHow_23 : decode cX2_readHow 23 = .ok (.iinc 1 2, 3) := D_X2_readHow_0.2.2.2.2.2.2.2.2.2.2.2.1
theorem e_X2_readHow_26 : decode cX2_readHow 26 = .ok (.aload_n 0, 1) := D_X2_readHow_0.2.2.2.2.2.2.2.2.2.2.2.2.1
theorem e_X2_readHow_27 : decode cX2_readHow 27 = .ok (.ldc 101, 2) := D_X2_readHow_0.2.2.2.2.2.2.2.2.2.2.2.2.2.1
theorem e_X2_readHow_29 : decode cX2_readHow 29 = .ok (.invokevirtual 93, 3) := D_X2_readHow_0.2.2.2.2.2.2.2.2.2.2.2.2.2.2.1
theorem e_X2_readHow_32 : decode cX2_readHow 32 = .ok (.ifCond .eq 9, 3) := D_X2_readHow_0.2.2.2.2.2.2.2.2.2.2.2.2.2.2.2.1
theorem e_X2_readHow_35 : decode cX2_readHow 35 = .ok (.iinc 1 4, 3) := D_X2_readHow_0.2.2.2.2.2.2.2.2.2.2.2.2.2.2.2.2.1
theorem e_X2_readHow_38 : decode cX2_readHow 38 = .ok (.goto 15, 3) := D_X2_readHow_0.2.2.2.2.2.2.2.2.2.2.2.2.2.2.2.2.2.1
theorem e_X2_readHow_41 : decode cX2_readHow 41 = .ok (.aload_n 0, 1) := D_X2_readHow_0.2.2.2.2.2.2.2.2.2.2.2.2.2.2.2.2.2.2.1
theorem e_X2_readHow_42 : decode cX2_readHow 42 = .ok (.ldc 103, 2) := D_X2_readHow_0.2.2.2.2.2.2.2.2.2.2.2.2.2.2.2.2.2.2.2.1
theorem e_X2_readHow_44 : decode cX2_readHow 44 = .ok (.invokevirtual 93, 3) := D_X2_readHow_0.2.2.2.2.2.2.2.2.2.2.2.2.2.2.2.2.2.2.2.2.1
theorem e_X2_readHow_47 : decode cX2_readHow 47 = .ok (.ifCond .eq 6, 3) := D_X2_readHow_0.2.2.2.2.2.2.2.2.2.2.2.2.2.2.2.2.2.2.2.2.2.1
theorem e_X2_readHow_50 : decode cX2_readHow 50 = .ok (.iinc 1 8, 3) := D_X2_readHow_0.2.2.2.2.2.2.2.2.2.2.2.2.2.2.2.2.2.2.2.2.2.2.1
theorem e_X2_readHow_53 : decode cX2_readHow 53 = .ok (.iload_n 1, 1) := D_X2_readHow_0.2.2.2.2.2.2.2.2.2.2.2.2.2.2.2.2.2.2.2.2.2.2.2.1
theorem e_X2_readHow_54 : decode cX2_readHow 54 = .ok (.ireturn, 1) := D_X2_readHow_0.2.2.2.2.2.2.2.2.2.2.2.2.2.2.2.2.2.2.2.2.2.2.2.2.1
set_option maxRecDepth 100000 in
theorem D_X2_readSize_0 : decode cX2_readSize 0 = .ok (.iconst 0, 1) ∧ decode cX2_readSize 1 = .ok (.istore_n 1, 1) ∧ decode cX2_readSize 2 = .ok (.iload_n 1, 1) ∧ decode cX2_readSize 3 = .ok (.iconst 4, 1) ∧ decode cX2_readSize 4 = .ok (.if_icmp .ge 22, 3) ∧ decode cX2_readSize 7 = .ok (.aload_n 0, 1) ∧ decode cX2_readSize 8 = .ok (.iload_n 1, 1) ∧ decode cX2_readSize 9 = .ok (.invokestatic 105, 3) ∧ decode cX2_readSize 12 = .ok (.invokevirtual 93, 3) ∧ decode cX2_readSize 15 = .ok (.ifCond .eq 5, 3) ∧ decode cX2_readSize 18 = .ok (.iload_n 1, 1) ∧ decode cX2_readSize 19 = .ok (.ireturn, 1) ∧ decode cX2_readSize 20 = .ok (.iinc 1 1, 3) ∧ decode cX2_readSize 23 = .ok (.goto (-21), 3) ∧ decode cX2_readSize 26 = .ok (.iconst (-1), 1) ∧ decode cX2_readSize 27 = .ok (.ireturn, 1) ∧ True := dq_of (l := (0, .iconst 0, 1) :: (1, .istore_n 1, 1) :: (2, .iload_n 1, 1) :: (3, .iconst 4, 1) :: (4, .if_icmp .ge 22, 3) :: (7, .aload_n 0, 1) :: (8, .iload_n 1, 1) :: (9, .invokestatic 105, 3) :: (12, .invokevirtual 93, 3) :: (15, .ifCond .eq 5, 3) :: (18, .iload_n 1, 1) :: (19, .ireturn, 1) :: (20, .iinc 1 1, 3) :: (23, .goto (-21), 3) :: (26, .iconst (-1), 1) :: (27, .ireturn, 1) :: []) (by decide +kernel)
theorem e_X2_readSize_0 : decode cX2_readSize 0 = .ok (.iconst 0, 1) := D_X2_readSize_0.1
theorem e_X2_readSize_1 : decode cX2_readSize 1 = .ok (.istore_n 1, 1) := D_X2_readSize_0.2.1
theorem e_X2_readSize_2 : decode cX2_readSize 2 = .ok (.iload_n 1, 1) := D_X2_readSize_0.2.2.1
theorem e_X2_readSize_3 : decode cX2_readSize 3 = .ok (.iconst 4, 1) := D_X2_readSize_0.2.2.2.1
theorem e_X2_readSize_4 : decode cX2_readSize 4 = .ok (.if_icmp .ge 22, 3) := D_X2_readSize_0.2.2.2.2.1
theorem e_X2_readSize_7 : decode cX2_readSize 7 = .ok (.aload_n 0, 1) := D_X2_readSize_0.2.2.2.2.2.1
theorem e_X2_readSize_8 : decode cX2_readSize 8 = .ok (.iload_n 1, 1) := D_X2_readSize_0.2.2.2.2.2.2.1
theorem e_X2_readSize_9 : decode cX2_readSize 9 = .ok (.invokestatic 105, 3) := D_X2_readSize_0.2.2.2.2.2.2.2.1
theorem e_X2_readSize_12 : decode cX2_readSize 12 = .ok (.invokevirtual 93, 3) := D_X2_readSize_0.2.2.2.2.2.2.2.2.1
theorem e_X2_readSize_15 : decode cX2_readSize 15 = .ok (.ifCond .eq 5, 3) := D_X2_readSize_0.2.2.2.2.2.2.2.2.2.1
theorem e_X2_readSize_18 : decode cX2_readSize 18 = .ok (.iload_n 1, 1) := D_X2_readSize_0.2.2.2.2.2.2.2.2.2.2.1
theorem e_X2_readSize_19 : decode cX2_readSize 19 = .ok (.ireturn, 1) := D_X2_readSize_0.2.2.2.2.2.2.2.2.2.2.2.1
theorem e_X2_readSize_20 : decode cX2_readSize 20 = .ok (.iinc 1 1, 3) := D_X2_readSize_0.2.2.2.2.2.2.2.2.2.2.2.2.1
theorem e_X2_readSize_23 : decode cX2_readSize 23 = .ok (.goto (-21), 3) := D_X2_readSize_0.2.2.2.2.2.2.2.2.2.2.2.2.2.1
theorem e_X2_readSize_26 : decode cX2_readSize 26 = .ok (.iconst (-1), 1) := D_X2_readSize_0.2.2.2.2.2.2.2.2.2.2.2.2.2.2.1
theorem e_X2_readSize_27 : decode cX2_readSize 27 = .ok (.ireturn, 1) := D_X2_readSize_0.2.2.2.2.2.2.2.2.2.2.2.2.2.2.2.1
set_option maxRecDepth 100000 in
theorem D_X2_readKind_0 : decode cX2_readKind 0 = .ok (.iconst 0, 1) ∧ decode cX2_readKind 1 = .ok (.istore_n 1, 1) ∧ decode cX2_readKind 2 = .ok (.iload_n 1, 1) ∧ decode cX2_readKind 3 = .ok (.iconst 4, 1) ∧ decode cX2_readKind 4 = .ok (.if_icmp .ge 22, 3) ∧ decode cX2_readKind 7 = .ok (.aload_n 0, 1) ∧ decode cX2_readKind 8 = .ok (.iload_n 1, 1) ∧ decode cX2_readKind 9 = .ok (.invokestatic 109, 3) ∧ decode cX2_readKind 12 = .ok (.invokevirtual 93, 3) ∧ decode cX2_readKind 15 = .ok (.ifCond .eq 5, 3) ∧ decode cX2_readKind 18 = .ok (.iload_n 1, 1) ∧ decode cX2_readKind 19 = .ok (.ireturn, 1) ∧ decode cX2_readKind 20 = .ok (.iinc 1 1, 3) ∧ decode cX2_readKind 23 = .ok (.goto (-21), 3) ∧ decode cX2_readKind 26 = .ok (.iconst (-1), 1) ∧ decode cX2_readKind 27 = .ok (.ireturn, 1) ∧ True := dq_of (l := (0, .iconst 0, 1) :: (1, .istore_n 1, 1) :: (2, .iload_n 1, 1) :: (3, .iconst 4, 1) :: (4, .if_icmp .ge 22, 3) :: (7, .aload_n 0, 1) :: (8, .iload_n 1, 1) :: (9, .invokestatic 109, 3) :: (12, .invokevirtual 93, 3) :: (15, .ifCond .eq 5, 3) :: (18, .iload_n 1, 1) :: (19, .ireturn, 1) :: (20, .iinc 1 1, 3) :: (23, .goto (-21), 3) :: (26, .iconst (-1), 1) :: (27, .ireturn, 1) :: []) (by decide +kernel)
theorem e_X2_readKind_0 : decode cX2_readKind 0 = .ok (.iconst 0, 1) := D_X2_readKind_0.1
theorem e_X2_readKind_1 : decode cX2_readKind 1 = .ok (.istore_n 1, 1) := D_X2_readKind_0.2.1
theorem e_X2_readKind_2 : decode cX2_readKind 2 = .ok (.iload_n 1, 1) := D_X2_readKind_0.2.2.1
theorem e_X2_readKind_3 : decode cX2_readKind 3 = .ok (.iconst 4, 1) := D_X2_readKind_0.2.2.2.1
theorem e_X2_readKind_4 : decode cX2_readKind 4 = .ok (.if_icmp .ge 22, 3) := D_X2_readKind_0.2.2.2.2.1
theorem e_X2_readKind_7 : decode cX2_readKind 7 = .ok (.aload_n 0, 1) := D_X2_readKind_0.2.2.2.2.2.1
theorem e_X2_readKind_8 : decode cX2_readKind 8 = .ok (.iload_n 1, 1) := D_X2_readKind_0.2.2.2.2.2.2.1
theorem e_X2_readKind_9 : decode cX2_readKind 9 = .ok (.invokestatic 109, 3) := D_X2_readKind_0.2.2.2.2.2.2.2.1
theorem e_X2_readKind_12 : decode cX2_readKind 12 = .ok (.invokevirtual 93, 3) := D_X2_readKind_0.2.2.2.2.2.2.2.2.1
theorem e_X2_readKind_15 : decode cX2_readKind 15 = .ok (.ifCond .eq 5, 3) := D_X2_readKind_0.2.2.2.2.2.2.2.2.2.1
theorem e_X2_readKind_18 : decode cX2_readKind 18 = .ok (.iload_n 1, 1) := D_X2_readKind_0.2.2.2.2.2.2.2.2.2.2.1
theorem e_X2_readKind_19 : decode cX2_readKind 19 = .ok (.ireturn, 1) := D_X2_readKind_0.2.2.2.2.2.2.2.2.2.2.2.1
theorem e_X2_readKind_20 : decode cX2_readKind 20 = .ok (.iinc 1 1, 3) := D_X2_readKind_0.2.2.2.2.2.2.2.2.2.2.2.2.1
theorem e_X2_readKind_23 : decode cX2_readKind 23 = .ok (.goto (-21), 3) := D_X2_readKind_0.2.2.2.2.2.2.2.2.2.2.2.2.2.1
theorem e_X2_readKind_26 : decode cX2_readKind 26 = .ok (.iconst (-1), 1) := D_X2_readKind_0.2.2.2.2.2.2.2.2.2.2.2.2.2.2.1
theorem e_X2_readKind_27 : decode cX2_readKind 27 = .ok (.ireturn, 1) := D_X2_readKind_0.2.2.2.2.2.2.2.2.2.2.2.2.2.2.2.1
set_option maxRecDepth 100000 in
theorem D_X2_sizeWord_0 : decode cX2_sizeWord 0 = .ok (.iload_n 0, 1) ∧ decode cX2_sizeWord 1 = .ok (.tableswitch 36 0 2 #[27, 30, 33], 27) ∧ decode cX2_sizeWord 28 = .ok (.ldc 112, 2) ∧ decode cX2_sizeWord 30 = .ok (.areturn, 1) ∧ decode cX2_sizeWord 31 = .ok (.ldc 114, 2) ∧ decode cX2_sizeWord 33 = .ok (.areturn, 1) ∧ decode cX2_sizeWord 34 = .ok (.ldc 116, 2) ∧ decode cX2_sizeWord 36 = .ok (.areturn, 1) ∧ decode cX2_sizeWord 37 = .ok (.ldc 118, 2) ∧ decode cX2_sizeWord 39 = .ok (.areturn, 1) ∧ True := dq_of (l := (0, .iload_n 0, 1) :: (1, .tableswitch 36 0 2 #[27, 30, 33], 27) :: (28, .ldc 112, 2) :: (30, .areturn, 1) :: (31, .ldc 114, 2) :: (33, .areturn, 1) :: (34, .ldc 116, 2) :: (36, .areturn, 1) :: (37, .ldc 118, 2) :: (39, .areturn, 1) :: []) (by decide +kernel)
theorem e_X2_sizeWord_0 : decode cX2_sizeWord 0 = .ok (.iload_n 0, 1) := D_X2_sizeWord_0.1
theorem e_X2_sizeWord_1 : decode cX2_sizeWord 1 = .ok (.tableswitch 36 0 2 #[27, 30, 33], 27) := D_X2_sizeWord_0.2.1
theorem e_X2_sizeWord_28 : decode cX2_sizeWord 28 = .ok (.ldc 112, 2) := D_X2_sizeWord_0.2.2.1
theorem e_X2_sizeWord_30 : decode cX2_sizeWord 30 = .ok (.areturn, 1) := D_X2_sizeWord_0.2.2.2.1
theorem e_X2_sizeWord_31 : decode cX2_sizeWord 31 = .ok (.ldc 114, 2) := D_X2_sizeWord_0.2.2.2.2.1
theorem e_X2_sizeWord_33 : decode cX2_sizeWord 33 = .ok (.areturn, 1) := D_X2_sizeWord_0.2.2.2.2.2.1
theorem e_X2_sizeWord_34 : decode cX2_sizeWord 34 = .ok (.ldc 116, 2) := D_X2_sizeWord_0.2.2.2.2.2.2.1
theorem e_X2_sizeWord_36 : decode cX2_sizeWord 36 = .ok (.areturn, 1) := D_X2_sizeWord_0.2.2.2.2.2.2.2.1
theorem e_X2_sizeWord_37 : decode cX2_sizeWord 37 = .ok (.ldc 118, 2) := D_X2_sizeWord_0.2.2.2.2.2.2.2.2.1
theorem e_X2_sizeWord_39 : decode cX2_sizeWord 39 = .ok (.areturn, 1) := D_X2_sizeWord_0.2.2.2.2.2.2.2.2.2.1
set_option maxRecDepth 100000 in
theorem D_X2_kindWord_0 : decode cX2_kindWord 0 = .ok (.iload_n 0, 1) ∧ decode cX2_kindWord 1 = .ok (.tableswitch 36 0 2 #[27, 30, 33], 27) ∧ decode cX2_kindWord 28 = .ok (.ldc 120, 2) ∧ decode cX2_kindWord 30 = .ok (.areturn, 1) ∧ decode cX2_kindWord 31 = .ok (.ldc 122, 2) ∧ decode cX2_kindWord 33 = .ok (.areturn, 1) ∧ decode cX2_kindWord 34 = .ok (.ldc 124, 2) ∧ decode cX2_kindWord 36 = .ok (.areturn, 1) ∧ decode cX2_kindWord 37 = .ok (.ldc 126, 2) ∧ decode cX2_kindWord 39 = .ok (.areturn, 1) ∧ True := dq_of (l := (0, .iload_n 0, 1) :: (1, .tableswitch 36 0 2 #[27, 30, 33], 27) :: (28, .ldc 120, 2) :: (30, .areturn, 1) :: (31, .ldc 122, 2) :: (33, .areturn, 1) :: (34, .ldc 124, 2) :: (36, .areturn, 1) :: (37, .ldc 126, 2) :: (39, .areturn, 1) :: []) (by decide +kernel)
theorem e_X2_kindWord_0 : decode cX2_kindWord 0 = .ok (.iload_n 0, 1) := D_X2_kindWord_0.1
theorem e_X2_kindWord_1 : decode cX2_kindWord 1 = .ok (.tableswitch 36 0 2 #[27, 30, 33], 27) := D_X2_kindWord_0.2.1
theorem e_X2_kindWord_28 : decode cX2_kindWord 28 = .ok (.ldc 120, 2) := D_X2_kindWord_0.2.2.1
theorem e_X2_kindWord_30 : decode cX2_kindWord 30 = .ok (.areturn, 1) := D_X2_kindWord_0.2.2.2.1
theorem e_X2_kindWord_31 : decode cX2_kindWord 31 = .ok (.ldc 122, 2) := D_X2_kindWord_0.2.2.2.2.1
theorem e_X2_kindWord_33 : decode cX2_kindWord 33 = .ok (.areturn, 1) := D_X2_kindWord_0.2.2.2.2.2.1
theorem e_X2_kindWord_34 : decode cX2_kindWord 34 = .ok (.ldc 124, 2) := D_X2_kindWord_0.2.2.2.2.2.2.1
theorem e_X2_kindWord_36 : decode cX2_kindWord 36 = .ok (.areturn, 1) := D_X2_kindWord_0.2.2.2.2.2.2.2.1
theorem e_X2_kindWord_37 : decode cX2_kindWord 37 = .ok (.ldc 126, 2) := D_X2_kindWord_0.2.2.2.2.2.2.2.2.1
theorem e_X2_kindWord_39 : decode cX2_kindWord 39 = .ok (.areturn, 1) := D_X2_kindWord_0.2.2.2.2.2.2.2.2.2.1
set_option maxRecDepth 100000 in
theorem D_X2_skips_0 : decode cX2_skips 0 = .ok (.aload_n 1, 1) ∧ decode cX2_skips 1 = .ok (.invokevirtual 128, 3) ∧ decode cX2_skips 4 = .ok (.istore_n 2, 1) ∧ decode cX2_skips 5 = .ok (.aload_n 0, 1) ∧ decode cX2_skips 6 = .ok (.getfield 39, 3) ∧ decode cX2_skips 9 = .ok (.ifCond .lt 25, 3) ∧ decode cX2_skips 12 = .ok (.iload_n 2, 1) ∧ decode cX2_skips 13 = .ok (.aload_n 0, 1) ∧ decode cX2_skips 14 = .ok (.getfield 15, 3) ∧ decode cX2_skips 17 = .ok (.aload_n 0, 1) ∧ decode cX2_skips 18 = .ok (.getfield 39, 3) ∧ decode cX2_skips 21 = .ok (.isub, 1) ∧ decode cX2_skips 22 = .ok (.if_icmp .gt 12, 3) ∧ decode cX2_skips 25 = .ok (.aload_n 0, 1) ∧ decode cX2_skips 26 = .ok (.getfield 15, 3) ∧ decode cX2_skips 29 = .ok (.bipush 100, 2) ∧ decode cX2_skips 31 = .ok (.if_icmp .le 5, 3) ∧ decode cX2_skips 34 = .ok (.iconst 0, 1) ∧ decode cX2_skips 35 = .ok (.ireturn, 1) ∧ decode cX2_skips 36 = .ok (.iconst 0, 1) ∧ decode cX2_skips 37 = .ok (.istore_n 3, 1) ∧ decode cX2_skips 38 = .ok (.iload_n 3, 1) ∧ decode cX2_skips 39 = .ok (.iload_n 2, 1) ∧ decode cX2_skips 40 = .ok (.if_icmp .ge 30, 3) ∧ decode cX2_skips 43 = .ok (.aload_n 0, 1) ∧ decode cX2_skips 44 = .ok (.getfield 9, 3) ∧ decode cX2_skips 47 = .ok (.aload_n 0, 1) ∧ decode cX2_skips 48 = .ok (.getfield 39, 3) ∧ decode cX2_skips 51 = .ok (.iload_n 3, 1) ∧ decode cX2_skips 52 = .ok (.iadd, 1) ∧ decode cX2_skips 53 = .ok (.caload, 1) ∧ decode cX2_skips 54 = .ok (.aload_n 1, 1) ∧ decode cX2_skips 55 = .ok (.iload_n 3, 1) ∧ decode cX2_skips 56 = .ok (.invokevirtual 132, 3) ∧ decode cX2_skips 59 = .ok (.if_icmp .eq 5, 3) ∧ decode cX2_skips 62 = .ok (.iconst 0, 1) ∧ decode cX2_skips 63 = .ok (.ireturn, 1) ∧ decode cX2_skips 64 = .ok (.iinc 3 1, 3) ∧ decode cX2_skips 67 = .ok (.goto (-29), 3) ∧ decode cX2_skips 70 = .ok (.aload_n 0, 1) ∧ True := dq_of (l := (0, .aload_n 1, 1) :: (1, .invokevirtual 128, 3) :: (4, .istore_n 2, 1) :: (5, .aload_n 0, 1) :: (6, .getfield 39, 3) :: (9, .ifCond .lt 25, 3) :: (12, .iload_n 2, 1) :: (13, .aload_n 0, 1) :: (14, .getfield 15, 3) :: (17, .aload_n 0, 1) :: (18, .getfield 39, 3) :: (21, .isub, 1) :: (22, .if_icmp .gt 12, 3) :: (25, .aload_n 0, 1) :: (26, .getfield 15, 3) :: (29, .bipush 100, 2) :: (31, .if_icmp .le 5, 3) :: (34, .iconst 0, 1) :: (35, .ireturn, 1) :: (36, .iconst 0, 1) :: (37, .istore_n 3, 1) :: (38, .iload_n 3, 1) :: (39, .iload_n 2, 1) :: (40, .if_icmp .ge 30, 3) :: (43, .aload_n 0, 1) :: (44, .getfield 9, 3) :: (47, .aload_n 0, 1) :: (48, .getfield 39, 3) :: (51, .iload_n 3, 1) :: (52, .iadd, 1) :: (53, .caload, 1) :: (54, .aload_n 1, 1) :: (55, .iload_n 3, 1) :: (56, .invokevirtual 132, 3) :: (59, .if_icmp .eq 5, 3) :: (62, .iconst 0, 1) :: (63, .ireturn, 1) :: (64, .iinc 3 1, 3) :: (67, .goto (-29), 3) :: (70, .aload_n 0, 1) :: []) (by decide +kernel)
theorem e_X2_skips_0 : decode cX2_skips 0 = .ok (.aload_n 1, 1) := D_X2_skips_0.1
theorem e_X2_skips_1 : decode cX2_skips 1 = .ok (.invokevirtual 128, 3) := D_X2_skips_0.2.1
theorem e_X2_skips_4 : decode cX2_skips 4 = .ok (.istore_n 2, 1) := D_X2_skips_0.2.2.1
theorem e_X2_skips_5 : decode cX2_skips 5 = .ok (.aload_n 0, 1) := D_X2_skips_0.2.2.2.1
theorem e_X2_skips_6 : decode cX2_skips 6 = .ok (.getfield 39, 3) := D_X2_skips_0.2.2.2.2.1
theorem e_X2_skips_9 : decode cX2_skips 9 = .ok (.ifCond .lt 25, 3) := D_X2_skips_0.2.2.2.2.2.1
theorem e_X2_skips_12 : decode cX2_skips 12 = .ok (.iload_n 2, 1) := D_X2_skips_0.2.2.2.2.2.2.1
theorem e_X2_skips_13 : decode cX2_skips 13 = .ok (.aload_n 0, 1) := D_X2_skips_0.2.2.2.2.2.2.2.1
theorem e_X2_skips_14 : decode cX2_skips 14 = .ok (.getfield 15, 3) := D_X2_skips_0.2.2.2.2.2.2.2.2.1
theorem e_X2_skips_17 : decode cX2_skips 17 = .ok (.aload_n 0, 1) := D_X2_skips_0.2.2.2.2.2.2.2.2.2.1
theorem e_X2_skips_18 : decode cX2_skips 18 = .ok (.getfield 39, 3) := D_X2_skips_0.2.2.2.2.2.2.2.2.2.2.1
theorem e_X2_skips_21 : decode cX2_skips 21 = .ok (.isub, 1) := D_X2_skips_0.2.2.2.2.2.2.2.2.2.2.2.1
theorem e_X2_skips_22 : decode cX2_skips 22 = .ok (.if_icmp .gt 12, 3) := D_X2_skips_0.2.2.2.2.2.2.2.2.2.2.2.2.1
theorem e_X2_skips_25 : decode cX2_skips 25 = .ok (.aload_n 0, 1) := D_X2_skips_0.2.2.2.2.2.2.2.2.2.2.2.2.2.1
theorem e_X2_skips_26 : decode cX2_skips 26 = .ok (.getfield 15, 3) := D_X2_skips_0.2.2.2.2.2.2.2.2.2.2.2.2.2.2.1
theorem e_X2_skips_29 : decode cX2_skips 29 = .ok (.bipush 100, 2) := D_X2_skips_0.2.2.2.2.2.2.2.2.2.2.2.2.2.2.2.1
theorem e_X2_skips_31 : decode cX2_skips 31 = .ok (.if_icmp .le 5, 3) := D_X2_skips_0.2.2.2.2.2.2.2.2.2.2.2.2.2.2.2.2.1
theorem e_X2_skips_34 : decode cX2_skips 34 = .ok (.iconst 0, 1) := D_X2_skips_0.2.2.2.2.2.2.2.2.2.2.2.2.2.2.2.2.2.1
theorem e_X2_skips_35 : decode cX2_skips 35 = .ok (.ireturn, 1) := D_X2_skips_0.2.2.2.2.2.2.2.2.2.2.2.2.2.2.2.2.2.2.1
theorem e_X2_skips_36 : decode cX2_skips 36 = .ok (.iconst 0, 1) := D_X2_skips_0.2.2.2.2.2.2.2.2.2.2.2.2.2.2.2.2.2.2.2.1
theorem e_X2_skips_37 : decode cX2_skips 37 = .ok (.istore_n 3, 1) := D_X2_skips_0.2.2.2.2.2.2.2.2.2.2.2.2.2.2.2.2.2.2.2.2.1
theorem e_X2_skips_38 : decode cX2_skips 38 = .ok (.iload_n 3, 1) := D_X2_skips_0.2.2.2.2.2.2.2.2.2.2.2.2.2.2.2.2.2.2.2.2.2.1
theorem e_X2_skips_39 : decode cX2_skips 39 = .ok (.iload_n 2, 1) := D_X2_skips_0.2.2.2.2.2.2.2.2.2.2.2.2.2.2.2.2.2.2.2.2.2.2.1
theorem e_X2_skips_40 : decode cX2_skips 40 = .ok (.if_icmp .ge 30, 3) := D_X2_skips_0.2.2.2.2.2.2.2.2.2.2.2.2.2.2.2.2.2.2.2.2.2.2.2.1
theorem e_X2_skips_43 : decode cX2_skips 43 = .ok (.aload_n 0, 1) := D_X2_skips_0.2.2.2.2.2.2.2.2.2.2.2.2.2.2.2.2.2.2.2.2.2.2.2.2.1
theorem e_X2_skips_44 : decode cX2_skips 44 = .ok (.getfield 9, 3) := D_X2_skips_0.2.2.2.2.2.2.2.2.2.2.2.2.2.2.2.2.2.2.2.2.2.2.2.2.2.1
theorem e_X2_skips_47 : decode cX2_skips 47 = .ok (.aload_n 0, 1) := D_X2_skips_0.2.2.2.2.2.2.2.2.2.2.2.2.2.2.2.2.2.2.2.2.2.2.2.2.2.2.1
theorem e_X2_skips_48 : decode cX2_skips 48 = .ok (.getfield 39, 3) := D_X2_skips_0.2.2.2.2.2.2.2.2.2.2.2.2.2.2.2.2.2.2.2.2.2.2.2.2.2.2.2.1
theorem e_X2_skips_51 : decode cX2_skips 51 = .ok (.iload_n 3, 1) := D_X2_skips_0.2.2.2.2.2.2.2.2.2.2.2.2.2.2.2.2.2.2.2.2.2.2.2.2.2.2.2.2.1
theorem e_X2_skips_52 : decode cX2_skips 52 = .ok (.iadd, 1) := D_X2_skips_0.2.2.2.2.2.2.2.2.2.2.2.2.2.2.2.2.2.2.2.2.2.2.2.2.2.2.2.2.2.1
theorem e_X2_skips_53 : decode cX2_skips 53 = .ok (.caload, 1) := D_X2_skips_0.2.2.2.2.2.2.2.2.2.2.2.2.2.2.2.2.2.2.2.2.2.2.2.2.2.2.2.2.2.2.1
theorem e_X2_skips_54 : decode cX2_skips 54 = .ok (.aload_n 1, 1) := D_X2_skips_0.2.2.2.2.2.2.2.2.2.2.2.2.2.2.2.2.2.2.2.2.2.2.2.2.2.2.2.2.2.2.2.1
theorem e_X2_skips_55 : decode cX2_skips 55 = .ok (.iload_n 3, 1) := D_X2_skips_0.2.2.2.2.2.2.2.2.2.2.2.2.2.2.2.2.2.2.2.2.2.2.2.2.2.2.2.2.2.2.2.2.1
theorem e_X2_skips_56 : decode cX2_skips 56 = .ok (.invokevirtual 132, 3) := D_X2_skips_0.2.2.2.2.2.2.2.2.2.2.2.2.2.2.2.2.2.2.2.2.2.2.2.2.2.2.2.2.2.2.2.2.2.1
theorem e_X2_skips_59 : decode cX2_skips 59 = .ok (.if_icmp .eq 5, 3) := D_X2_skips_0.2.2.2.2.2.2.2.2.2.2.2.2.2.2.2.2.2.2.2.2.2.2.2.2.2.2.2.2.2.2.2.2.2.2.1
theorem e_X2_skips_62 : decode cX2_skips 62 = .ok (.iconst 0, 1) := D_X2_skips_0.2.2.2.2.2.2.2.2.2.2.2.2.2.2.2.2.2.2.2.2.2.2.2.2.2.2.2.2.2.2.2.2.2.2.2.1
theorem e_X2_skips_63 : decode cX2_skips 63 = .ok (.ireturn, 1) := D_X2_skips_0.2.2.2.2.2.2.2.2.2.2.2.2.2.2.2.2.2.2.2.2.2.2.2.2.2.2.2.2.2.2.2.2.2.2.2.2.1
theorem e_X2_skips_64 : decode cX2_skips 64 = .ok (.iinc 3 1, 3) := D_X2_skips_0.2.2.2.2.2.2.2.2.2.2.2.2.2.2.2.2.2.2.2.2.2.2.2.2.2.2.2.2.2.2.2.2.2.2.2.2.2.1
theorem e_X2_skips_67 : decode cX2_skips 67 = .ok (.goto (-29), 3) := D_X2_skips_0.2.2.2.2.2.2.2.2.2.2.2.2.2.2.2.2.2.2.2.2.2.2.2.2.2.2.2.2.2.2.2.2.2.2.2.2.2.2.1
theorem e_X2_skips_70 : decode cX2_skips 70 = .ok (.aload_n 0, 1) := D_X2_skips_0.2.2.2.2.2.2.2.2.2.2.2.2.2.2.2.2.2.2.2.2.2.2.2.2.2.2.2.2.2.2.2.2.2.2.2.2.2.2.2.1
set_option maxRecDepth 100000 in
theorem D_X2_skips_1 : decode cX2_skips 71 = .ok (.dup, 1) ∧ decode cX2_skips 72 = .ok (.getfield 39, 3) ∧ decode cX2_skips 75 = .ok (.iload_n 2, 1) ∧ decode cX2_skips 76 = .ok (.iadd, 1) ∧ decode cX2_skips 77 = .ok (.putfield 39, 3) ∧ decode cX2_skips 80 = .ok (.iconst 1, 1) ∧ decode cX2_skips 81 = .ok (.ireturn, 1) ∧ True := dq_of (l := (71, .dup, 1) :: (72, .getfield 39, 3) :: (75, .iload_n 2, 1) :: (76, .iadd, 1) :: (77, .putfield 39, 3) :: (80, .iconst 1, 1) :: (81, .ireturn, 1) :: []) (by decide +kernel)
theorem e_X2_skips_71 : decode cX2_skips 71 = .ok (.dup, 1) := D_X2_skips_1.1
theorem e_X2_skips_72 : decode cX2_skips 72 = .ok (.getfield 39, 3) := D_X2_skips_1.2.1
theorem e_X2_skips_75 : decode cX2_skips 75 = .ok (.iload_n 2, 1) := D_X2_skips_1.2.2.1
theorem e_X2_skips_76 : decode cX2_skips 76 = .ok (.iadd, 1) := D_X2_skips_1.2.2.2.1
theorem e_X2_skips_77 : decode cX2_skips 77 = .ok (.putfield 39, 3) := D_X2_skips_1.2.2.2.2.1
theorem e_X2_skips_80 : decode cX2_skips 80 = .ok (.iconst 1, 1) := D_X2_skips_1.2.2.2.2.2.1
theorem e_X2_skips_81 : decode cX2_skips 81 = .ok (.ireturn, 1) := D_X2_skips_1.2.2.2.2.2.2.1
set_option maxRecDepth 100000 in
theorem D_X3_init_0 : decode cX3_init 0 = .ok (.aload_n 0, 1) ∧ decode cX3_init 1 = .ok (.invokespecial 3, 3) ∧ decode cX3_init 4 = .ok (.aload_n 0, 1) ∧ decode cX3_init 5 = .ok (.bipush 9, 2) ∧ decode cX3_init 7 = .ok (.newarray .int, 2) ∧ decode cX3_init 9 = .ok (.putfield 9, 3) ∧ decode cX3_init 12 = .ok (.aload_n 0, 1) ∧ decode cX3_init 13 = .ok (.bipush 16, 2) ∧ decode cX3_init 15 = .ok (.newarray .int, 2) ∧ decode cX3_init 17 = .ok (.putfield 15, 3) ∧ decode cX3_init 20 = .ok (.aload_n 0, 1) ∧ decode cX3_init 21 = .ok (.bipush 16, 2) ∧ decode cX3_init 23 = .ok (.newarray .int, 2) ∧ decode cX3_init 25 = .ok (.putfield 18, 3) ∧ decode cX3_init 28 = .ok (.aload_n 0, 1) ∧ decode cX3_init 29 = .ok (.bipush 16, 2) ∧ decode cX3_init 31 = .ok (.newarray .int, 2) ∧ decode cX3_init 33 = .ok (.putfield 21, 3) ∧ decode cX3_init 36 = .ok (.return_, 1) ∧ True := dq_of (l := (0, .aload_n 0, 1) :: (1, .invokespecial 3, 3) :: (4, .aload_n 0, 1) :: (5, .bipush 9, 2) :: (7, .newarray .int, 2) :: (9, .putfield 9, 3) :: (12, .aload_n 0, 1) :: (13, .bipush 16, 2) :: (15, .newarray .int, 2) :: (17, .putfield 15, 3) :: (20, .aload_n 0, 1) :: (21, .bipush 16, 2) :: (23, .newarray .int, 2) :: (25, .putfield 18, 3) :: (28, .aload_n 0, 1) :: (29, .bipush 16, 2) :: (31, .newarray .int, 2) :: (33, .putfield 21, 3) :: (36, .return_, 1) :: []) (by decide +kernel)
theorem e_X3_init_0 : decode cX3_init 0 = .ok (.aload_n 0, 1) := D_X3_init_0.1
theorem e_X3_init_1 : decode cX3_init 1 = .ok (.invokespecial 3, 3) := D_X3_init_0.2.1
theorem e_X3_init_4 : decode cX3_init 4 = .ok (.aload_n 0, 1) := D_X3_init_0.2.2.1
theorem e_X3_init_5 : decode cX3_init 5 = .ok (.bipush 9, 2) := D_X3_init_0.2.2.2.1
theorem e_X3_init_7 : decode cX3_init 7 = .ok (.newarray .int, 2) := D_X3_init_0.2.2.2.2.1
theorem e_X3_init_9 : decode cX3_init 9 = .ok (.putfield 9, 3) := D_X3_init_0.2.2.2.2.2.1
theorem e_X3_init_12 : decode cX3_init 12 = .ok (.aload_n 0, 1) := D_X3_init_0.2.2.2.2.2.2.1
theorem e_X3_init_13 : decode cX3_init 13 = .ok (.bipush 16, 2) := D_X3_init_0.2.2.2.2.2.2.2.1
theorem e_X3_init_15 : decode cX3_init 15 = .ok (.newarray .int, 2) := D_X3_init_0.2.2.2.2.2.2.2.2.1
theorem e_X3_init_17 : decode cX3_init 17 = .ok (.putfield 15, 3) := D_X3_init_0.2.2.2.2.2.2.2.2.2.1
theorem e_X3_init_20 : decode cX3_init 20 = .ok (.aload_n 0, 1) := D_X3_init_0.2.2.2.2.2.2.2.2.2.2.1
theorem e_X3_init_21 : decode cX3_init 21 = .ok (.bipush 16, 2) := D_X3_init_0.2.2.2.2.2.2.2.2.2.2.2.1
theorem e_X3_init_23 : decode cX3_init 23 = .ok (.newarray .int, 2) := D_X3_init_0.2.2.2.2.2.2.2.2.2.2.2.2.1
theorem e_X3_init_25 : decode cX3_init 25 = .ok (.putfield 18, 3) := D_X3_init_0.2.2.2.2.2.2.2.2.2.2.2.2.2.1
theorem e_X3_init_28 : decode cX3_init 28 = .ok (.aload_n 0, 1) := D_X3_init_0.2.2.2.2.2.2.2.2.2.2.2.2.2.2.1
theorem e_X3_init_29 : decode cX3_init 29 = .ok (.bipush 16, 2) := D_X3_init_0.2.2.2.2.2.2.2.2.2.2.2.2.2.2.2.1
theorem e_X3_init_31 : decode cX3_init 31 = .ok (.newarray .int, 2) := D_X3_init_0.2.2.2.2.2.2.2.2.2.2.2.2.2.2.2.2.1
theorem e_X3_init_33 : decode cX3_init 33 = .ok (.putfield 21, 3) := D_X3_init_0.2.2.2.2.2.2.2.2.2.2.2.2.2.2.2.2.2.1
theorem e_X3_init_36 : decode cX3_init 36 = .ok (.return_, 1) := D_X3_init_0.2.2.2.2.2.2.2.2.2.2.2.2.2.2.2.2.2.2.1
set_option maxRecDepth 100000 in
theorem D_X3_copyFrom_0 : decode cX3_copyFrom 0 = .ok (.aload_n 1, 1) ∧ decode cX3_copyFrom 1 = .ok (.getfield 9, 3) ∧ decode cX3_copyFrom 4 = .ok (.iconst 0, 1) ∧ decode cX3_copyFrom 5 = .ok (.aload_n 0, 1) ∧ decode cX3_copyFrom 6 = .ok (.getfield 9, 3) ∧ decode cX3_copyFrom 9 = .ok (.iconst 0, 1) ∧ decode cX3_copyFrom 10 = .ok (.bipush 9, 2) ∧ decode cX3_copyFrom 12 = .ok (.invokestatic 24, 3) ∧ decode cX3_copyFrom 15 = .ok (.aload_n 1, 1) ∧ decode cX3_copyFrom 16 = .ok (.getfield 15, 3) ∧ decode cX3_copyFrom 19 = .ok (.iconst 0, 1) ∧ decode cX3_copyFrom 20 = .ok (.aload_n 0, 1) ∧ decode cX3_copyFrom 21 = .ok (.getfield 15, 3) ∧ decode cX3_copyFrom 24 = .ok (.iconst 0, 1) ∧ decode cX3_copyFrom 25 = .ok (.bipush 16, 2) ∧ decode cX3_copyFrom 27 = .ok (.invokestatic 24, 3) ∧ decode cX3_copyFrom 30 = .ok (.aload_n 1, 1) ∧ decode cX3_copyFrom 31 = .ok (.getfield 18, 3) ∧ decode cX3_copyFrom 34 = .ok (.iconst 0, 1) ∧ decode cX3_copyFrom 35 = .ok (.aload_n 0, 1) ∧ decode cX3_copyFrom 36 = .ok (.getfield 18, 3) ∧ decode cX3_copyFrom 39 = .ok (.iconst 0, 1) ∧ decode cX3_copyFrom 40 = .ok (.bipush 16, 2) ∧ decode cX3_copyFrom 42 = .ok (.invokestatic 24, 3) ∧ decode cX3_copyFrom 45 = .ok (.aload_n 1, 1) ∧ decode cX3_copyFrom 46 = .ok (.getfield 21, 3) ∧ decode cX3_copyFrom 49 = .ok (.iconst 0, 1) ∧ decode cX3_copyFrom 50 = .ok (.aload_n 0, 1) ∧ decode cX3_copyFrom 51 = .ok (.getfield 21, 3) ∧ decode cX3_copyFrom 54 = .ok (.iconst 0, 1) ∧ decode cX3_copyFrom 55 = .ok (.bipush 16, 2) ∧ decode cX3_copyFrom 57 = .ok (.invokestatic 24, 3) ∧ decode cX3_copyFrom 60 = .ok (.aload_n 0, 1) ∧ decode cX3_copyFrom 61 = .ok (.aload_n 1, 1) ∧ decode cX3_copyFrom 62 = .ok (.getfield 30, 3) ∧ decode cX3_copyFrom 65 = .ok (.putfield 30, 3) ∧ decode cX3_copyFrom 68 = .ok (.aload_n 0, 1) ∧ decode cX3_copyFrom 69 = .ok (.aload_n 1, 1) ∧ decode cX3_copyFrom 70 = .ok (.getfield 34, 3) ∧ decode cX3_copyFrom 73 = .ok (.putfield 34, 3) ∧ True := dq_of (l := (0, .aload_n 1, 1) :: (1, .getfield 9, 3) :: (4, .iconst 0, 1) :: (5, .aload_n 0, 1) :: (6, .getfield 9, 3) :: (9, .iconst 0, 1) :: (10, .bipush 9, 2) :: (12, .invokestatic 24, 3) :: (15, .aload_n 1, 1) :: (16, .getfield 15, 3) :: (19, .iconst 0, 1) :: (20, .aload_n 0, 1) :: (21, .getfield 15, 3) :: (24, .iconst 0, 1) :: (25, .bipush 16, 2) :: (27, .invokestatic 24, 3) :: (30, .aload_n 1, 1) :: (31, .getfield 18, 3) :: (34, .iconst 0, 1) :: (35, .aload_n 0, 1) :: (36, .getfield 18, 3) :: (39, .iconst 0, 1) :: (40, .bipush 16, 2) :: (42, .invokestatic 24, 3) :: (45, .aload_n 1, 1) :: (46, .getfield 21, 3) :: (49, .iconst 0, 1) :: (50, .aload_n 0, 1) :: (51, .getfield 21, 3) :: (54, .iconst 0, 1) :: (55, .bipush 16, 2) :: (57, .invokestatic 24, 3) :: (60, .aload_n 0, 1) :: (61, .aload_n 1, 1) :: (62, .getfield 30, 3) :: (65, .putfield 30, 3) :: (68, .aload_n 0, 1) :: (69, .aload_n 1, 1) :: (70, .getfield 34, 3) :: (73, .putfield 34, 3) :: []) (by decide +kernel)
theorem e_X3_copyFrom_0 : decode cX3_copyFrom 0 = .ok (.aload_n 1, 1) := D_X3_copyFrom_0.1
theorem e_X3_copyFrom_1 : decode cX3_copyFrom 1 = .ok (.getfield 9, 3) := D_X3_copyFrom_0.2.1
theorem e_X3_copyFrom_4 : decode cX3_copyFrom 4 = .ok (.iconst 0, 1) := D_X3_copyFrom_0.2.2.1
theorem e_X3_copyFrom_5 : decode cX3_copyFrom 5 = .ok (.aload_n 0, 1) := D_X3_copyFrom_0.2.2.2.1
theorem e_X3_copyFrom_6 : decode cX3_copyFrom 6 = .ok (.getfield 9, 3) := D_X3_copyFrom_0.2.2.2.2.1
theorem e_X3_copyFrom_9 : decode cX3_copyFrom 9 = .ok (.iconst 0, 1) := D_X3_copyFrom_0.2.2.2.2.2.1
theorem e_X3_copyFrom_10 : decode cX3_copyFrom 10 = .ok (.bipush 9, 2) := D_X3_copyFrom_0.2.2.2.2.2.2.1
theorem e_X3_copyFrom_12 : decode cX3_copyFrom 12 = .ok (.invokestatic 24, 3) := D_X3_copyFrom_0.2.2.2.2.2.2.2.1
theorem e_X3_copyFrom_15 : decode cX3_copyFrom 15 = .ok (.aload_n 1, 1) := D_X3_copyFrom_0.2.2.2.2.2.2.2.2.1
theorem e_X3_copyFrom_16 : decode cX3_copyFrom 16 = .ok (.getfield 15, 3) := D_X3_copyFrom_0.2.2.2.2.2.2.2.2.2.1
theorem e_X3_copyFrom_19 : decode cX3_copyFrom 19 = .ok (.iconst 0, 1) := D_X3_copyFrom_0.2.2.2.2.2.2.2.2.2.2.1
theorem e_X3_copyFrom_20 : decode cX3_copyFrom 20 = .ok (.aload_n 0, 1) := D_X3_copyFrom_0.2.2.2.2.2.2.2.2.2.2.2.1
theorem e_X3_copyFrom_21 : decode cX3_copyFrom 21 = .ok (.getfield 15, 3) := D_X3_copyFrom_0.2.2.2.2.2.2.2.2.2.2.2.2.1
theorem e_X3_copyFrom_24 : decode cX3_copyFrom 24 = .ok (.iconst 0, 1) := D_X3_copyFrom_0.2.2.2.2.2.2.2.2.2.2.2.2.2.1
theorem e_X3_copyFrom_25 : decode cX3_copyFrom 25 = .ok (.bipush 16, 2) := D_X3_copyFrom_0.2.2.2.2.2.2.2.2.2.2.2.2.2.2.1
theorem e_X3_copyFrom_27 : decode cX3_copyFrom 27 = .ok (.invokestatic 24, 3) := D_X3_copyFrom_0.2.2.2.2.2.2.2.2.2.2.2.2.2.2.2.1
theorem e_X3_copyFrom_30 : decode cX3_copyFrom 30 = .ok (.aload_n 1, 1) := D_X3_copyFrom_0.2.2.2.2.2.2.2.2.2.2.2.2.2.2.2.2.1
theorem e_X3_copyFrom_31 : decode cX3_copyFrom 31 = .ok (.getfield 18, 3) := D_X3_copyFrom_0.2.2.2.2.2.2.2.2.2.2.2.2.2.2.2.2.2.1
theorem e_X3_copyFrom_34 : decode cX3_copyFrom 34 = .ok (.iconst 0, 1) := D_X3_copyFrom_0.2.2.2.2.2.2.2.2.2.2.2.2.2.2.2.2.2.2.1
theorem e_X3_copyFrom_35 : decode cX3_copyFrom 35 = .ok (.aload_n 0, 1) := D_X3_copyFrom_0.2.2.2.2.2.2.2.2.2.2.2.2.2.2.2.2.2.2.2.1
theorem e_X3_copyFrom_36 : decode cX3_copyFrom 36 = .ok (.getfield 18, 3) := D_X3_copyFrom_0.2.2.2.2.2.2.2.2.2.2.2.2.2.2.2.2.2.2.2.2.1
theorem e_X3_copyFrom_39 : decode cX3_copyFrom 39 = .ok (.iconst 0, 1) := D_X3_copyFrom_0.2.2.2.2.2.2.2.2.2.2.2.2.2.2.2.2.2.2.2.2.2.1
theorem e_X3_copyFrom_40 : decode cX3_copyFrom 40 = .ok (.bipush 16, 2) := D_X3_copyFrom_0.2.2.2.2.2.2.2.2.2.2.2.2.2.2.2.2.2.2.2.2.2.2.1
theorem e_X3_copyFrom_42 : decode cX3_copyFrom 42 = .ok (.invokestatic 24, 3) := D_X3_copyFrom_0.2.2.2.2.2.2.2.2.2.2.2.2.2.2.2.2.2.2.2.2.2.2.2.1
theorem e_X3_copyFrom_45 : decode cX3_copyFrom 45 = .ok (.aload_n 1, 1) := D_X3_copyFrom_0.2.2.2.2.2.2.2.2.2.2.2.2.2.2.2.2.2.2.2.2.2.2.2.2.1
theorem e_X3_copyFrom_46 : decode cX3_copyFrom 46 = .ok (.getfield 21, 3) := D_X3_copyFrom_0.2.2.2.2.2.2.2.2.2.2.2.2.2.2.2.2.2.2.2.2.2.2.2.2.2.1
theorem e_X3_copyFrom_49 : decode cX3_copyFrom 49 = .ok (.iconst 0, 1) := D_X3_copyFrom_0.2.2.2.2.2.2.2.2.2.2.2.2.2.2.2.2.2.2.2.2.2.2.2.2.2.2.1
theorem e_X3_copyFrom_50 : decode cX3_copyFrom 50 = .ok (.aload_n 0, 1) := D_X3_copyFrom_0.2.2.2.2.2.2.2.2.2.2.2.2.2.2.2.2.2.2.2.2.2.2.2.2.2.2.2.1
theorem e_X3_copyFrom_51 : decode cX3_copyFrom 51 = .ok (.getfield 21, 3) := D_X3_copyFrom_0.2.2.2.2.2.2.2.2.2.2.2.2.2.2.2.2.2.2.2.2.2.2.2.2.2.2.2.2.1
theorem e_X3_copyFrom_54 : decode cX3_copyFrom 54 = .ok (.iconst 0, 1) := D_X3_copyFrom_0.2.2.2.2.2.2.2.2.2.2.2.2.2.2.2.2.2.2.2.2.2.2.2.2.2.2.2.2.2.1
theorem e_X3_copyFrom_55 : decode cX3_copyFrom 55 = .ok (.bipush 16, 2) := D_X3_copyFrom_0.2.2.2.2.2.2.2.2.2.2.2.2.2.2.2.2.2.2.2.2.2.2.2.2.2.2.2.2.2.2.1
theorem e_X3_copyFrom_57 : decode cX3_copyFrom 57 = .ok (.invokestatic 24, 3) := D_X3_copyFrom_0.2.2.2.2.2.2.2.2.2.2.2.2.2.2.2.2.2.2.2.2.2.2.2.2.2.2.2.2.2.2.2.1
theorem e_X3_copyFrom_60 : decode cX3_copyFrom 60 = .ok (.aload_n 0, 1) := D_X3_copyFrom_0.2.2.2.2.2.2.2.2.2.2.2.2.2.2.2.2.2.2.2.2.2.2.2.2.2.2.2.2.2.2.2.2.1
theorem e_X3_copyFrom_61 : decode cX3_copyFrom 61 = .ok (.aload_n 1, 1) := D_X3_copyFrom_0.2.2.2.2.2.2.2.2.2.2.2.2.2.2.2.2.2.2.2.2.2.2.2.2.2.2.2.2.2.2.2.2.2.1
theorem e_X3_copyFrom_62 : decode cX3_copyFrom 62 = .ok (.getfield 30, 3) := D_X3_copyFrom_0.2.2.2.2.2.2.2.2.2.2.2.2.2.2.2.2.2.2.2.2.2.2.2.2.2.2.2.2.2.2.2.2.2.2.1
theorem e_X3_copyFrom_65 : decode cX3_copyFrom 65 = .ok (.putfield 30, 3) := D_X3_copyFrom_0.2.2.2.2.2.2.2.2.2.2.2.2.2.2.2.2.2.2.2.2.2.2.2.2.2.2.2.2.2.2.2.2.2.2.2.1
theorem e_X3_copyFrom_68 : decode cX3_copyFrom 68 = .ok (.aload_n 0, 1) := D_X3_copyFrom_0.2.2.2.2.2.2.2.2.2.2.2.2.2.2.2.2.2.2.2.2.2.2.2.2.2.2.2.2.2.2.2.2.2.2.2.2.1
theorem e_X3_copyFrom_69 : decode cX3_copyFrom 69 = .ok (.aload_n 1, 1) := D_X3_copyFrom_0.2.2.2.2.2.2.2.2.2.2.2.2.2.2.2.2.2.2.2.2.2.2.2.2.2.2.2.2.2.2.2.2.2.2.2.2.2.1
theorem e_X3_copyFrom_70 : decode cX3_copyFrom 70 = .ok (.getfield 34, 3) := D_X3_copyFrom_0.2.2.2.2.2.2.2.2.2.2.2.2.2.2.2.2.2.2.2.2.2.2.2.2.2.2.2.2.2.2.2.2.2.2.2.2.2.2.1
theorem e_X3_copyFrom_73 : decode cX3_copyFrom 73 = .ok (.putfield 34, 3) := D_X3_copyFrom_0.2.2.2.2.2.2.2.2.2.2.2.2.2.2.2.2.2.2.2.2.2.2.2.2.2.2.2.2.2.2.2.2.2.2.2.2.2.2.2.1
set_option maxRecDepth 100000 in
theorem D_X3_copyFrom_1 : decode cX3_copyFrom 76 = .ok (.return_, 1) ∧ True := dq_of (l := (76, .return_, 1) :: []) (by decide +kernel)
theorem e_X3_copyFrom_76 : decode cX3_copyFrom 76 = .ok (.return_, 1) := D_X3_copyFrom_1.1
set_option maxRecDepth 100000 in
theorem D_X3_add_0 : decode cX3_add 0 = .ok (.iload_n 1, 1) ∧ decode cX3_add 1 = .ok (.bipush 9, 2) ∧ decode cX3_add 3 = .ok (.invokestatic 37, 3) ∧ decode cX3_add 6 = .ok (.ifCond .eq 13, 3) ∧ decode cX3_add 9 = .ok (.aload_n 0, 1) ∧ decode cX3_add 10 = .ok (.getfield 9, 3) ∧ decode cX3_add 13 = .ok (.iload_n 1, 1) ∧ decode cX3_add 14 = .ok (.dup2, 1) ∧ decode cX3_add 15 = .ok (.iaload, 1) ∧ decode cX3_add 16 = .ok (.iload_n 2, 1) ∧ decode cX3_add 17 = .ok (.iadd, 1) ∧ decode cX3_add 18 = .ok (.iastore, 1) ∧ decode cX3_add 19 = .ok (.return_, 1) ∧ True := dq_of (l := (0, .iload_n 1, 1) :: (1, .bipush 9, 2) :: (3, .invokestatic 37, 3) :: (6, .ifCond .eq 13, 3) :: (9, .aload_n 0, 1) :: (10, .getfield 9, 3) :: (13, .iload_n 1, 1) :: (14, .dup2, 1) :: (15, .iaload, 1) :: (16, .iload_n 2, 1) :: (17, .iadd, 1) :: (18, .iastore, 1) :: (19, .return_, 1) :: []) (by decide +kernel)
theorem e_X3_add_0 : decode cX3_add 0 = .ok (.iload_n 1, 1) := D_X3_add_0.1
theorem e_X3_add_1 : decode cX3_add 1 = .ok (.bipush 9, 2) := D_X3_add_0.2.1
theorem e_X3_add_3 : decode cX3_add 3 = .ok (.invokestatic 37, 3) := D_X3_add_0.2.2.1
theorem e_X3_add_6 : decode cX3_add 6 = .ok (.ifCond .eq 13, 3) := D_X3_add_0.2.2.2.1
theorem e_X3_add_9 : decode cX3_add 9 = .ok (.aload_n 0, 1) := D_X3_add_0.2.2.2.2.1
theorem e_X3_add_10 : decode cX3_add 10 = .ok (.getfield 9, 3) := D_X3_add_0.2.2.2.2.2.1
theorem e_X3_add_13 : decode cX3_add 13 = .ok (.iload_n 1, 1) := D_X3_add_0.2.2.2.2.2.2.1
theorem e_X3_add_14 : decode cX3_add 14 = .ok (.dup2, 1) := D_X3_add_0.2.2.2.2.2.2.2.1
theorem e_X3_add_15 : decode cX3_add 15 = .ok (.iaload, 1) := D_X3_add_0.2.2.2.2.2.2.2.2.1
theorem e_X3_add_16 : decode cX3_add 16 = .ok (.iload_n 2, 1) := D_X3_add_0.2.2.2.2.2.2.2.2.2.1
theorem e_X3_add_17 : decode cX3_add 17 = .ok (.iadd, 1) := D_X3_add_0.2.2.2.2.2.2.2.2.2.2.1
theorem e_X3_add_18 : decode cX3_add 18 = .ok (.iastore, 1) := D_X3_add_0.2.2.2.2.2.2.2.2.2.2.2.1
theorem e_X3_add_19 : decode cX3_add 19 = .ok (.return_, 1) := D_X3_add_0.2.2.2.2.2.2.2.2.2.2.2.2.1
set_option maxRecDepth 100000 in
theorem D_X3_addTakenSheet_0 : decode cX3_addTakenSheet 0 = .ok (.aload_n 0, 1) ∧ decode cX3_addTakenSheet 1 = .ok (.iconst 0, 1) ∧ decode cX3_addTakenSheet 2 = .ok (.iconst 1, 1) ∧ decode cX3_addTakenSheet 3 = .ok (.invokevirtual 41, 3) ∧ decode cX3_addTakenSheet 6 = .ok (.iconst 0, 1) ∧ decode cX3_addTakenSheet 7 = .ok (.istore_n 3, 1) ∧ decode cX3_addTakenSheet 8 = .ok (.iload_n 3, 1) ∧ decode cX3_addTakenSheet 9 = .ok (.aload_n 0, 1) ∧ decode cX3_addTakenSheet 10 = .ok (.getfield 30, 3) ∧ decode cX3_addTakenSheet 13 = .ok (.if_icmp .ge 46, 3) ∧ decode cX3_addTakenSheet 16 = .ok (.iload_n 3, 1) ∧ decode cX3_addTakenSheet 17 = .ok (.bipush 16, 2) ∧ decode cX3_addTakenSheet 19 = .ok (.if_icmp .ge 40, 3) ∧ decode cX3_addTakenSheet 22 = .ok (.aload_n 0, 1) ∧ decode cX3_addTakenSheet 23 = .ok (.getfield 15, 3) ∧ decode cX3_addTakenSheet 26 = .ok (.iload_n 3, 1) ∧ decode cX3_addTakenSheet 27 = .ok (.iaload, 1) ∧ decode cX3_addTakenSheet 28 = .ok (.iload_n 1, 1) ∧ decode cX3_addTakenSheet 29 = .ok (.if_icmp .ne 24, 3) ∧ decode cX3_addTakenSheet 32 = .ok (.aload_n 0, 1) ∧ decode cX3_addTakenSheet 33 = .ok (.getfield 18, 3) ∧ decode cX3_addTakenSheet 36 = .ok (.iload_n 3, 1) ∧ decode cX3_addTakenSheet 37 = .ok (.iaload, 1) ∧ decode cX3_addTakenSheet 38 = .ok (.iload_n 2, 1) ∧ decode cX3_addTakenSheet 39 = .ok (.if_icmp .ne 14, 3) ∧ decode cX3_addTakenSheet 42 = .ok (.aload_n 0, 1) ∧ decode cX3_addTakenSheet 43 = .ok (.getfield 21, 3) ∧ decode cX3_addTakenSheet 46 = .ok (.iload_n 3, 1) ∧ decode cX3_addTakenSheet 47 = .ok (.dup2, 1) ∧ decode cX3_addTakenSheet 48 = .ok (.iaload, 1) ∧ decode cX3_addTakenSheet 49 = .ok (.iconst 1, 1) ∧ decode cX3_addTakenSheet 50 = .ok (.iadd, 1) ∧ decode cX3_addTakenSheet 51 = .ok (.iastore, 1) ∧ decode cX3_addTakenSheet 52 = .ok (.return_, 1) ∧ decode cX3_addTakenSheet 53 = .ok (.iinc 3 1, 3) ∧ decode cX3_addTakenSheet 56 = .ok (.goto (-48), 3) ∧ decode cX3_addTakenSheet 59 = .ok (.aload_n 0, 1) ∧ decode cX3_addTakenSheet 60 = .ok (.getfield 30, 3) ∧ decode cX3_addTakenSheet 63 = .ok (.bipush 16, 2) ∧ decode cX3_addTakenSheet 65 = .ok (.if_icmp .ge 43, 3) ∧ True := dq_of (l := (0, .aload_n 0, 1) :: (1, .iconst 0, 1) :: (2, .iconst 1, 1) :: (3, .invokevirtual 41, 3) :: (6, .iconst 0, 1) :: (7, .istore_n 3, 1) :: (8, .iload_n 3, 1) :: (9, .aload_n 0, 1) :: (10, .getfield 30, 3) :: (13, .if_icmp .ge 46, 3) :: (16, .iload_n 3, 1) :: (17, .bipush 16, 2) :: (19, .if_icmp .ge 40, 3) :: (22, .aload_n 0, 1) :: (23, .getfield 15, 3) :: (26, .iload_n 3, 1) :: (27, .iaload, 1) :: (28, .iload_n 1, 1) :: (29, .if_icmp .ne 24, 3) :: (32, .aload_n 0, 1) :: (33, .getfield 18, 3) :: (36, .iload_n 3, 1) :: (37, .iaload, 1) :: (38, .iload_n 2, 1) :: (39, .if_icmp .ne 14, 3) :: (42, .aload_n 0, 1) :: (43, .getfield 21, 3) :: (46, .iload_n 3, 1) :: (47, .dup2, 1) :: (48, .iaload, 1) :: (49, .iconst 1, 1) :: (50, .iadd, 1) :: (51, .iastore, 1) :: (52, .return_, 1) :: (53, .iinc 3 1, 3) :: (56, .goto (-48), 3) :: (59, .aload_n 0, 1) :: (60, .getfield 30, 3) :: (63, .bipush 16, 2) :: (65, .if_icmp .ge 43, 3) :: []) (by decide +kernel)
theorem e_X3_addTakenSheet_0 : decode cX3_addTakenSheet 0 = .ok (.aload_n 0, 1) := D_X3_addTakenSheet_0.1
theorem e_X3_addTakenSheet_1 : decode cX3_addTakenSheet 1 = .ok (.iconst 0, 1) := D_X3_addTakenSheet_0.2.1
theorem e_X3_addTakenSheet_2 : decode cX3_addTakenSheet 2 = .ok (.iconst 1, 1) := D_X3_addTakenSheet_0.2.2.1
theorem e_X3_addTakenSheet_3 : decode cX3_addTakenSheet 3 = .ok (.invokevirtual 41, 3) := D_X3_addTakenSheet_0.2.2.2.1
theorem e_X3_addTakenSheet_6 : decode cX3_addTakenSheet 6 = .ok (.iconst 0, 1) := D_X3_addTakenSheet_0.2.2.2.2.1
theorem e_X3_addTakenSheet_7 : decode cX3_addTakenSheet 7 = .ok (.istore_n 3, 1) := D_X3_addTakenSheet_0.2.2.2.2.2.1
theorem e_X3_addTakenSheet_8 : decode cX3_addTakenSheet 8 = .ok (.iload_n 3, 1) := D_X3_addTakenSheet_0.2.2.2.2.2.2.1
theorem e_X3_addTakenSheet_9 : decode cX3_addTakenSheet 9 = .ok (.aload_n 0, 1) := D_X3_addTakenSheet_0.2.2.2.2.2.2.2.1
theorem e_X3_addTakenSheet_10 : decode cX3_addTakenSheet 10 = .ok (.getfield 30, 3) := D_X3_addTakenSheet_0.2.2.2.2.2.2.2.2.1
theorem e_X3_addTakenSheet_13 : decode cX3_addTakenSheet 13 = .ok (.if_icmp .ge 46, 3) := D_X3_addTakenSheet_0.2.2.2.2.2.2.2.2.2.1
theorem e_X3_addTakenSheet_16 : decode cX3_addTakenSheet 16 = .ok (.iload_n 3, 1) := D_X3_addTakenSheet_0.2.2.2.2.2.2.2.2.2.2.1
theorem e_X3_addTakenSheet_17 : decode cX3_addTakenSheet 17 = .ok (.bipush 16, 2) := D_X3_addTakenSheet_0.2.2.2.2.2.2.2.2.2.2.2.1
theorem e_X3_addTakenSheet_19 : decode cX3_addTakenSheet 19 = .ok (.if_icmp .ge 40, 3) := D_X3_addTakenSheet_0.2.2.2.2.2.2.2.2.2.2.2.2.1
theorem e_X3_addTakenSheet_22 : decode cX3_addTakenSheet 22 = .ok (.aload_n 0, 1) := D_X3_addTakenSheet_0.2.2.2.2.2.2.2.2.2.2.2.2.2.1
theorem e_X3_addTakenSheet_23 : decode cX3_addTakenSheet 23 = .ok (.getfield 15, 3) := D_X3_addTakenSheet_0.2.2.2.2.2.2.2.2.2.2.2.2.2.2.1
theorem e_X3_addTakenSheet_26 : decode cX3_addTakenSheet 26 = .ok (.iload_n 3, 1) := D_X3_addTakenSheet_0.2.2.2.2.2.2.2.2.2.2.2.2.2.2.2.1
theorem e_X3_addTakenSheet_27 : decode cX3_addTakenSheet 27 = .ok (.iaload, 1) := D_X3_addTakenSheet_0.2.2.2.2.2.2.2.2.2.2.2.2.2.2.2.2.1
theorem e_X3_addTakenSheet_28 : decode cX3_addTakenSheet 28 = .ok (.iload_n 1, 1) := D_X3_addTakenSheet_0.2.2.2.2.2.2.2.2.2.2.2.2.2.2.2.2.2.1
theorem e_X3_addTakenSheet_29 : decode cX3_addTakenSheet 29 = .ok (.if_icmp .ne 24, 3) := D_X3_addTakenSheet_0.2.2.2.2.2.2.2.2.2.2.2.2.2.2.2.2.2.2.1
theorem e_X3_addTakenSheet_32 : decode cX3_addTakenSheet 32 = .ok (.aload_n 0, 1) := D_X3_addTakenSheet_0.2.2.2.2.2.2.2.2.2.2.2.2.2.2.2.2.2.2.2.1
theorem e_X3_addTakenSheet_33 : decode cX3_addTakenSheet 33 = .ok (.getfield 18, 3) := D_X3_addTakenSheet_0.2.2.2.2.2.2.2.2.2.2.2.2.2.2.2.2.2.2.2.2.1
theorem e_X3_addTakenSheet_36 : decode cX3_addTakenSheet 36 = .ok (.iload_n 3, 1) := D_X3_addTakenSheet_0.2.2.2.2.2.2.2.2.2.2.2.2.2.2.2.2.2.2.2.2.2.1
theorem e_X3_addTakenSheet_37 : decode cX3_addTakenSheet 37 = .ok (.iaload, 1) := D_X3_addTakenSheet_0.2.2.2.2.2.2.2.2.2.2.2.2.2.2.2.2.2.2.2.2.2.2.1
theorem e_X3_addTakenSheet_38 : decode cX3_addTakenSheet 38 = .ok (.iload_n 2, 1) := D_X3_addTakenSheet_0.2.2.2.2.2.2.2.2.2.2.2.2.2.2.2.2.2.2.2.2.2.2.2.1
theorem e_X3_addTakenSheet_39 : decode cX3_addTakenSheet 39 = .ok (.if_icmp .ne 14, 3) := D_X3_addTakenSheet_0.2.2.2.2.2.2.2.2.2.2.2.2.2.2.2.2.2.2.2.2.2.2.2.2.1
theorem e_X3_addTakenSheet_42 : decode cX3_addTakenSheet 42 = .ok (.aload_n 0, 1) := D_X3_addTakenSheet_0.2.2.2.2.2.2.2.2.2.2.2.2.2.2.2.2.2.2.2.2.2.2.2.2.2.1
theorem e_X3_addTakenSheet_43 : decode cX3_addTakenSheet 43 = .ok (.getfield 21, 3) := D_X3_addTakenSheet_0.2.2.2.2.2.2.2.2.2.2.2.2.2.2.2.2.2.2.2.2.2.2.2.2.2.2.1
theorem e_X3_addTakenSheet_46 : decode cX3_addTakenSheet 46 = .ok (.iload_n 3, 1) := D_X3_addTakenSheet_0.2.2.2.2.2.2.2.2.2.2.2.2.2.2.2.2.2.2.2.2.2.2.2.2.2.2.2.1
theorem e_X3_addTakenSheet_47 : decode cX3_addTakenSheet 47 = .ok (.dup2, 1) := D_X3_addTakenSheet_0.2.2.2.2.2.2.2.2.2.2.2.2.2.2.2.2.2.2.2.2.2.2.2.2.2.2.2.2.1
theorem e_X3_addTakenSheet_48 : decode cX3_addTakenSheet 48 = .ok (.iaload, 1) := D_X3_addTakenSheet_0.2.2.2.2.2.2.2.2.2.2.2.2.2.2.2.2.2.2.2.2.2.2.2.2.2.2.2.2.2.1
theorem e_X3_addTakenSheet_49 : decode cX3_addTakenSheet 49 = .ok (.iconst 1, 1) := D_X3_addTakenSheet_0.2.2.2.2.2.2.2.2.2.2.2.2.2.2.2.2.2.2.2.2.2.2.2.2.2.2.2.2.2.2.1
theorem e_X3_addTakenSheet_50 : decode cX3_addTakenSheet 50 = .ok (.iadd, 1) := D_X3_addTakenSheet_0.2.2.2.2.2.2.2.2.2.2.2.2.2.2.2.2.2.2.2.2.2.2.2.2.2.2.2.2.2.2.2.1
theorem e_X3_addTakenSheet_51 : decode cX3_addTakenSheet 51 = .ok (.iastore, 1) := D_X3_addTakenSheet_0.2.2.2.2.2.2.2.2.2.2.2.2.2.2.2.2.2.2.2.2.2.2.2.2.2.2.2.2.2.2.2.2.1
theorem e_X3_addTakenSheet_52 : decode cX3_addTakenSheet 52 = .ok (.return_, 1) := D_X3_addTakenSheet_0.2.2.2.2.2.2.2.2.2.2.2.2.2.2.2.2.2.2.2.2.2.2.2.2.2.2.2.2.2.2.2.2.2.1
theorem e_X3_addTakenSheet_53 : decode cX3_addTakenSheet 53 = .ok (.iinc 3 1, 3) := D_X3_addTakenSheet_0.2.2.2.2.2.2.2.2.2.2.2.2.2.2.2.2.2.2.2.2.2.2.2.2.2.2.2.2.2.2.2.2.2.2.1
theorem e_X3_addTakenSheet_56 : decode cX3_addTakenSheet 56 = .ok (.goto (-48), 3) := D_X3_addTakenSheet_0.2.2.2.2.2.2.2.2.2.2.2.2.2.2.2.2.2.2.2.2.2.2.2.2.2.2.2.2.2.2.2.2.2.2.2.1
theorem e_X3_addTakenSheet_59 : decode cX3_addTakenSheet 59 = .ok (.aload_n 0, 1) := D_X3_addTakenSheet_0.2.2.2.2.2.2.2.2.2.2.2.2.2.2.2.2.2.2.2.2.2.2.2.2.2.2.2.2.2.2.2.2.2.2.2.2.1
theorem e_X3_addTakenSheet_60 : decode cX3_addTakenSheet 60 = .ok (.getfield 30, 3) := D_X3_addTakenSheet_0.2.2.2.2.2.2.2.2.2.2.2.2.2.2.2.2.2.2.2.2.2.2.2.2.2.2.2.2.2.2.2.2.2.2.2.2.2.1
theorem e_X3_addTakenSheet_63 : decode cX3_addTakenSheet 63 = .ok (.bipush 16, 2) := D_X3_addTakenSheet_0.2.2.2.2.2.2.2.2.2.2.2.2.2.2.2.2.2.2.2.2.2.2.2.2.2.2.2.2.2.2.2.2.2.2.2.2.2.2.1
theorem e_X3_addTakenSheet_65 : decode cX3_addTakenSheet 65 = .ok (.if_icmp .ge 43, 3) := D_X3_addTakenSheet_0.2.2.2.2.2.2.2.2.2.2.2.2.2.2.2.2.2.2.2.2.2.2.2.2.2.2.2.2.2.2.2.2.2.2.2.2.2.2.2.1
set_option maxRecDepth 100000 in
theorem D_X3_addTakenSheet_1 : decode cX3_addTakenSheet 68 = .ok (.aload_n 0, 1) ∧ decode cX3_addTakenSheet 69 = .ok (.getfield 15, 3) ∧ decode cX3_addTakenSheet 72 = .ok (.aload_n 0, 1) ∧ decode cX3_addTakenSheet 73 = .ok (.getfield 30, 3) ∧ decode cX3_addTakenSheet 76 = .ok (.iload_n 1, 1) ∧ decode cX3_addTakenSheet 77 = .ok (.iastore, 1) ∧ decode cX3_addTakenSheet 78 = .ok (.aload_n 0, 1) ∧ decode cX3_addTakenSheet 79 = .ok (.getfield 18, 3) ∧ decode cX3_addTakenSheet 82 = .ok (.aload_n 0, 1) ∧ decode cX3_addTakenSheet 83 = .ok (.getfield 30, 3) ∧ decode cX3_addTakenSheet 86 = .ok (.iload_n 2, 1) ∧ decode cX3_addTakenSheet 87 = .ok (.iastore, 1) ∧ decode cX3_addTakenSheet 88 = .ok (.aload_n 0, 1) ∧ decode cX3_addTakenSheet 89 = .ok (.getfield 21, 3) ∧ decode cX3_addTakenSheet 92 = .ok (.aload_n 0, 1) ∧ decode cX3_addTakenSheet 93 = .ok (.getfield 30, 3) ∧ decode cX3_addTakenSheet 96 = .ok (.iconst 1, 1) ∧ decode cX3_addTakenSheet 97 = .ok (.iastore, 1) ∧ decode cX3_addTakenSheet 98 = .ok (.aload_n 0, 1) ∧ decode cX3_addTakenSheet 99 = .ok (.dup, 1) ∧ decode cX3_addTakenSheet 100 = .ok (.getfield 30, 3) ∧ decode cX3_addTakenSheet 103 = .ok (.iconst 1, 1) ∧ decode cX3_addTakenSheet 104 = .ok (.iadd, 1) ∧ decode cX3_addTakenSheet 105 = .ok (.putfield 30, 3) ∧ decode cX3_addTakenSheet 108 = .ok (.return_, 1) ∧ True := dq_of (l := (68, .aload_n 0, 1) :: (69, .getfield 15, 3) :: (72, .aload_n 0, 1) :: (73, .getfield 30, 3) :: (76, .iload_n 1, 1) :: (77, .iastore, 1) :: (78, .aload_n 0, 1) :: (79, .getfield 18, 3) :: (82, .aload_n 0, 1) :: (83, .getfield 30, 3) :: (86, .iload_n 2, 1) :: (87, .iastore, 1) :: (88, .aload_n 0, 1) :: (89, .getfield 21, 3) :: (92, .aload_n 0, 1) :: (93, .getfield 30, 3) :: (96, .iconst 1, 1) :: (97, .iastore, 1) :: (98, .aload_n 0, 1) :: (99, .dup, 1) :: (100, .getfield 30, 3) :: (103, .iconst 1, 1) :: (104, .iadd, 1) :: (105, .putfield 30, 3) :: (108, .return_, 1) :: []) (by decide +kernel)
theorem e_X3_addTakenSheet_68 : decode cX3_addTakenSheet 68 = .ok (.aload_n 0, 1) := D_X3_addTakenSheet_1.1
theorem e_X3_addTakenSheet_69 : decode cX3_addTakenSheet 69 = .ok (.getfield 15, 3) := D_X3_addTakenSheet_1.2.1
theorem e_X3_addTakenSheet_72 : decode cX3_addTakenSheet 72 = .ok (.aload_n 0, 1) := D_X3_addTakenSheet_1.2.2.1
theorem e_X3_addTakenSheet_73 : decode cX3_addTakenSheet 73 = .ok (.getfield 30, 3) := D_X3_addTakenSheet_1.2.2.2.1
theorem e_X3_addTakenSheet_76 : decode cX3_addTakenSheet 76 = .ok (.iload_n 1, 1) := D_X3_addTakenSheet_1.2.2.2.2.1
theorem e_X3_addTakenSheet_77 : decode cX3_addTakenSheet 77 = .ok (.iastore, 1) := D_X3_addTakenSheet_1.2.2.2.2.2.1
theorem e_X3_addTakenSheet_78 : decode cX3_addTakenSheet 78 = .ok (.aload_n 0, 1) := D_X3_addTakenSheet_1.2.2.2.2.2.2.1
theorem e_X3_addTakenSheet_79 : decode cX3_addTakenSheet 79 = .ok (.getfield 18, 3) := D_X3_addTakenSheet_1.2.2.2.2.2.2.2.1
theorem e_X3_addTakenSheet_82 : decode cX3_addTakenSheet 82 = .ok (.aload_n 0, 1) := D_X3_addTakenSheet_1.2.2.2.2.2.2.2.2.1
theorem e_X3_addTakenSheet_83 : decode cX3_addTakenSheet 83 = .ok (.getfield 30, 3) := D_X3_addTakenSheet_1.2.2.2.2.2.2.2.2.2.1
theorem e_X3_addTakenSheet_86 : decode cX3_addTakenSheet 86 = .ok (.iload_n 2, 1) := D_X3_addTakenSheet_1.2.2.2.2.2.2.2.2.2.2.1
theorem e_X3_addTakenSheet_87 : decode cX3_addTakenSheet 87 = .ok (.iastore, 1) := D_X3_addTakenSheet_1.2.2.2.2.2.2.2.2.2.2.2.1
theorem e_X3_addTakenSheet_88 : decode cX3_addTakenSheet 88 = .ok (.aload_n 0, 1) := D_X3_addTakenSheet_1.2.2.2.2.2.2.2.2.2.2.2.2.1
theorem e_X3_addTakenSheet_89 : decode cX3_addTakenSheet 89 = .ok (.getfield 21, 3) := D_X3_addTakenSheet_1.2.2.2.2.2.2.2.2.2.2.2.2.2.1
theorem e_X3_addTakenSheet_92 : decode cX3_addTakenSheet 92 = .ok (.aload_n 0, 1) := D_X3_addTakenSheet_1.2.2.2.2.2.2.2.2.2.2.2.2.2.2.1
theorem e_X3_addTakenSheet_93 : decode cX3_addTakenSheet 93 = .ok (.getfield 30, 3) := D_X3_addTakenSheet_1.2.2.2.2.2.2.2.2.2.2.2.2.2.2.2.1
theorem e_X3_addTakenSheet_96 : decode cX3_addTakenSheet 96 = .ok (.iconst 1, 1) := D_X3_addTakenSheet_1.2.2.2.2.2.2.2.2.2.2.2.2.2.2.2.2.1
theorem e_X3_addTakenSheet_97 : decode cX3_addTakenSheet 97 = .ok (.iastore, 1) := D_X3_addTakenSheet_1.2.2.2.2.2.2.2.2.2.2.2.2.2.2.2.2.2.1
theorem e_X3_addTakenSheet_98 : decode cX3_addTakenSheet 98 = .ok (.aload_n 0, 1) := D_X3_addTakenSheet_1.2.2.2.2.2.2.2.2.2.2.2.2.2.2.2.2.2.2.1
theorem e_X3_addTakenSheet_99 : decode cX3_addTakenSheet 99 = .ok (.dup, 1) := D_X3_addTakenSheet_1.2.2.2.2.2.2.2.2.2.2.2.2.2.2.2.2.2.2.2.1
theorem e_X3_addTakenSheet_100 : decode cX3_addTakenSheet 100 = .ok (.getfield 30, 3) := D_X3_addTakenSheet_1.2.2.2.2.2.2.2.2.2.2.2.2.2.2.2.2.2.2.2.2.1
theorem e_X3_addTakenSheet_103 : decode cX3_addTakenSheet 103 = .ok (.iconst 1, 1) := D_X3_addTakenSheet_1.2.2.2.2.2.2.2.2.2.2.2.2.2.2.2.2.2.2.2.2.2.1
theorem e_X3_addTakenSheet_104 : decode cX3_addTakenSheet 104 = .ok (.iadd, 1) := D_X3_addTakenSheet_1.2.2.2.2.2.2.2.2.2.2.2.2.2.2.2.2.2.2.2.2.2.2.1
theorem e_X3_addTakenSheet_105 : decode cX3_addTakenSheet 105 = .ok (.putfield 30, 3) := D_X3_addTakenSheet_1.2.2.2.2.2.2.2.2.2.2.2.2.2.2.2.2.2.2.2.2.2.2.2.1
theorem e_X3_addTakenSheet_108 : decode cX3_addTakenSheet 108 = .ok (.return_, 1) := D_X3_addTakenSheet_1.2.2.2.2.2.2.2.2.2.2.2.2.2.2.2.2.2.2.2.2.2.2.2.2.1
set_option maxRecDepth 100000 in
theorem D_X4_init_0 : decode cX4_init 0 = .ok (.aload_n 0, 1) ∧ decode cX4_init 1 = .ok (.invokespecial 3, 3) ∧ decode cX4_init 4 = .ok (.aload_n 0, 1) ∧ decode cX4_init 5 = .ok (.new 9, 3) ∧ decode cX4_init 8 = .ok (.dup, 1) ∧ decode cX4_init 9 = .ok (.invokespecial 11, 3) ∧ decode cX4_init 12 = .ok (.putfield 12, 3) ∧ decode cX4_init 15 = .ok (.aload_n 0, 1) ∧ decode cX4_init 16 = .ok (.new 18, 3) ∧ decode cX4_init 19 = .ok (.dup, 1) ∧ decode cX4_init 20 = .ok (.invokespecial 20, 3) ∧ decode cX4_init 23 = .ok (.putfield 21, 3) ∧ decode cX4_init 26 = .ok (.aload_n 0, 1) ∧ decode cX4_init 27 = .ok (.new 25, 3) ∧ decode cX4_init 30 = .ok (.dup, 1) ∧ decode cX4_init 31 = .ok (.invokespecial 27, 3) ∧ decode cX4_init 34 = .ok (.putfield 28, 3) ∧ decode cX4_init 37 = .ok (.aload_n 0, 1) ∧ decode cX4_init 38 = .ok (.bipush 6, 2) ∧ decode cX4_init 40 = .ok (.newarray .int, 2) ∧ decode cX4_init 42 = .ok (.putfield 32, 3) ∧ decode cX4_init 45 = .ok (.aload_n 0, 1) ∧ decode cX4_init 46 = .ok (.bipush 100, 2) ∧ decode cX4_init 48 = .ok (.putfield 36, 3) ∧ decode cX4_init 51 = .ok (.aload_n 0, 1) ∧ decode cX4_init 52 = .ok (.iconst 0, 1) ∧ decode cX4_init 53 = .ok (.putfield 40, 3) ∧ decode cX4_init 56 = .ok (.getstatic 43, 3) ∧ decode cX4_init 59 = .ok (.iconst 0, 1) ∧ decode cX4_init 60 = .ok (.aload_n 0, 1) ∧ decode cX4_init 61 = .ok (.getfield 32, 3) ∧ decode cX4_init 64 = .ok (.iconst 0, 1) ∧ decode cX4_init 65 = .ok (.bipush 6, 2) ∧ decode cX4_init 67 = .ok (.invokestatic 46, 3) ∧ decode cX4_init 70 = .ok (.return_, 1) ∧ True := dq_of (l := (0, .aload_n 0, 1) :: (1, .invokespecial 3, 3) :: (4, .aload_n 0, 1) :: (5, .new 9, 3) :: (8, .dup, 1) :: (9, .invokespecial 11, 3) :: (12, .putfield 12, 3) :: (15, .aload_n 0, 1) :: (16, .new 18, 3) :: (19, .dup, 1) :: (20, .invokespecial 20, 3) :: (23, .putfield 21, 3) :: (26, .aload_n 0, 1) :: (27, .new 25, 3) :: (30, .dup, 1) :: (31, .invokespecial 27, 3) :: (34, .putfield 28, 3) :: (37, .aload_n 0, 1) :: (38, .bipush 6, 2) :: (40, .newarray .int, 2) :: (42, .putfield 32, 3) :: (45, .aload_n 0, 1) :: (46, .bipush 100, 2) :: (48, .putfield 36, 3) :: (51, .aload_n 0, 1) :: (52, .iconst 0, 1) :: (53, .putfield 40, 3) :: (56, .getstatic 43, 3) :: (59, .iconst 0, 1) :: (60, .aload_n 0, 1) :: (61, .getfield 32, 3) :: (64, .iconst 0, 1) :: (65, .bipush 6, 2) :: (67, .invokestatic 46, 3) :: (70, .return_, 1) :: []) (by decide +kernel)
theorem e_X4_init_0 : decode cX4_init 0 = .ok (.aload_n 0, 1) := D_X4_init_0.1
theorem e_X4_init_1 : decode cX4_init 1 = .ok (.invokespecial 3, 3) := D_X4_init_0.2.1
theorem e_X4_init_4 : decode cX4_init 4 = .ok (.aload_n 0, 1) := D_X4_init_0.2.2.1
theorem e_X4_init_5 : decode cX4_init 5 = .ok (.new 9, 3) := D_X4_init_0.2.2.2.1
theorem e_X4_init_8 : decode cX4_init 8 = .ok (.dup, 1) := D_X4_init_0.2.2.2.2.1
theorem e_X4_init_9 : decode cX4_init 9 = .ok (.invokespecial 11, 3) := D_X4_init_0.2.2.2.2.2.1
theorem e_X4_init_12 : decode cX4_init 12 = .ok (.putfield 12, 3) := D_X4_init_0.2.2.2.2.2.2.1
theorem e_X4_init_15 : decode cX4_init 15 = .ok (.aload_n 0, 1) := D_X4_init_0.2.2.2.2.2.2.2.1
theorem e_X4_init_16 : decode cX4_init 16 = .ok (.new 18, 3) := D_X4_init_0.2.2.2.2.2.2.2.2.1
theorem e_X4_init_19 : decode cX4_init 19 = .ok (.dup, 1) := D_X4_init_0.2.2.2.2.2.2.2.2.2.1
theorem e_X4_init_20 : decode cX4_init 20 = .ok (.invokespecial 20, 3) := D_X4_init_0.2.2.2.2.2.2.2.2.2.2.1
theorem e_X4_init_23 : decode cX4_init 23 = .ok (.putfield 21, 3) := D_X4_init_0.2.2.2.2.2.2.2.2.2.2.2.1
theorem e_X4_init_26 : decode cX4_init 26 = .ok (.aload_n 0, 1) := D_X4_init_0.2.2.2.2.2.2.2.2.2.2.2.2.1
theorem e_X4_init_27 : decode cX4_init 27 = .ok (.new 25, 3) := D_X4_init_0.2.2.2.2.2.2.2.2.2.2.2.2.2.1
theorem e_X4_init_30 : decode cX4_init 30 = .ok (.dup, 1) := D_X4_init_0.2.2.2.2.2.2.2.2.2.2.2.2.2.2.1
theorem e_X4_init_31 : decode cX4_init 31 = .ok (.invokespecial 27, 3) := D_X4_init_0.2.2.2.2.2.2.2.2.2.2.2.2.2.2.2.1
theorem e_X4_init_34 : decode cX4_init 34 = .ok (.putfield 28, 3) := D_X4_init_0.2.2.2.2.2.2.2.2.2.2.2.2.2.2.2.2.1
theorem e_X4_init_37 : decode cX4_init 37 = .ok (.aload_n 0, 1) := D_X4_init_0.2.2.2.2.2.2.2.2.2.2.2.2.2.2.2.2.2.1
theorem e_X4_init_38 : decode cX4_init 38 = .ok (.bipush 6, 2) := D_X4_init_0.2.2.2.2.2.2.2.2.2.2.2.2.2.2.2.2.2.2.1
theorem e_X4_init_40 : decode cX4_init 40 = .ok (.newarray .int, 2) := D_X4_init_0.2.2.2.2.2.2.2.2.2.2.2.2.2.2.2.2.2.2.2.1
theorem e_X4_init_42 : decode cX4_init 42 = .ok (.putfield 32, 3) := D_X4_init_0.2.2.2.2.2.2.2.2.2.2.2.2.2.2.2.2.2.2.2.2.1
theorem e_X4_init_45 : decode cX4_init 45 = .ok (.aload_n 0, 1) := D_X4_init_0.2.2.2.2.2.2.2.2.2.2.2.2.2.2.2.2.2.2.2.2.2.1
theorem e_X4_init_46 : decode cX4_init 46 = .ok (.bipush 100, 2) := D_X4_init_0.2.2.2.2.2.2.2.2.2.2.2.2.2.2.2.2.2.2.2.2.2.2.1
theorem e_X4_init_48 : decode cX4_init 48 = .ok (.putfield 36, 3) := D_X4_init_0.2.2.2.2.2.2.2.2.2.2.2.2.2.2.2.2.2.2.2.2.2.2.2.1
theorem e_X4_init_51 : decode cX4_init 51 = .ok (.aload_n 0, 1) := D_X4_init_0.2.2.2.2.2.2.2.2.2.2.2.2.2.2.2.2.2.2.2.2.2.2.2.2.1
theorem e_X4_init_52 : decode cX4_init 52 = .ok (.iconst 0, 1) := D_X4_init_0.2.2.2.2.2.2.2.2.2.2.2.2.2.2.2.2.2.2.2.2.2.2.2.2.2.1
theorem e_X4_init_53 : decode cX4_init 53 = .ok (.putfield 40, 3) := D_X4_init_0.2.2.2.2.2.2.2.2.2.2.2.2.2.2.2.2.2.2.2.2.2.2.2.2.2.2.1
theorem e_X4_init_56 : decode cX4_init 56 = .ok (.getstatic 43, 3) := D_X4_init_0.2.2.2.2.2.2.2.2.2.2.2.2.2.2.2.2.2.2.2.2.2.2.2.2.2.2.2.1
theorem e_X4_init_59 : decode cX4_init 59 = .ok (.iconst 0, 1) := D_X4_init_0.2.2.2.2.2.2.2.2.2.2.2.2.2.2.2.2.2.2.2.2.2.2.2.2.2.2.2.2.1
theorem e_X4_init_60 : decode cX4_init 60 = .ok (.aload_n 0, 1) := D_X4_init_0.2.2.2.2.2.2.2.2.2.2.2.2.2.2.2.2.2.2.2.2.2.2.2.2.2.2.2.2.2.1
theorem e_X4_init_61 : decode cX4_init 61 = .ok (.getfield 32, 3) := D_X4_init_0.2.2.2.2.2.2.2.2.2.2.2.2.2.2.2.2.2.2.2.2.2.2.2.2.2.2.2.2.2.2.1
theorem e_X4_init_64 : decode cX4_init 64 = .ok (.iconst 0, 1) := D_X4_init_0.2.2.2.2.2.2.2.2.2.2.2.2.2.2.2.2.2.2.2.2.2.2.2.2.2.2.2.2.2.2.2.1
theorem e_X4_init_65 : decode cX4_init 65 = .ok (.bipush 6, 2) := D_X4_init_0.2.2.2.2.2.2.2.2.2.2.2.2.2.2.2.2.2.2.2.2.2.2.2.2.2.2.2.2.2.2.2.2.1
theorem e_X4_init_67 : decode cX4_init 67 = .ok (.invokestatic 46, 3) := D_X4_init_0.2.2.2.2.2.2.2.2.2.2.2.2.2.2.2.2.2.2.2.2.2.2.2.2.2.2.2.2.2.2.2.2.2.1
theorem e_X4_init_70 : decode cX4_init 70 = .ok (.return_, 1) := D_X4_init_0.2.2.2.2.2.2.2.2.2.2.2.2.2.2.2.2.2.2.2.2.2.2.2.2.2.2.2.2.2.2.2.2.2.2.1
set_option maxRecDepth 100000 in
theorem D_X4_copyFrom_0 : decode cX4_copyFrom 0 = .ok (.aload_n 0, 1) ∧ decode cX4_copyFrom 1 = .ok (.getfield 12, 3) ∧ decode cX4_copyFrom 4 = .ok (.aload_n 1, 1) ∧ decode cX4_copyFrom 5 = .ok (.getfield 12, 3) ∧ decode cX4_copyFrom 8 = .ok (.invokevirtual 52, 3) ∧ decode cX4_copyFrom 11 = .ok (.aload_n 0, 1) ∧ decode cX4_copyFrom 12 = .ok (.getfield 21, 3) ∧ decode cX4_copyFrom 15 = .ok (.aload_n 1, 1) ∧ decode cX4_copyFrom 16 = .ok (.getfield 21, 3) ∧ decode cX4_copyFrom 19 = .ok (.invokevirtual 56, 3) ∧ decode cX4_copyFrom 22 = .ok (.aload_n 0, 1) ∧ decode cX4_copyFrom 23 = .ok (.getfield 28, 3) ∧ decode cX4_copyFrom 26 = .ok (.aload_n 1, 1) ∧ decode cX4_copyFrom 27 = .ok (.getfield 28, 3) ∧ decode cX4_copyFrom 30 = .ok (.invokevirtual 59, 3) ∧ decode cX4_copyFrom 33 = .ok (.aload_n 1, 1) ∧ decode cX4_copyFrom 34 = .ok (.getfield 32, 3) ∧ decode cX4_copyFrom 37 = .ok (.iconst 0, 1) ∧ decode cX4_copyFrom 38 = .ok (.aload_n 0, 1) ∧ decode cX4_copyFrom 39 = .ok (.getfield 32, 3) ∧ decode cX4_copyFrom 42 = .ok (.iconst 0, 1) ∧ decode cX4_copyFrom 43 = .ok (.bipush 6, 2) ∧ decode cX4_copyFrom 45 = .ok (.invokestatic 46, 3) ∧ decode cX4_copyFrom 48 = .ok (.aload_n 0, 1) ∧ decode cX4_copyFrom 49 = .ok (.aload_n 1, 1) ∧ decode cX4_copyFrom 50 = .ok (.getfield 36, 3) ∧ decode cX4_copyFrom 53 = .ok (.putfield 36, 3) ∧ decode cX4_copyFrom 56 = .ok (.aload_n 0, 1) ∧ decode cX4_copyFrom 57 = .ok (.aload_n 1, 1) ∧ decode cX4_copyFrom 58 = .ok (.getfield 62, 3) ∧ decode cX4_copyFrom 61 = .ok (.putfield 62, 3) ∧ decode cX4_copyFrom 64 = .ok (.aload_n 0, 1) ∧ decode cX4_copyFrom 65 = .ok (.aload_n 1, 1) ∧ decode cX4_copyFrom 66 = .ok (.getfield 40, 3) ∧ decode cX4_copyFrom 69 = .ok (.putfield 40, 3) ∧ decode cX4_copyFrom 72 = .ok (.aload_n 0, 1) ∧ decode cX4_copyFrom 73 = .ok (.aload_n 1, 1) ∧ decode cX4_copyFrom 74 = .ok (.getfield 65, 3) ∧ decode cX4_copyFrom 77 = .ok (.putfield 65, 3) ∧ decode cX4_copyFrom 80 = .ok (.aload_n 0, 1) ∧ True := dq_of (l := (0, .aload_n 0, 1) :: (1, .getfield 12, 3) :: (4, .aload_n 1, 1) :: (5, .getfield 12, 3) :: (8, .invokevirtual 52, 3) :: (11, .aload_n 0, 1) :: (12, .getfield 21, 3) :: (15, .aload_n 1, 1) :: (16, .getfield 21, 3) :: (19, .invokevirtual 56, 3) :: (22, .aload_n 0, 1) :: (23, .getfield 28, 3) :: (26, .aload_n 1, 1) :: (27, .getfield 28, 3) :: (30, .invokevirtual 59, 3) :: (33, .aload_n 1, 1) :: (34, .getfield 32, 3) :: (37, .iconst 0, 1) :: (38, .aload_n 0, 1) :: (39, .getfield 32, 3) :: (42, .iconst 0, 1) :: (43, .bipush 6, 2) :: (45, .invokestatic 46, 3) :: (48, .aload_n 0, 1) :: (49, .aload_n 1, 1) :: (50, .getfield 36, 3) :: (53, .putfield 36, 3) :: (56, .aload_n 0, 1) :: (57, .aload_n 1, 1) :: (58, .getfield 62, 3) :: (61, .putfield 62, 3) :: (64, .aload_n 0, 1) :: (65, .aload_n 1, 1) :: (66, .getfield 40, 3) :: (69, .putfield 40, 3) :: (72, .aload_n 0, 1) :: (73, .aload_n 1, 1) :: (74, .getfield 65, 3) :: (77, .putfield 65, 3) :: (80, .aload_n 0, 1) :: []) (by decide +kernel)
theorem e_X4_copyFrom_0 : decode cX4_copyFrom 0 = .ok (.aload_n 0, 1) := D_X4_copyFrom_0.1
theorem e_X4_copyFrom_1 : decode cX4_copyFrom 1 = .ok (.getfield 12, 3) := D_X4_copyFrom_0.2.1
theorem e_X4_copyFrom_4 : decode cX4_copyFrom 4 = .ok (.aload_n 1, 1) := D_X4_copyFrom_0.2.2.1
theorem e_X4_copyFrom_5 : decode cX4_copyFrom 5 = .ok (.getfield 12, 3) := D_X4_copyFrom_0.2.2.2.1
theorem e_X4_copyFrom_8 : decode cX4_copyFrom 8 = .ok (.invokevirtual 52, 3) := D_X4_copyFrom_0.2.2.2.2.1
theorem e_X4_copyFrom_11 : decode cX4_copyFrom 11 = .ok (.aload_n 0, 1) := D_X4_copyFrom_0.2.2.2.2.2.1
theorem e_X4_copyFrom_12 : decode cX4_copyFrom 12 = .ok (.getfield 21, 3) := D_X4_copyFrom_0.2.2.2.2.2.2.1
theorem e_X4_copyFrom_15 : decode cX4_copyFrom 15 = .ok (.aload_n 1, 1) := D_X4_copyFrom_0.2.2.2.2.2.2.2.1
theorem e_X4_copyFrom_16 : decode cX4_copyFrom 16 = .ok (.getfield 21, 3) := D_X4_copyFrom_0.2.2.2.2.2.2.2.2.1
theorem e_X4_copyFrom_19 : decode cX4_copyFrom 19 = .ok (.invokevirtual 56, 3) := D_X4_copyFrom_0.2.2.2.2.2.2.2.2.2.1
theorem e_X4_copyFrom_22 : decode cX4_copyFrom 22 = .ok (.aload_n 0, 1) := D_X4_copyFrom_0.2.2.2.2.2.2.2.2.2.2.1
theorem e_X4_copyFrom_23 : decode cX4_copyFrom 23 = .ok (.getfield 28, 3) := D_X4_copyFrom_0.2.2.2.2.2.2.2.2.2.2.2.1
theorem e_X4_copyFrom_26 : decode cX4_copyFrom 26 = .ok (.aload_n 1, 1) := D_X4_copyFrom_0.2.2.2.2.2.2.2.2.2.2.2.2.1
theorem e_X4_copyFrom_27 : decode cX4_copyFrom 27 = .ok (.getfield 28, 3) := D_X4_copyFrom_0.2.2.2.2.2.2.2.2.2.2.2.2.2.1
theorem e_X4_copyFrom_30 : decode cX4_copyFrom 30 = .ok (.invokevirtual 59, 3) := D_X4_copyFrom_0.2.2.2.2.2.2.2.2.2.2.2.2.2.2.1
theorem e_X4_copyFrom_33 : decode cX4_copyFrom 33 = .ok (.aload_n 1, 1) := D_X4_copyFrom_0.2.2.2.2.2.2.2.2.2.2.2.2.2.2.2.1
theorem e_X4_copyFrom_34 : decode cX4_copyFrom 34 = .ok (.getfield 32, 3) := D_X4_copyFrom_0.2.2.2.2.2.2.2.2.2.2.2.2.2.2.2.2.1
theorem e_X4_copyFrom_37 : decode cX4_copyFrom 37 = .ok (.iconst 0, 1) := D_X4_copyFrom_0.2.2.2.2.2.2.2.2.2.2.2.2.2.2.2.2.2.1
theorem e_X4_copyFrom_38 : decode cX4_copyFrom 38 = .ok (.aload_n 0, 1) := D_X4_copyFrom_0.2.2.2.2.2.2.2.2.2.2.2.2.2.2.2.2.2.2.1
theorem e_X4_copyFrom_39 : decode cX4_copyFrom 39 = .ok (.getfield 32, 3) := D_X4_copyFrom_0.2.2.2.2.2.2.2.2.2.2.2.2.2.2.2.2.2.2.2.1
theorem e_X4_copyFrom_42 : decode cX4_copyFrom 42 = .ok (.iconst 0, 1) := D_X4_copyFrom_0.2.2.2.2.2.2.2.2.2.2.2.2.2.2.2.2.2.2.2.2.1
theorem e_X4_copyFrom_43 : decode cX4_copyFrom 43 = .ok (.bipush 6, 2) := D_X4_copyFrom_0.2.2.2.2.2.2.2.2.2.2.2.2.2.2.2.2.2.2.2.2.2.1
theorem e_X4_copyFrom_45 : decode cX4_copyFrom 45 = .ok (.invokestatic 46, 3) := D_X4_copyFrom_0.2.2.2.2.2.2.2.2.2.2.2.2.2.2.2.2.2.2.2.2.2.2.1
theorem e_X4_copyFrom_48 : decode cX4_copyFrom 48 = .ok (.aload_n 0, 1) := D_X4_copyFrom_0.2.2.2.2.2.2.2.2.2.2.2.2.2.2.2.2.2.2.2.2.2.2.2.1
theorem e_X4_copyFrom_49 : decode cX4_copyFrom 49 = .ok (.aload_n 1, 1) := D_X4_copyFrom_0.2.2.2.2.2.2.2.2.2.2.2.2.2.2.2.2.2.2.2.2.2.2.2.2.1
theorem e_X4_copyFrom_50 : decode cX4_copyFrom 50 = .ok (.getfield 36, 3) := D_X4_copyFrom_0.2.2.2.2.2.2.2.2.2.2.2.2.2.2.2.2.2.2.2.2.2.2.2.2.2.1
theorem e_X4_copyFrom_53 : decode cX4_copyFrom 53 = .ok (.putfield 36, 3) := D_X4_copyFrom_0.2.2.2.2.2.2.2.2.2.2.2.2.2.2.2.2.2.2.2.2.2.2.2.2.2.2.1
theorem e_X4_copyFrom_56 : decode cX4_copyFrom 56 = .ok (.aload_n 0, 1) := D_X4_copyFrom_0.2.2.2.2.2.2.2.2.2.2.2.2.2.2.2.2.2.2.2.2.2.2.2.2.2.2.2.1
theorem e_X4_copyFrom_57 : decode cX4_copyFrom 57 = .ok (.aload_n 1, 1) := D_X4_copyFrom_0.2.2.2.2.2.2.2.2.2.2.2.2.2.2.2.2.2.2.2.2.2.2.2.2.2.2.2.2.1
theorem e_X4_copyFrom_58 : decode cX4_copyFrom 58 = .ok (.getfield 62, 3) := D_X4_copyFrom_0.2.2.2.2.2.2.2.2.2.2.2.2.2.2.2.2.2.2.2.2.2.2.2.2.2.2.2.2.2.1
theorem e_X4_copyFrom_61 : decode cX4_copyFrom 61 = .ok (.putfield 62, 3) := D_X4_copyFrom_0.2.2.2.2.2.2.2.2.2.2.2.2.2.2.2.2.2.2.2.2.2.2.2.2.2.2.2.2.2.2.1
theorem e_X4_copyFrom_64 : decode cX4_copyFrom 64 = .ok (.aload_n 0, 1) := D_X4_copyFrom_0.2.2.2.2.2.2.2.2.2.2.2.2.2.2.2.2.2.2.2.2.2.2.2.2.2.2.2.2.2.2.2.1
theorem e_X4_copyFrom_65 : decode cX4_copyFrom 65 = .ok (.aload_n 1, 1) := D_X4_copyFrom_0.2.2.2.2.2.2.2.2.2.2.2.2.2.2.2.2.2.2.2.2.2.2.2.2.2.2.2.2.2.2.2.2.1
theorem e_X4_copyFrom_66 : decode cX4_copyFrom 66 = .ok (.getfield 40, 3) := D_X4_copyFrom_0.2.2.2.2.2.2.2.2.2.2.2.2.2.2.2.2.2.2.2.2.2.2.2.2.2.2.2.2.2.2.2.2.2.1
theorem e_X4_copyFrom_69 : decode cX4_copyFrom 69 = .ok (.putfield 40, 3) := D_X4_copyFrom_0.2.2.2.2.2.2.2.2.2.2.2.2.2.2.2.2.2.2.2.2.2.2.2.2.2.2.2.2.2.2.2.2.2.2.1
theorem e_X4_copyFrom_72 : decode cX4_copyFrom 72 = .ok (.aload_n 0, 1) := D_X4_copyFrom_0.2.2.2.2.2.2.2.2.2.2.2.2.2.2.2.2.2.2.2.2.2.2.2.2.2.2.2.2.2.2.2.2.2.2.2.1
theorem e_X4_copyFrom_73 : decode cX4_copyFrom 73 = .ok (.aload_n 1, 1) := D_X4_copyFrom_0.2.2.2.2.2.2.2.2.2.2.2.2.2.2.2.2.2.2.2.2.2.2.2.2.2.2.2.2.2.2.2.2.2.2.2.2.1
theorem e_X4_copyFrom_74 : decode cX4_copyFrom 74 = .ok (.getfield 65, 3) := D_X4_copyFrom_0.2.2.2.2.2.2.2.2.2.2.2.2.2.2.2.2.2.2.2.2.2.2.2.2.2.2.2.2.2.2.2.2.2.2.2.2.2.1
theorem e_X4_copyFrom_77 : decode cX4_copyFrom 77 = .ok (.putfield 65, 3) := D_X4_copyFrom_0.2.2.2.2.2.2.2.2.2.2.2.2.2.2.2.2.2.2.2.2.2.2.2.2.2.2.2.2.2.2.2.2.2.2.2.2.2.2.1
theorem e_X4_copyFrom_80 : decode cX4_copyFrom 80 = .ok (.aload_n 0, 1) := D_X4_copyFrom_0.2.2.2.2.2.2.2.2.2.2.2.2.2.2.2.2.2.2.2.2.2.2.2.2.2.2.2.2.2.2.2.2.2.2.2.2.2.2.2.1
set_option maxRecDepth 100000 in
theorem D_X4_copyFrom_1 : decode cX4_copyFrom 81 = .ok (.aload_n 1, 1) ∧ decode cX4_copyFrom 82 = .ok (.getfield 68, 3) ∧ decode cX4_copyFrom 85 = .ok (.putfield 68, 3) ∧ decode cX4_copyFrom 88 = .ok (.return_, 1) ∧ True := dq_of (l := (81, .aload_n 1, 1) :: (82, .getfield 68, 3) :: (85, .putfield 68, 3) :: (88, .return_, 1) :: []) (by decide +kernel)
theorem e_X4_copyFrom_81 : decode cX4_copyFrom 81 = .ok (.aload_n 1, 1) := D_X4_copyFrom_1.1
theorem e_X4_copyFrom_82 : decode cX4_copyFrom 82 = .ok (.getfield 68, 3) := D_X4_copyFrom_1.2.1
theorem e_X4_copyFrom_85 : decode cX4_copyFrom 85 = .ok (.putfield 68, 3) := D_X4_copyFrom_1.2.2.1
theorem e_X4_copyFrom_88 : decode cX4_copyFrom 88 = .ok (.return_, 1) := D_X4_copyFrom_1.2.2.2.1
set_option maxRecDepth 100000 in
theorem D_X4_letGoBy_0 : decode cX4_letGoBy 0 = .ok (.iload_n 1, 1) ∧ decode cX4_letGoBy 1 = .ok (.istore_n 2, 1) ∧ decode cX4_letGoBy 2 = .ok (.iconst 0, 1) ∧ decode cX4_letGoBy 3 = .ok (.istore_n 3, 1) ∧ decode cX4_letGoBy 4 = .ok (.iload_n 3, 1) ∧ decode cX4_letGoBy 5 = .ok (.iload_n 1, 1) ∧ decode cX4_letGoBy 6 = .ok (.if_icmp .ge 53, 3) ∧ decode cX4_letGoBy 9 = .ok (.iload_n 2, 1) ∧ decode cX4_letGoBy 10 = .ok (.ifCond .le 49, 3) ∧ decode cX4_letGoBy 13 = .ok (.aload_n 0, 1) ∧ decode cX4_letGoBy 14 = .ok (.invokevirtual 71, 3) ∧ decode cX4_letGoBy 17 = .ok (.ifCond .ne 14, 3) ∧ decode cX4_letGoBy 20 = .ok (.iload_n 2, 1) ∧ decode cX4_letGoBy 21 = .ok (.aload_n 0, 1) ∧ decode cX4_letGoBy 22 = .ok (.iload_n 2, 1) ∧ decode cX4_letGoBy 23 = .ok (.invokevirtual 75, 3) ∧ decode cX4_letGoBy 26 = .ok (.isub, 1) ∧ decode cX4_letGoBy 27 = .ok (.istore_n 2, 1) ∧ decode cX4_letGoBy 28 = .ok (.goto 25, 3) ∧ decode cX4_letGoBy 31 = .ok (.aload_n 0, 1) ∧ decode cX4_letGoBy 32 = .ok (.getfield 28, 3) ∧ decode cX4_letGoBy 35 = .ok (.bipush 7, 2) ∧ decode cX4_letGoBy 37 = .ok (.iload_n 2, 1) ∧ decode cX4_letGoBy 38 = .ok (.invokevirtual 79, 3) ∧ decode cX4_letGoBy 41 = .ok (.aload_n 0, 1) ∧ decode cX4_letGoBy 42 = .ok (.getfield 28, 3) ∧ decode cX4_letGoBy 45 = .ok (.bipush 8, 2) ∧ decode cX4_letGoBy 47 = .ok (.iload_n 2, 1) ∧ decode cX4_letGoBy 48 = .ok (.invokevirtual 79, 3) ∧ decode cX4_letGoBy 51 = .ok (.iconst 0, 1) ∧ decode cX4_letGoBy 52 = .ok (.istore_n 2, 1) ∧ decode cX4_letGoBy 53 = .ok (.iinc 3 1, 3) ∧ decode cX4_letGoBy 56 = .ok (.goto (-52), 3) ∧ decode cX4_letGoBy 59 = .ok (.return_, 1) ∧ True := dq_of (l := (0, .iload_n 1, 1) :: (1, .istore_n 2, 1) :: (2, .iconst 0, 1) :: (3, .istore_n 3, 1) :: (4, .iload_n 3, 1) :: (5, .iload_n 1, 1) :: (6, .if_icmp .ge 53, 3) :: (9, .iload_n 2, 1) :: (10, .ifCond .le 49, 3) :: (13, .aload_n 0, 1) :: (14, .invokevirtual 71, 3) :: (17, .ifCond .ne 14, 3) :: (20, .iload_n 2, 1) :: (21, .aload_n 0, 1) :: (22, .iload_n 2, 1) :: (23, .invokevirtual 75, 3) :: (26, .isub, 1) :: (27, .istore_n 2, 1) :: (28, .goto 25, 3) :: (31, .aload_n 0, 1) :: (32, .getfield 28, 3) :: (35, .bipush 7, 2) :: (37, .iload_n 2, 1) :: (38, .invokevirtual 79, 3) :: (41, .aload_n 0, 1) :: (42, .getfield 28, 3) :: (45, .bipush 8, 2) :: (47, .iload_n 2, 1) :: (48, .invokevirtual 79, 3) :: (51, .iconst 0, 1) :: (52, .istore_n 2, 1) :: (53, .iinc 3 1, 3) :: (56, .goto (-52), 3) :: (59, .return_, 1) :: []) (by decide +kernel)
theorem e_X4_letGoBy_0 : decode cX4_letGoBy 0 = .ok (.iload_n 1, 1) := D_X4_letGoBy_0.1
theorem e_X4_letGoBy_1 : decode cX4_letGoBy 1 = .ok (.istore_n 2, 1) := D_X4_letGoBy_0.2.1
theorem e_X4_letGoBy_2 : decode cX4_letGoBy 2 = .ok (.iconst 0, 1) := D_X4_letGoBy_0.2.2.1
theorem e_X4_letGoBy_3 : decode cX4_letGoBy 3 = .ok (.istore_n 3, 1) := D_X4_letGoBy_0.2.2.2.1
theorem e_X4_letGoBy_4 : decode cX4_letGoBy 4 = .ok (.iload_n 3, 1) := D_X4_letGoBy_0.2.2.2.2.1
theorem e_X4_letGoBy_5 : decode cX4_letGoBy 5 = .ok (.iload_n 1, 1) := D_X4_letGoBy_0.2.2.2.2.2.1
theorem e_X4_letGoBy_6 : decode cX4_letGoBy 6 = .ok (.if_icmp .ge 53, 3) := D_X4_letGoBy_0.2.2.2.2.2.2.1
theorem e_X4_letGoBy_9 : decode cX4_letGoBy 9 = .ok (.iload_n 2, 1) := D_X4_letGoBy_0.2.2.2.2.2.2.2.1
theorem e_X4_letGoBy_10 : decode cX4_letGoBy 10 = .ok (.ifCond .le 49, 3) := D_X4_letGoBy_0.2.2.2.2.2.2.2.2.1
theorem e_X4_letGoBy_13 : decode cX4_letGoBy 13 = .ok (.aload_n 0, 1) := D_X4_letGoBy_0.2.2.2.2.2.2.2.2.2.1
theorem e_X4_letGoBy_14 : decode cX4_letGoBy 14 = .ok (.invokevirtual 71, 3) := D_X4_letGoBy_0.2.2.2.2.2.2.2.2.2.2.1
theorem e_X4_letGoBy_17 : decode cX4_letGoBy 17 = .ok (.ifCond .ne 14, 3) := D_X4_letGoBy_0.2.2.2.2.2.2.2.2.2.2.2.1
theorem e_X4_letGoBy_20 : decode cX4_letGoBy 20 = .ok (.iload_n 2, 1) := D_X4_letGoBy_0.2.2.2.2.2.2.2.2.2.2.2.2.1
theorem e_X4_letGoBy_21 : decode cX4_letGoBy 21 = .ok (.aload_n 0, 1) := D_X4_letGoBy_0.2.2.2.2.2.2.2.2.2.2.2.2.2.1
theorem e_X4_letGoBy_22 : decode cX4_letGoBy 22 = .ok (.iload_n 2, 1) := D_X4_letGoBy_0.2.2.2.2.2.2.2.2.2.2.2.2.2.2.1
theorem e_X4_letGoBy_23 : decode cX4_letGoBy 23 = .ok (.invokevirtual 75, 3) := D_X4_letGoBy_0.2.2.2.2.2.2.2.2.2.2.2.2.2.2.2.1
theorem e_X4_letGoBy_26 : decode cX4_letGoBy 26 = .ok (.isub, 1) := D_X4_letGoBy_0.2.2.2.2.2.2.2.2.2.2.2.2.2.2.2.2.1
theorem e_X4_letGoBy_27 : decode cX4_letGoBy 27 = .ok (.istore_n 2, 1) := D_X4_letGoBy_0.2.2.2.2.2.2.2.2.2.2.2.2.2.2.2.2.2.1
theorem e_X4_letGoBy_28 : decode cX4_letGoBy 28 = .ok (.goto 25, 3) := D_X4_letGoBy_0.2.2.2.2.2.2.2.2.2.2.2.2.2.2.2.2.2.2.1
theorem e_X4_letGoBy_31 : decode cX4_letGoBy 31 = .ok (.aload_n 0, 1) := D_X4_letGoBy_0.2.2.2.2.2.2.2.2.2.2.2.2.2.2.2.2.2.2.2.1
theorem e_X4_letGoBy_32 : decode cX4_letGoBy 32 = .ok (.getfield 28, 3) := D_X4_letGoBy_0.2.2.2.2.2.2.2.2.2.2.2.2.2.2.2.2.2.2.2.2.1
theorem e_X4_letGoBy_35 : decode cX4_letGoBy 35 = .ok (.bipush 7, 2) := D_X4_letGoBy_0.2.2.2.2.2.2.2.2.2.2.2.2.2.2.2.2.2.2.2.2.2.1
theorem e_X4_letGoBy_37 : decode cX4_letGoBy 37 = .ok (.iload_n 2, 1) := D_X4_letGoBy_0.2.2.2.2.2.2.2.2.2.2.2.2.2.2.2.2.2.2.2.2.2.2.1
theorem e_X4_letGoBy_38 : decode cX4_letGoBy 38 = .ok (.invokevirtual 79, 3) := D_X4_letGoBy_0.2.2.2.2.2.2.2.2.2.2.2.2.2.2.2.2.2.2.2.2.2.2.2.1
theorem e_X4_letGoBy_41 : decode cX4_letGoBy 41 = .ok (.aload_n 0, 1) := D_X4_letGoBy_0.2.2.2.2.2.2.2.2.2.2.2.2.2.2.2.2.2.2.2.2.2.2.2.2.1
theorem e_X4_letGoBy_42 : decode cX4_letGoBy 42 = .ok (.getfield 28, 3) := D_X4_letGoBy_0.2.2.2.2.2.2.2.2.2.2.2.2.2.2.2.2.2.2.2.2.2.2.2.2.2.1
theorem e_X4_letGoBy_45 : decode cX4_letGoBy 45 = .ok (.bipush 8, 2) := D_X4_letGoBy_0.2.2.2.2.2.2.2.2.2.2.2.2.2.2.2.2.2.2.2.2.2.2.2.2.2.2.1
theorem e_X4_letGoBy_47 : decode cX4_letGoBy 47 = .ok (.iload_n 2, 1) := D_X4_letGoBy_0.2.2.2.2.2.2.2.2.2.2.2.2.2.2.2.2.2.2.2.2.2.2.2.2.2.2.2.1
theorem e_X4_letGoBy_48 : decode cX4_letGoBy 48 = .ok (.invokevirtual 79, 3) := D_X4_letGoBy_0.2.2.2.2.2.2.2.2.2.2.2.2.2.2.2.2.2.2.2.2.2.2.2.2.2.2.2.2.1
theorem e_X4_letGoBy_51 : decode cX4_letGoBy 51 = .ok (.iconst 0, 1) := D_X4_letGoBy_0.2.2.2.2.2.2.2.2.2.2.2.2.2.2.2.2.2.2.2.2.2.2.2.2.2.2.2.2.2.1
theorem e_X4_letGoBy_52 : decode cX4_letGoBy 52 = .ok (.istore_n 2, 1) := D_X4_letGoBy_0.2.2.2.2.2.2.2.2.2.2.2.2.2.2.2.2.2.2.2.2.2.2.2.2.2.2.2.2.2.2.1
theorem e_X4_letGoBy_53 : decode cX4_letGoBy 53 = .ok (.iinc 3 1, 3) := D_X4_letGoBy_0.2.2.2.2.2.2.2.2.2.2.2.2.2.2.2.2.2.2.2.2.2.2.2.2.2.2.2.2.2.2.2.1
theorem e_X4_letGoBy_56 : decode cX4_letGoBy 56 = .ok (.goto (-52), 3) := D_X4_letGoBy_0.2.2.2.2.2.2.2.2.2.2.2.2.2.2.2.2.2.2.2.2.2.2.2.2.2.2.2.2.2.2.2.2.1
theorem e_X4_letGoBy_59 : decode cX4_letGoBy 59 = .ok (.return_, 1) := D_X4_letGoBy_0.2.2.2.2.2.2.2.2.2.2.2.2.2.2.2.2.2.2.2.2.2.2.2.2.2.2.2.2.2.2.2.2.2.1
set_option maxRecDepth 100000 in
theorem D_X4_ticksUntilGone_0 : decode cX4_ticksUntilGone 0 = .ok (.iconst 0, 1) ∧ decode cX4_ticksUntilGone 1 = .ok (.istore_n 2, 1) ∧ decode cX4_ticksUntilGone 2 = .ok (.iconst 0, 1) ∧ decode cX4_ticksUntilGone 3 = .ok (.istore_n 3, 1) ∧ decode cX4_ticksUntilGone 4 = .ok (.iload_n 3, 1) ∧ decode cX4_ticksUntilGone 5 = .ok (.sipush 20000, 3) ∧ decode cX4_ticksUntilGone 8 = .ok (.if_icmp .ge 70, 3) ∧ decode cX4_ticksUntilGone 11 = .ok (.iload_n 2, 1) ∧ decode cX4_ticksUntilGone 12 = .ok (.sipush 20000, 3) ∧ decode cX4_ticksUntilGone 15 = .ok (.if_icmp .ge 63, 3) ∧ decode cX4_ticksUntilGone 18 = .ok (.aload_n 0, 1) ∧ decode cX4_ticksUntilGone 19 = .ok (.invokevirtual 71, 3) ∧ decode cX4_ticksUntilGone 22 = .ok (.istore 4, 2) ∧ decode cX4_ticksUntilGone 24 = .ok (.aload_n 0, 1) ∧ decode cX4_ticksUntilGone 25 = .ok (.getfield 21, 3) ∧ decode cX4_ticksUntilGone 28 = .ok (.iload_n 1, 1) ∧ decode cX4_ticksUntilGone 29 = .ok (.invokevirtual 83, 3) ∧ decode cX4_ticksUntilGone 32 = .ok (.ifnonnull 7, 3) ∧ decode cX4_ticksUntilGone 35 = .ok (.iload_n 2, 1) ∧ decode cX4_ticksUntilGone 36 = .ok (.iconst 1, 1) ∧ decode cX4_ticksUntilGone 37 = .ok (.iadd, 1) ∧ decode cX4_ticksUntilGone 38 = .ok (.ireturn, 1) ∧ decode cX4_ticksUntilGone 39 = .ok (.iload 4, 2) ∧ decode cX4_ticksUntilGone 41 = .ok (.ifCond .eq 6, 3) ∧ decode cX4_ticksUntilGone 44 = .ok (.bipush (-4), 2) ∧ decode cX4_ticksUntilGone 46 = .ok (.ireturn, 1) ∧ decode cX4_ticksUntilGone 47 = .ok (.iload_n 2, 1) ∧ decode cX4_ticksUntilGone 48 = .ok (.aload_n 0, 1) ∧ decode cX4_ticksUntilGone 49 = .ok (.sipush 20000, 3) ∧ decode cX4_ticksUntilGone 52 = .ok (.iload_n 2, 1) ∧ decode cX4_ticksUntilGone 53 = .ok (.isub, 1) ∧ decode cX4_ticksUntilGone 54 = .ok (.invokevirtual 75, 3) ∧ decode cX4_ticksUntilGone 57 = .ok (.iadd, 1) ∧ decode cX4_ticksUntilGone 58 = .ok (.istore_n 2, 1) ∧ decode cX4_ticksUntilGone 59 = .ok (.aload_n 0, 1) ∧ decode cX4_ticksUntilGone 60 = .ok (.getfield 21, 3) ∧ decode cX4_ticksUntilGone 63 = .ok (.iload_n 1, 1) ∧ decode cX4_ticksUntilGone 64 = .ok (.invokevirtual 83, 3) ∧ decode cX4_ticksUntilGone 67 = .ok (.ifnonnull 5, 3) ∧ decode cX4_ticksUntilGone 70 = .ok (.iload_n 2, 1) ∧ True := dq_of (l := (0, .iconst 0, 1) :: (1, .istore_n 2, 1) :: (2, .iconst 0, 1) :: (3, .istore_n 3, 1) :: (4, .iload_n 3, 1) :: (5, .sipush 20000, 3) :: (8, .if_icmp .ge 70, 3) :: (11, .iload_n 2, 1) :: (12, .sipush 20000, 3) :: (15, .if_icmp .ge 63, 3) :: (18, .aload_n 0, 1) :: (19, .invokevirtual 71, 3) :: (22, .istore 4, 2) :: (24, .aload_n 0, 1) :: (25, .getfield 21, 3) :: (28, .iload_n 1, 1) :: (29, .invokevirtual 83, 3) :: (32, .ifnonnull 7, 3) :: (35, .iload_n 2, 1) :: (36, .iconst 1, 1) :: (37, .iadd, 1) :: (38, .ireturn, 1) :: (39, .iload 4, 2) :: (41, .ifCond .eq 6, 3) :: (44, .bipush (-4), 2) :: (46, .ireturn, 1) :: (47, .iload_n 2, 1) :: (48, .aload_n 0, 1) :: (49, .sipush 20000, 3) :: (52, .iload_n 2, 1) :: (53, .isub, 1) :: (54, .invokevirtual 75, 3) :: (57, .iadd, 1) :: (58, .istore_n 2, 1) :: (59, .aload_n 0, 1) :: (60, .getfield 21, 3) :: (63, .iload_n 1, 1) :: (64, .invokevirtual 83, 3) :: (67, .ifnonnull 5, 3) :: (70, .iload_n 2, 1) :: []) (by decide +kernel)
theorem e_X4_ticksUntilGone_0 : decode cX4_ticksUntilGone 0 = .ok (.iconst 0, 1) := D_X4_ticksUntilGone_0.1
theorem e_X4_ticksUntilGone_1 : decode cX4_ticksUntilGone 1 = .ok (.istore_n 2, 1) := D_X4_ticksUntilGone_0.2.1
theorem e_X4_ticksUntilGone_2 : decode cX4_ticksUntilGone 2 = .ok (.iconst 0, 1) := D_X4_ticksUntilGone_0.2.2.1
theorem e_X4_ticksUntilGone_3 : decode cX4_ticksUntilGone 3 = .ok (.istore_n 3, 1) := D_X4_ticksUntilGone_0.2.2.2.1
theorem e_X4_ticksUntilGone_4 : decode cX4_ticksUntilGone 4 = .ok (.iload_n 3, 1) := D_X4_ticksUntilGone_0.2.2.2.2.1
theorem e_X4_ticksUntilGone_5 : decode cX4_ticksUntilGone 5 = .ok (.sipush 20000, 3) := D_X4_ticksUntilGone_0.2.2.2.2.2.1
theorem e_X4_ticksUntilGone_8 : decode cX4_ticksUntilGone 8 = .ok (.if_icmp .ge 70, 3) := D_X4_ticksUntilGone_0.2.2.2.2.2.2.1
theorem e_X4_ticksUntilGone_11 : decode cX4_ticksUntilGone 11 = .ok (.iload_n 2, 1) := D_X4_ticksUntilGone_0.2.2.2.2.2.2.2.1
theorem e_X4_ticksUntilGone_12 : decode cX4_ticksUntilGone 12 = .ok (.sipush 20000, 3) := D_X4_ticksUntilGone_0.2.2.2.2.2.2.2.2.1
theorem e_X4_ticksUntilGone_15 : decode cX4_ticksUntilGone 15 = .ok (.if_icmp .ge 63, 3) := D_X4_ticksUntilGone_0.2.2.2.2.2.2.2.2.2.1
theorem e_X4_ticksUntilGone_18 : decode cX4_ticksUntilGone 18 = .ok (.aload_n 0, 1) := D_X4_ticksUntilGone_0.2.2.2.2.2.2.2.2.2.2.1
theorem e_X4_ticksUntilGone_19 : decode cX4_ticksUntilGone 19 = .ok (.invokevirtual 71, 3) := D_X4_ticksUntilGone_0.2.2.2.2.2.2.2.2.2.2.2.1
theorem e_X4_ticksUntilGone_22 : decode cX4_ticksUntilGone 22 = .ok (.istore 4, 2) := D_X4_ticksUntilGone_0.2.2.2.2.2.2.2.2.2.2.2.2.1
theorem e_X4_ticksUntilGone_24 : decode cX4_ticksUntilGone 24 = .ok (.aload_n 0, 1) := D_X4_ticksUntilGone_0.2.2.2.2.2.2.2.2.2.2.2.2.2.1
theorem e_X4_ticksUntilGone_25 : decode cX4_ticksUntilGone 25 = .ok (.getfield 21, 3) := D_X4_ticksUntilGone_0.2.2.2.2.2.2.2.2.2.2.2.2.2.2.1
theorem e_X4_ticksUntilGone_28 : decode cX4_ticksUntilGone 28 = .ok (.iload_n 1, 1) := D_X4_ticksUntilGone_0.2.2.2.2.2.2.2.2.2.2.2.2.2.2.2.1
theorem e_X4_ticksUntilGone_29 : decode cX4_ticksUntilGone 29 = .ok (.invokevirtual 83, 3) := D_X4_ticksUntilGone_0.2.2.2.2.2.2.2.2.2.2.2.2.2.2.2.2.1
theorem e_X4_ticksUntilGone_32 : decode cX4_ticksUntilGone 32 = .ok (.ifnonnull 7, 3) := D_X4_ticksUntilGone_0.2.2.2.2.2.2.2.2.2.2.2.2.2.2.2.2.2.1
theorem e_X4_ticksUntilGone_35 : decode cX4_ticksUntilGone 35 = .ok (.iload_n 2, 1) := D_X4_ticksUntilGone_0.2.2.2.2.2.2.2.2.2.2.2.2.2.2.2.2.2.2.1
theorem e_X4_ticksUntilGone_36 : decode cX4_ticksUntilGone 36 = .ok (.iconst 1, 1) := D_X4_ticksUntilGone_0.2.2.2.2.2.2.2.2.2.2.2.2.2.2.2.2.2.2.2.1
theorem e_X4_ticksUntilGone_37 : decode cX4_ticksUntilGone 37 = .ok (.iadd, 1) := D_X4_ticksUntilGone_0.2.2.2.2.2.2.2.2.2.2.2.2.2.2.2.2.2.2.2.2.1
theorem e_X4_ticksUntilGone_38 : decode cX4_ticksUntilGone 38 = .ok (.ireturn, 1) := D_X4_ticksUntilGone_0.2.2.2.2.2.2.2.2.2.2.2.2.2.2.2.2.2.2.2.2.2.1
theorem e_X4_ticksUntilGone_39 : decode cX4_ticksUntilGone 39 = .ok (.iload 4, 2) := D_X4_ticksUntilGone_0.2.2.2.2.2.2.2.2.2.2.2.2.2.2.2.2.2.2.2.2.2.2.1
theorem e_X4_ticksUntilGone_41 : decode cX4_ticksUntilGone 41 = .ok (.ifCond .eq 6, 3) := D_X4_ticksUntilGone_0.2.2.2.2.2.2.2.2.2.2.2.2.2.2.2.2.2.2.2.2.2.2.2.1
theorem e_X4_ticksUntilGone_44 : decode cX4_ticksUntilGone 44 = .ok (.bipush (-4), 2) := D_X4_ticksUntilGone_0.2.2.2.2.2.2.2.2.2.2.2.2.2.2.2.2.2.2.2.2.2.2.2.2.1
theorem e_X4_ticksUntilGone_46 : decode cX4_ticksUntilGone 46 = .ok (.ireturn, 1) := D_X4_ticksUntilGone_0.2.2.2.2.2.2.2.2.2.2.2.2.2.2.2.2.2.2.2.2.2.2.2.2.2.1
theorem e_X4_ticksUntilGone_47 : decode cX4_ticksUntilGone 47 = .ok (.iload_n 2, 1) := D_X4_ticksUntilGone_0.2.2.2.2.2.2.2.2.2.2.2.2.2.2.2.2.2.2.2.2.2.2.2.2.2.2.1
theorem e_X4_ticksUntilGone_48 : decode cX4_ticksUntilGone 48 = .ok (.aload_n 0, 1) := D_X4_ticksUntilGone_0.2.2.2.2.2.2.2.2.2.2.2.2.2.2.2.2.2.2.2.2.2.2.2.2.2.2.2.1
theorem e_X4_ticksUntilGone_49 : decode cX4_ticksUntilGone 49 = .ok (.sipush 20000, 3) := D_X4_ticksUntilGone_0.2.2.2.2.2.2.2.2.2.2.2.2.2.2.2.2.2.2.2.2.2.2.2.2.2.2.2.2.1
theorem e_X4_ticksUntilGone_52 : decode cX4_ticksUntilGone 52 = .ok (.iload_n 2, 1) := D_X4_ticksUntilGone_0.2.2.2.2.2.2.2.2.2.2.2.2.2.2.2.2.2.2.2.2.2.2.2.2.2.2.2.2.2.1
theorem e_X4_ticksUntilGone_53 : decode cX4_ticksUntilGone 53 = .ok (.isub, 1) := D_X4_ticksUntilGone_0.2.2.2.2.2.2.2.2.2.2.2.2.2.2.2.2.2.2.2.2.2.2.2.2.2.2.2.2.2.2.1
theorem e_X4_ticksUntilGone_54 : decode cX4_ticksUntilGone 54 = .ok (.invokevirtual 75, 3) := D_X4_ticksUntilGone_0.2.2.2.2.2.2.2.2.2.2.2.2.2.2.2.2.2.2.2.2.2.2.2.2.2.2.2.2.2.2.2.1
theorem e_X4_ticksUntilGone_57 : decode cX4_ticksUntilGone 57 = .ok (.iadd, 1) := D_X4_ticksUntilGone_0.2.2.2.2.2.2.2.2.2.2.2.2.2.2.2.2.2.2.2.2.2.2.2.2.2.2.2.2.2.2.2.2.1
theorem e_X4_ticksUntilGone_58 : decode cX4_ticksUntilGone 58 = .ok (.istore_n 2, 1) := D_X4_ticksUntilGone_0.2.2.2.2.2.2.2.2.2.2.2.2.2.2.2.2.2.2.2.2.2.2.2.2.2.2.2.2.2.2.2.2.2.1
theorem e_X4_ticksUntilGone_59 : decode cX4_ticksUntilGone 59 = .ok (.aload_n 0, 1) := D_X4_ticksUntilGone_0.2.2.2.2.2.2.2.2.2.2.2.2.2.2.2.2.2.2.2.2.2.2.2.2.2.2.2.2.2.2.2.2.2.2.1
theorem e_X4_ticksUntilGone_60 : decode cX4_ticksUntilGone 60 = .ok (.getfield 21, 3) := D_X4_ticksUntilGone_0.2.2.2.2.2.2.2.2.2.2.2.2.2.2.2.2.2.2.2.2.2.2.2.2.2.2.2.2.2.2.2.2.2.2.2.1
theorem e_X4_ticksUntilGone_63 : decode cX4_ticksUntilGone 63 = .ok (.iload_n 1, 1) := D_X4_ticksUntilGone_0.2.2.2.2.2.2.2.2.2.2.2.2.2.2.2.2.2.2.2.2.2.2.2.2.2.2.2.2.2.2.2.2.2.2.2.2.1
theorem e_X4_ticksUntilGone_64 : decode cX4_ticksUntilGone 64 = .ok (.invokevirtual 83, 3) := D_X4_ticksUntilGone_0.2.2.2.2.2.2.2.2.2.2.2.2.2.2.2.2.2.2.2.2.2.2.2.2.2.2.2.2.2.2.2.2.2.2.2.2.2.1
theorem e_X4_ticksUntilGone_67 : decode cX4_ticksUntilGone 67 = .ok (.ifnonnull 5, 3) := D_X4_ticksUntilGone_0.2.2.2.2.2.2.2.2.2.2.2.2.2.2.2.2.2.2.2.2.2.2.2.2.2.2.2.2.2.2.2.2.2.2.2.2.2.2.1
theorem e_X4_ticksUntilGone_70 : decode cX4_ticksUntilGone 70 = .ok (.iload_n 2, 1) := D_X4_ticksUntilGone_0.2.2.2.2.2.2.2.2.2.2.2.2.2.2.2.2.2.2.2.2.2.2.2.2.2.2.2.2.2.2.2.2.2.2.2.2.2.2.2.1
set_option maxRecDepth 100000 in
theorem D_X4_ticksUntilGone_1 : decode cX4_ticksUntilGone 71 = .ok (.ireturn, 1) ∧ decode cX4_ticksUntilGone 72 = .ok (.iinc 3 1, 3) ∧ decode cX4_ticksUntilGone 75 = .ok (.goto (-71), 3) ∧ decode cX4_ticksUntilGone 78 = .ok (.bipush (-4), 2) ∧ decode cX4_ticksUntilGone 80 = .ok (.ireturn, 1) ∧ True := dq_of (l := (71, .ireturn, 1) :: (72, .iinc 3 1, 3) :: (75, .goto (-71), 3) :: (78, .bipush (-4), 2) :: (80, .ireturn, 1) :: []) (by decide +kernel)
theorem e_X4_ticksUntilGone_71 : decode cX4_ticksUntilGone 71 = .ok (.ireturn, 1) := D_X4_ticksUntilGone_1.1
theorem e_X4_ticksUntilGone_72 : decode cX4_ticksUntilGone 72 = .ok (.iinc 3 1, 3) := D_X4_ticksUntilGone_1.2.1
theorem e_X4_ticksUntilGone_75 : decode cX4_ticksUntilGone 75 = .ok (.goto (-71), 3) := D_X4_ticksUntilGone_1.2.2.1
theorem e_X4_ticksUntilGone_78 : decode cX4_ticksUntilGone 78 = .ok (.bipush (-4), 2) := D_X4_ticksUntilGone_1.2.2.2.1
theorem e_X4_ticksUntilGone_80 : decode cX4_ticksUntilGone 80 = .ok (.ireturn, 1) := D_X4_ticksUntilGone_1.2.2.2.2.1
set_option maxRecDepth 100000 in
theorem D_X4_findWork_0 : decode cX4_findWork 0 = .ok (.iconst 0, 1) ∧ decode cX4_findWork 1 = .ok (.istore_n 1, 1) ∧ decode cX4_findWork 2 = .ok (.aload_n 0, 1) ∧ decode cX4_findWork 3 = .ok (.getfield 40, 3) ∧ decode cX4_findWork 6 = .ok (.ifCond .ne 62, 3) ∧ decode cX4_findWork 9 = .ok (.iload_n 1, 1) ∧ decode cX4_findWork 10 = .ok (.sipush 500, 3) ∧ decode cX4_findWork 13 = .ok (.if_icmp .gt 55, 3) ∧ decode cX4_findWork 16 = .ok (.aload_n 0, 1) ∧ decode cX4_findWork 17 = .ok (.getfield 21, 3) ∧ decode cX4_findWork 20 = .ok (.invokevirtual 87, 3) ∧ decode cX4_findWork 23 = .ok (.astore_n 2, 1) ∧ decode cX4_findWork 24 = .ok (.aload_n 2, 1) ∧ decode cX4_findWork 25 = .ok (.ifnonnull 5, 3) ∧ decode cX4_findWork 28 = .ok (.iconst 1, 1) ∧ decode cX4_findWork 29 = .ok (.ireturn, 1) ∧ decode cX4_findWork 30 = .ok (.aload_n 0, 1) ∧ decode cX4_findWork 31 = .ok (.aload_n 2, 1) ∧ decode cX4_findWork 32 = .ok (.invokevirtual 91, 3) ∧ decode cX4_findWork 35 = .ok (.istore_n 3, 1) ∧ decode cX4_findWork 36 = .ok (.iload_n 3, 1) ∧ decode cX4_findWork 37 = .ok (.ifCond .eq 5, 3) ∧ decode cX4_findWork 40 = .ok (.iload_n 3, 1) ∧ decode cX4_findWork 41 = .ok (.ireturn, 1) ∧ decode cX4_findWork 42 = .ok (.aload_n 2, 1) ∧ decode cX4_findWork 43 = .ok (.invokevirtual 95, 3) ∧ decode cX4_findWork 46 = .ok (.ifCond .eq 11, 3) ∧ decode cX4_findWork 49 = .ok (.aload_n 0, 1) ∧ decode cX4_findWork 50 = .ok (.aload_n 2, 1) ∧ decode cX4_findWork 51 = .ok (.invokevirtual 101, 3) ∧ decode cX4_findWork 54 = .ok (.goto 8, 3) ∧ decode cX4_findWork 57 = .ok (.aload_n 0, 1) ∧ decode cX4_findWork 58 = .ok (.aload_n 2, 1) ∧ decode cX4_findWork 59 = .ok (.invokevirtual 105, 3) ∧ decode cX4_findWork 62 = .ok (.iinc 1 1, 3) ∧ decode cX4_findWork 65 = .ok (.goto (-63), 3) ∧ decode cX4_findWork 68 = .ok (.iconst 0, 1) ∧ decode cX4_findWork 69 = .ok (.ireturn, 1) ∧ True := dq_of (l := (0, .iconst 0, 1) :: (1, .istore_n 1, 1) :: (2, .aload_n 0, 1) :: (3, .getfield 40, 3) :: (6, .ifCond .ne 62, 3) :: (9, .iload_n 1, 1) :: (10, .sipush 500, 3) :: (13, .if_icmp .gt 55, 3) :: (16, .aload_n 0, 1) :: (17, .getfield 21, 3) :: (20, .invokevirtual 87, 3) :: (23, .astore_n 2, 1) :: (24, .aload_n 2, 1) :: (25, .ifnonnull 5, 3) :: (28, .iconst 1, 1) :: (29, .ireturn, 1) :: (30, .aload_n 0, 1) :: (31, .aload_n 2, 1) :: (32, .invokevirtual 91, 3) :: (35, .istore_n 3, 1) :: (36, .iload_n 3, 1) :: (37, .ifCond .eq 5, 3) :: (40, .iload_n 3, 1) :: (41, .ireturn, 1) :: (42, .aload_n 2, 1) :: (43, .invokevirtual 95, 3) :: (46, .ifCond .eq 11, 3) :: (49, .aload_n 0, 1) :: (50, .aload_n 2, 1) :: (51, .invokevirtual 101, 3) :: (54, .goto 8, 3) :: (57, .aload_n 0, 1) :: (58, .aload_n 2, 1) :: (59, .invokevirtual 105, 3) :: (62, .iinc 1 1, 3) :: (65, .goto (-63), 3) :: (68, .iconst 0, 1) :: (69, .ireturn, 1) :: []) (by decide +kernel)
theorem e_X4_findWork_0 : decode cX4_findWork 0 = .ok (.iconst 0, 1) := D_X4_findWork_0.1
theorem e_X4_findWork_1 : decode cX4_findWork 1 = .ok (.istore_n 1, 1) := D_X4_findWork_0.2.1
theorem e_X4_findWork_2 : decode cX4_findWork 2 = .ok (.aload_n 0, 1) := D_X4_findWork_0.2.2.1
theorem e_X4_findWork_3 : decode cX4_findWork 3 = .ok (.getfield 40, 3) := D_X4_findWork_0.2.2.2.1
theorem e_X4_findWork_6 : decode cX4_findWork 6 = .ok (.ifCond .ne 62, 3) := D_X4_findWork_0.2.2.2.2.1
theorem e_X4_findWork_9 : decode cX4_findWork 9 = .ok (.iload_n 1, 1) := D_X4_findWork_0.2.2.2.2.2.1
theorem e_X4_findWork_10 : decode cX4_findWork 10 = .ok (.sipush 500, 3) := D_X4_findWork_0.2.2.2.2.2.2.1
theorem e_X4_findWork_13 : decode cX4_findWork 13 = .ok (.if_icmp .gt 55, 3) := D_X4_findWork_0.2.2.2.2.2.2.2.1
theorem e_X4_findWork_16 : decode cX4_findWork 16 = .ok (.aload_n 0, 1) := D_X4_findWork_0.2.2.2.2.2.2.2.2.1
theorem e_X4_findWork_17 : decode cX4_findWork 17 = .ok (.getfield 21, 3) := D_X4_findWork_0.2.2.2.2.2.2.2.2.2.1
theorem e_X4_findWork_20 : decode cX4_findWork 20 = .ok (.invokevirtual 87, 3) := D_X4_findWork_0.2.2.2.2.2.2.2.2.2.2.1
theorem e_X4_findWork_23 : decode cX4_findWork 23 = .ok (.astore_n 2, 1) := D_X4_findWork_0.2.2.2.2.2.2.2.2.2.2.2.1
theorem e_X4_findWork_24 : decode cX4_findWork 24 = .ok (.aload_n 2, 1) := D_X4_findWork_0.2.2.2.2.2.2.2.2.2.2.2.2.1
theorem e_X4_findWork_25 : decode cX4_findWork 25 = .ok (.ifnonnull 5, 3) := D_X4_findWork_0.2.2.2.2.2.2.2.2.2.2.2.2.2.1
theorem e_X4_findWork_28 : decode cX4_findWork 28 = .ok (.iconst 1, 1) := D_X4_findWork_0.2.2.2.2.2.2.2.2.2.2.2.2.2.2.1
theorem e_X4_findWork_29 : decode cX4_findWork 29 = .ok (.ireturn, 1) := D_X4_findWork_0.2.2.2.2.2.2.2.2.2.2.2.2.2.2.2.1
theorem e_X4_findWork_30 : decode cX4_findWork 30 = .ok (.aload_n 0, 1) := D_X4_findWork_0.2.2.2.2.2.2.2.2.2.2.2.2.2.2.2.2.1
theorem e_X4_findWork_31 : decode cX4_findWork 31 = .ok (.aload_n 2, 1) := D_X4_findWork_0.2.2.2.2.2.2.2.2.2.2.2.2.2.2.2.2.2.1
theorem e_X4_findWork_32 : decode cX4_findWork 32 = .ok (.invokevirtual 91, 3) := D_X4_findWork_0.2.2.2.2.2.2.2.2.2.2.2.2.2.2.2.2.2.2.1
theorem e_X4_findWork_35 : decode cX4_findWork 35 = .ok (.istore_n 3, 1) := D_X4_findWork_0.2.2.2.2.2.2.2.2.2.2.2.2.2.2.2.2.2.2.2.1
theorem e_X4_findWork_36 : decode cX4_findWork 36 = .ok (.iload_n 3, 1) := D_X4_findWork_0.2.2.2.2.2.2.2.2.2.2.2.2.2.2.2.2.2.2.2.2.1
theorem e_X4_findWork_37 : decode cX4_findWork 37 = .ok (.ifCond .eq 5, 3) := D_X4_findWork_0.2.2.2.2.2.2.2.2.2.2.2.2.2.2.2.2.2.2.2.2.2.1
theorem e_X4_findWork_40 : decode cX4_findWork 40 = .ok (.iload_n 3, 1) := D_X4_findWork_0.2.2.2.2.2.2.2.2.2.2.2.2.2.2.2.2.2.2.2.2.2.2.1
theorem e_X4_findWork_41 : decode cX4_findWork 41 = .ok (.ireturn, 1) := D_X4_findWork_0.2.2.2.2.2.2.2.2.2.2.2.2.2.2.2.2.2.2.2.2.2.2.2.1
theorem e_X4_findWork_42 : decode cX4_findWork 42 = .ok (.aload_n 2, 1) := D_X4_findWork_0.2.2.2.2.2.2.2.2.2.2.2.2.2.2.2.2.2.2.2.2.2.2.2.2.1
theorem e_X4_findWork_43 : decode cX4_findWork 43 = .ok (.invokevirtual 95, 3) := D_X4_findWork_0.2.2.2.2.2.2.2.2.2.2.2.2.2.2.2.2.2.2.2.2.2.2.2.2.2.1
theorem e_X4_findWork_46 : decode cX4_findWork 46 = .ok (.ifCond .eq 11, 3) := D_X4_findWork_0.2.2.2.2.2.2.2.2.2.2.2.2.2.2.2.2.2.2.2.2.2.2.2.2.2.2.1
theorem e_X4_findWork_49 : decode cX4_findWork 49 = .ok (.aload_n 0, 1) := D_X4_findWork_0.2.2.2.2.2.2.2.2.2.2.2.2.2.2.2.2.2.2.2.2.2.2.2.2.2.2.2.1
theorem e_X4_findWork_50 : decode cX4_findWork 50 = .ok (.aload_n 2, 1) := D_X4_findWork_0.2.2.2.2.2.2.2.2.2.2.2.2.2.2.2.2.2.2.2.2.2.2.2.2.2.2.2.2.1
theorem e_X4_findWork_51 : decode cX4_findWork 51 = .ok (.invokevirtual 101, 3) := D_X4_findWork_0.2.2.2.2.2.2.2.2.2.2.2.2.2.2.2.2.2.2.2.2.2.2.2.2.2.2.2.2.2.1
theorem e_X4_findWork_54 : decode cX4_findWork 54 = .ok (.goto 8, 3) := D_X4_findWork_0.2.2.2.2.2.2.2.2.2.2.2.2.2.2.2.2.2.2.2.2.2.2.2.2.2.2.2.2.2.2.1
theorem e_X4_findWork_57 : decode cX4_findWork 57 = .ok (.aload_n 0, 1) := D_X4_findWork_0.2.2.2.2.2.2.2.2.2.2.2.2.2.2.2.2.2.2.2.2.2.2.2.2.2.2.2.2.2.2.2.1
theorem e_X4_findWork_58 : decode cX4_findWork 58 = .ok (.aload_n 2, 1) := D_X4_findWork_0.2.2.2.2.2.2.2.2.2.2.2.2.2.2.2.2.2.2.2.2.2.2.2.2.2.2.2.2.2.2.2.2.1
theorem e_X4_findWork_59 : decode cX4_findWork 59 = .ok (.invokevirtual 105, 3) := D_X4_findWork_0.2.2.2.2.2.2.2.2.2.2.2.2.2.2.2.2.2.2.2.2.2.2.2.2.2.2.2.2.2.2.2.2.2.1
theorem e_X4_findWork_62 : decode cX4_findWork 62 = .ok (.iinc 1 1, 3) := D_X4_findWork_0.2.2.2.2.2.2.2.2.2.2.2.2.2.2.2.2.2.2.2.2.2.2.2.2.2.2.2.2.2.2.2.2.2.2.1
theorem e_X4_findWork_65 : decode cX4_findWork 65 = .ok (.goto (-63), 3) := D_X4_findWork_0.2.2.2.2.2.2.2.2.2.2.2.2.2.2.2.2.2.2.2.2.2.2.2.2.2.2.2.2.2.2.2.2.2.2.2.1
theorem e_X4_findWork_68 : decode cX4_findWork 68 = .ok (.iconst 0, 1) := D_X4_findWork_0.2.2.2.2.2.2.2.2.2.2.2.2.2.2.2.2.2.2.2.2.2.2.2.2.2.2.2.2.2.2.2.2.2.2.2.2.1
theorem e_X4_findWork_69 : decode cX4_findWork 69 = .ok (.ireturn, 1) := D_X4_findWork_0.2.2.2.2.2.2.2.2.2.2.2.2.2.2.2.2.2.2.2.2.2.2.2.2.2.2.2.2.2.2.2.2.2.2.2.2.2.1
set_option maxRecDepth 100000 in
theorem D_X4_stopReason_0 : decode cX4_stopReason 0 = .ok (.aload_n 1, 1) ∧ decode cX4_stopReason 1 = .ok (.invokevirtual 95, 3) ∧ decode cX4_stopReason 4 = .ok (.ifCond .eq 20, 3) ∧ decode cX4_stopReason 7 = .ok (.aload_n 0, 1) ∧ decode cX4_stopReason 8 = .ok (.getfield 36, 3) ∧ decode cX4_stopReason 11 = .ok (.aload_n 1, 1) ∧ decode cX4_stopReason 12 = .ok (.getfield 108, 3) ∧ decode cX4_stopReason 15 = .ok (.if_icmp .ge 7, 3) ∧ decode cX4_stopReason 18 = .ok (.iconst 4, 1) ∧ decode cX4_stopReason 19 = .ok (.goto 4, 3) ∧ decode cX4_stopReason 22 = .ok (.iconst 0, 1) ∧ decode cX4_stopReason 23 = .ok (.ireturn, 1) ∧ decode cX4_stopReason 24 = .ok (.aload_n 0, 1) ∧ decode cX4_stopReason 25 = .ok (.getfield 12, 3) ∧ decode cX4_stopReason 28 = .ok (.aload_n 1, 1) ∧ decode cX4_stopReason 29 = .ok (.getfield 111, 3) ∧ decode cX4_stopReason 32 = .ok (.aload_n 1, 1) ∧ decode cX4_stopReason 33 = .ok (.getfield 114, 3) ∧ decode cX4_stopReason 36 = .ok (.invokevirtual 117, 3) ∧ decode cX4_stopReason 39 = .ok (.iconst (-1), 1) ∧ decode cX4_stopReason 40 = .ok (.if_icmp .ne 5, 3) ∧ decode cX4_stopReason 43 = .ok (.iconst 2, 1) ∧ decode cX4_stopReason 44 = .ok (.ireturn, 1) ∧ decode cX4_stopReason 45 = .ok (.aload_n 0, 1) ∧ decode cX4_stopReason 46 = .ok (.getfield 62, 3) ∧ decode cX4_stopReason 49 = .ok (.aload_n 0, 1) ∧ decode cX4_stopReason 50 = .ok (.getfield 32, 3) ∧ decode cX4_stopReason 53 = .ok (.iconst 5, 1) ∧ decode cX4_stopReason 54 = .ok (.iaload, 1) ∧ decode cX4_stopReason 55 = .ok (.if_icmp .lt 7, 3) ∧ decode cX4_stopReason 58 = .ok (.iconst 3, 1) ∧ decode cX4_stopReason 59 = .ok (.goto 4, 3) ∧ decode cX4_stopReason 62 = .ok (.iconst 0, 1) ∧ decode cX4_stopReason 63 = .ok (.ireturn, 1) ∧ True := dq_of (l := (0, .aload_n 1, 1) :: (1, .invokevirtual 95, 3) :: (4, .ifCond .eq 20, 3) :: (7, .aload_n 0, 1) :: (8, .getfield 36, 3) :: (11, .aload_n 1, 1) :: (12, .getfield 108, 3) :: (15, .if_icmp .ge 7, 3) :: (18, .iconst 4, 1) :: (19, .goto 4, 3) :: (22, .iconst 0, 1) :: (23, .ireturn, 1) :: (24, .aload_n 0, 1) :: (25, .getfield 12, 3) :: (28, .aload_n 1, 1) :: (29, .getfield 111, 3) :: (32, .aload_n 1, 1) :: (33, .getfield 114, 3) :: (36, .invokevirtual 117, 3) :: (39, .iconst (-1), 1) :: (40, .if_icmp .ne 5, 3) :: (43, .iconst 2, 1) :: (44, .ireturn, 1) :: (45, .aload_n 0, 1) :: (46, .getfield 62, 3) :: (49, .aload_n 0, 1) :: (50, .getfield 32, 3) :: (53, .iconst 5, 1) :: (54, .iaload, 1) :: (55, .if_icmp .lt 7, 3) :: (58, .iconst 3, 1) :: (59, .goto 4, 3) :: (62, .iconst 0, 1) :: (63, .ireturn, 1) :: []) (by decide +kernel)
theorem e_X4_stopReason_0 : decode cX4_stopReason 0 = .ok (.aload_n 1, 1) := D_X4_stopReason_0.1
theorem e_X4_stopReason_1 : decode cX4_stopReason 1 = .ok (.invokevirtual 95, 3) := D_X4_stopReason_0.2.1
theorem e_X4_stopReason_4 : decode cX4_stopReason 4 = .ok (.ifCond .eq 20, 3) := D_X4_stopReason_0.2.2.1
theorem e_X4_stopReason_7 : decode cX4_stopReason 7 = .ok (.aload_n 0, 1) := D_X4_stopReason_0.2.2.2.1
theorem e_X4_stopReason_8 : decode cX4_stopReason 8 = .ok (.getfield 36, 3) := D_X4_stopReason_0.2.2.2.2.1
theorem e_X4_stopReason_11 : decode cX4_stopReason 11 = .ok (.aload_n 1, 1) := D_X4_stopReason_0.2.2.2.2.2.1
theorem e_X4_stopReason_12 : decode cX4_stopReason 12 = .ok (.getfield 108, 3) := D_X4_stopReason_0.2.2.2.2.2.2.1
theorem e_X4_stopReason_15 : decode cX4_stopReason 15 = .ok (.if_icmp .ge 7, 3) := D_X4_stopReason_0.2.2.2.2.2.2.2.1
theorem e_X4_stopReason_18 : decode cX4_stopReason 18 = .ok (.iconst 4, 1) := D_X4_stopReason_0.2.2.2.2.2.2.2.2.1
theorem e_X4_stopReason_19 : decode cX4_stopReason 19 = .ok (.goto 4, 3) := D_X4_stopReason_0.2.2.2.2.2.2.2.2.2.1
theorem e_X4_stopReason_22 : decode cX4_stopReason 22 = .ok (.iconst 0, 1) := D_X4_stopReason_0.2.2.2.2.2.2.2.2.2.2.1
theorem e_X4_stopReason_23 : decode cX4_stopReason 23 = .ok (.ireturn, 1) := D_X4_stopReason_0.2.2.2.2.2.2.2.2.2.2.2.1
theorem e_X4_stopReason_24 : decode cX4_stopReason 24 = .ok (.aload_n 0, 1) := D_X4_stopReason_0.2.2.2.2.2.2.2.2.2.2.2.2.1
theorem e_X4_stopReason_25 : decode cX4_stopReason 25 = .ok (.getfield 12, 3) := D_X4_stopReason_0.2.2.2.2.2.2.2.2.2.2.2.2.2.1
theorem e_X4_stopReason_28 : decode cX4_stopReason 28 = .ok (.aload_n 1, 1) := D_X4_stopReason_0.2.2.2.2.2.2.2.2.2.2.2.2.2.2.1
theorem e_X4_stopReason_29 : decode cX4_stopReason 29 = .ok (.getfield 111, 3) := D_X4_stopReason_0.2.2.2.2.2.2.2.2.2.2.2.2.2.2.2.1
theorem e_X4_stopReason_32 : decode cX4_stopReason 32 = .ok (.aload_n 1, 1) := D_X4_stopReason_0.2.2.2.2.2.2.2.2.2.2.2.2.2.2.2.2.1
theorem e_X4_stopReason_33 : decode cX4_stopReason 33 = .ok (.getfield 114, 3) := D_X4_stopReason_0.2.2.2.2.2.2.2.2.2.2.2.2.2.2.2.2.2.1
theorem e_X4_stopReason_36 : decode cX4_stopReason 36 = .ok (.invokevirtual 117, 3) := D_X4_stopReason_0.2.2.2.2.2.2.2.2.2.2.2.2.2.2.2.2.2.2.1
theorem e_X4_stopReason_39 : decode cX4_stopReason 39 = .ok (.iconst (-1), 1) := D_X4_stopReason_0.2.2.2.2.2.2.2.2.2.2.2.2.2.2.2.2.2.2.2.1
theorem e_X4_stopReason_40 : decode cX4_stopReason 40 = .ok (.if_icmp .ne 5, 3) := D_X4_stopReason_0.2.2.2.2.2.2.2.2.2.2.2.2.2.2.2.2.2.2.2.2.1
theorem e_X4_stopReason_43 : decode cX4_stopReason 43 = .ok (.iconst 2, 1) := D_X4_stopReason_0.2.2.2.2.2.2.2.2.2.2.2.2.2.2.2.2.2.2.2.2.2.1
theorem e_X4_stopReason_44 : decode cX4_stopReason 44 = .ok (.ireturn, 1) := D_X4_stopReason_0.2.2.2.2.2.2.2.2.2.2.2.2.2.2.2.2.2.2.2.2.2.2.1
theorem e_X4_stopReason_45 : decode cX4_stopReason 45 = .ok (.aload_n 0, 1) := D_X4_stopReason_0.2.2.2.2.2.2.2.2.2.2.2.2.2.2.2.2.2.2.2.2.2.2.2.1
theorem e_X4_stopReason_46 : decode cX4_stopReason 46 = .ok (.getfield 62, 3) := D_X4_stopReason_0.2.2.2.2.2.2.2.2.2.2.2.2.2.2.2.2.2.2.2.2.2.2.2.2.1
theorem e_X4_stopReason_49 : decode cX4_stopReason 49 = .ok (.aload_n 0, 1) := D_X4_stopReason_0.2.2.2.2.2.2.2.2.2.2.2.2.2.2.2.2.2.2.2.2.2.2.2.2.2.1
theorem e_X4_stopReason_50 : decode cX4_stopReason 50 = .ok (.getfield 32, 3) := D_X4_stopReason_0.2.2.2.2.2.2.2.2.2.2.2.2.2.2.2.2.2.2.2.2.2.2.2.2.2.2.1
theorem e_X4_stopReason_53 : decode cX4_stopReason 53 = .ok (.iconst 5, 1) := D_X4_stopReason_0.2.2.2.2.2.2.2.2.2.2.2.2.2.2.2.2.2.2.2.2.2.2.2.2.2.2.2.1
theorem e_X4_stopReason_54 : decode cX4_stopReason 54 = .ok (.iaload, 1) := D_X4_stopReason_0.2.2.2.2.2.2.2.2.2.2.2.2.2.2.2.2.2.2.2.2.2.2.2.2.2.2.2.2.1
theorem e_X4_stopReason_55 : decode cX4_stopReason 55 = .ok (.if_icmp .lt 7, 3) := D_X4_stopReason_0.2.2.2.2.2.2.2.2.2.2.2.2.2.2.2.2.2.2.2.2.2.2.2.2.2.2.2.2.2.1
theorem e_X4_stopReason_58 : decode cX4_stopReason 58 = .ok (.iconst 3, 1) := D_X4_stopReason_0.2.2.2.2.2.2.2.2.2.2.2.2.2.2.2.2.2.2.2.2.2.2.2.2.2.2.2.2.2.2.1
theorem e_X4_stopReason_59 : decode cX4_stopReason 59 = .ok (.goto 4, 3) := D_X4_stopReason_0.2.2.2.2.2.2.2.2.2.2.2.2.2.2.2.2.2.2.2.2.2.2.2.2.2.2.2.2.2.2.2.1
theorem e_X4_stopReason_62 : decode cX4_stopReason 62 = .ok (.iconst 0, 1) := D_X4_stopReason_0.2.2.2.2.2.2.2.2.2.2.2.2.2.2.2.2.2.2.2.2.2.2.2.2.2.2.2.2.2.2.2.2.1
theorem e_X4_stopReason_63 : decode cX4_stopReason 63 = .ok (.ireturn, 1) := D_X4_stopReason_0.2.2.2.2.2.2.2.2.2.2.2.2.2.2.2.2.2.2.2.2.2.2.2.2.2.2.2.2.2.2.2.2.2.1
set_option maxRecDepth 100000 in
theorem D_X4_beginSheet_0 : decode cX4_beginSheet 0 = .ok (.aload_n 0, 1) ∧ decode cX4_beginSheet 1 = .ok (.getfield 12, 3) ∧ decode cX4_beginSheet 4 = .ok (.aload_n 1, 1) ∧ decode cX4_beginSheet 5 = .ok (.getfield 111, 3) ∧ decode cX4_beginSheet 8 = .ok (.aload_n 1, 1) ∧ decode cX4_beginSheet 9 = .ok (.getfield 114, 3) ∧ decode cX4_beginSheet 12 = .ok (.invokevirtual 121, 3) ∧ decode cX4_beginSheet 15 = .ok (.aload_n 0, 1) ∧ decode cX4_beginSheet 16 = .ok (.getfield 28, 3) ∧ decode cX4_beginSheet 19 = .ok (.aload_n 1, 1) ∧ decode cX4_beginSheet 20 = .ok (.getfield 111, 3) ∧ decode cX4_beginSheet 23 = .ok (.aload_n 1, 1) ∧ decode cX4_beginSheet 24 = .ok (.getfield 114, 3) ∧ decode cX4_beginSheet 27 = .ok (.invokevirtual 124, 3) ∧ decode cX4_beginSheet 30 = .ok (.aload_n 0, 1) ∧ decode cX4_beginSheet 31 = .ok (.getfield 21, 3) ∧ decode cX4_beginSheet 34 = .ok (.aload_n 1, 1) ∧ decode cX4_beginSheet 35 = .ok (.getfield 127, 3) ∧ decode cX4_beginSheet 38 = .ok (.putfield 130, 3) ∧ decode cX4_beginSheet 41 = .ok (.aload_n 1, 1) ∧ decode cX4_beginSheet 42 = .ok (.invokevirtual 133, 3) ∧ decode cX4_beginSheet 45 = .ok (.istore_n 2, 1) ∧ decode cX4_beginSheet 46 = .ok (.aload_n 0, 1) ∧ decode cX4_beginSheet 47 = .ok (.iconst 1, 1) ∧ decode cX4_beginSheet 48 = .ok (.putfield 40, 3) ∧ decode cX4_beginSheet 51 = .ok (.aload_n 0, 1) ∧ decode cX4_beginSheet 52 = .ok (.aload_n 1, 1) ∧ decode cX4_beginSheet 53 = .ok (.getfield 127, 3) ∧ decode cX4_beginSheet 56 = .ok (.putfield 65, 3) ∧ decode cX4_beginSheet 59 = .ok (.aload_n 0, 1) ∧ decode cX4_beginSheet 60 = .ok (.iload_n 2, 1) ∧ decode cX4_beginSheet 61 = .ok (.aload_n 0, 1) ∧ decode cX4_beginSheet 62 = .ok (.getfield 32, 3) ∧ decode cX4_beginSheet 65 = .ok (.iconst 0, 1) ∧ decode cX4_beginSheet 66 = .ok (.iaload, 1) ∧ decode cX4_beginSheet 67 = .ok (.imul, 1) ∧ decode cX4_beginSheet 68 = .ok (.iload_n 2, 1) ∧ decode cX4_beginSheet 69 = .ok (.iconst 2, 1) ∧ decode cX4_beginSheet 70 = .ok (.if_icmp .ne 12, 3) ∧ decode cX4_beginSheet 73 = .ok (.aload_n 0, 1) ∧ True := dq_of (l := (0, .aload_n 0, 1) :: (1, .getfield 12, 3) :: (4, .aload_n 1, 1) :: (5, .getfield 111, 3) :: (8, .aload_n 1, 1) :: (9, .getfield 114, 3) :: (12, .invokevirtual 121, 3) :: (15, .aload_n 0, 1) :: (16, .getfield 28, 3) :: (19, .aload_n 1, 1) :: (20, .getfield 111, 3) :: (23, .aload_n 1, 1) :: (24, .getfield 114, 3) :: (27, .invokevirtual 124, 3) :: (30, .aload_n 0, 1) :: (31, .getfield 21, 3) :: (34, .aload_n 1, 1) :: (35, .getfield 127, 3) :: (38, .putfield 130, 3) :: (41, .aload_n 1, 1) :: (42, .invokevirtual 133, 3) :: (45, .istore_n 2, 1) :: (46, .aload_n 0, 1) :: (47, .iconst 1, 1) :: (48, .putfield 40, 3) :: (51, .aload_n 0, 1) :: (52, .aload_n 1, 1) :: (53, .getfield 127, 3) :: (56, .putfield 65, 3) :: (59, .aload_n 0, 1) :: (60, .iload_n 2, 1) :: (61, .aload_n 0, 1) :: (62, .getfield 32, 3) :: (65, .iconst 0, 1) :: (66, .iaload, 1) :: (67, .imul, 1) :: (68, .iload_n 2, 1) :: (69, .iconst 2, 1) :: (70, .if_icmp .ne 12, 3) :: (73, .aload_n 0, 1) :: []) (by decide +kernel)
theorem e_X4_beginSheet_0 : decode cX4_beginSheet 0 = .ok (.aload_n 0, 1) := D_X4_beginSheet_0.1
theorem e_X4_beginSheet_1 : decode cX4_beginSheet 1 = .ok (.getfield 12, 3) := D_X4_beginSheet_0.2.1
theorem e_X4_beginSheet_4 : decode cX4_beginSheet 4 = .ok (.aload_n 1, 1) := D_X4_beginSheet_0.2.2.1
theorem e_X4_beginSheet_5 : decode cX4_beginSheet 5 = .ok (.getfield 111, 3) := D_X4_beginSheet_0.2.2.2.1
theorem e_X4_beginSheet_8 : decode cX4_beginSheet 8 = .ok (.aload_n 1, 1) := D_X4_beginSheet_0.2.2.2.2.1
theorem e_X4_beginSheet_9 : decode cX4_beginSheet 9 = .ok (.getfield 114, 3) := D_X4_beginSheet_0.2.2.2.2.2.1
theorem e_X4_beginSheet_12 : decode cX4_beginSheet 12 = .ok (.invokevirtual 121, 3) := D_X4_beginSheet_0.2.2.2.2.2.2.1
theorem e_X4_beginSheet_15 : decode cX4_beginSheet 15 = .ok (.aload_n 0, 1) := D_X4_beginSheet_0.2.2.2.2.2.2.2.1
theorem e_X4_beginSheet_16 : decode cX4_beginSheet 16 = .ok (.getfield 28, 3) := D_X4_beginSheet_0.2.2.2.2.2.2.2.2.1
theorem e_X4_beginSheet_19 : decode cX4_beginSheet 19 = .ok (.aload_n 1, 1) := D_X4_beginSheet_0.2.2.2.2.2.2.2.2.2.1
theorem e_X4_beginSheet_20 : decode cX4_beginSheet 20 = .ok (.getfield 111, 3) := D_X4_beginSheet_0.2.2.2.2.2.2.2.2.2.2.1
theorem e_X4_beginSheet_23 : decode cX4_beginSheet 23 = .ok (.aload_n 1, 1) := D_X4_beginSheet_0.2.2.2.2.2.2.2.2.2.2.2.1
theorem e_X4_beginSheet_24 : decode cX4_beginSheet 24 = .ok (.getfield 114, 3) := D_X4_beginSheet_0.2.2.2.2.2.2.2.2.2.2.2.2.1
theorem e_X4_beginSheet_27 : decode cX4_beginSheet 27 = .ok (.invokevirtual 124, 3) := D_X4_beginSheet_0.2.2.2.2.2.2.2.2.2.2.2.2.2.1
theorem e_X4_beginSheet_30 : decode cX4_beginSheet 30 = .ok (.aload_n 0, 1) := D_X4_beginSheet_0.2.2.2.2.2.2.2.2.2.2.2.2.2.2.1
theorem e_X4_beginSheet_31 : decode cX4_beginSheet 31 = .ok (.getfield 21, 3) := D_X4_beginSheet_0.2.2.2.2.2.2.2.2.2.2.2.2.2.2.2.1
theorem e_X4_beginSheet_34 : decode cX4_beginSheet 34 = .ok (.aload_n 1, 1) := D_X4_beginSheet_0.2.2.2.2.2.2.2.2.2.2.2.2.2.2.2.2.1
theorem e_X4_beginSheet_35 : decode cX4_beginSheet 35 = .ok (.getfield 127, 3) := D_X4_beginSheet_0.2.2.2.2.2.2.2.2.2.2.2.2.2.2.2.2.2.1
theorem e_X4_beginSheet_38 : decode cX4_beginSheet 38 = .ok (.putfield 130, 3) := D_X4_beginSheet_0.2.2.2.2.2.2.2.2.2.2.2.2.2.2.2.2.2.2.1
theorem e_X4_beginSheet_41 : decode cX4_beginSheet 41 = .ok (.aload_n 1, 1) := D_X4_beginSheet_0.2.2.2.2.2.2.2.2.2.2.2.2.2.2.2.2.2.2.2.1
theorem e_X4_beginSheet_42 : decode cX4_beginSheet 42 = .ok (.invokevirtual 133, 3) := D_X4_beginSheet_0.2.2.2.2.2.2.2.2.2.2.2.2.2.2.2.2.2.2.2.2.1
theorem e_X4_beginSheet_45 : decode cX4_beginSheet 45 = .ok (.istore_n 2, 1) := D_X4_beginSheet_0.2.2.2.2.2.2.2.2.2.2.2.2.2.2.2.2.2.2.2.2.2.1
theorem e_X4_beginSheet_46 : decode cX4_beginSheet 46 = .ok (.aload_n 0, 1) := D_X4_beginSheet_0.2.2.2.2.2.2.2.2.2.2.2.2.2.2.2.2.2.2.2.2.2.2.1
theorem e_X4_beginSheet_47 : decode cX4_beginSheet 47 = .ok (.iconst 1, 1) := D_X4_beginSheet_0.2.2.2.2.2.2.2.2.2.2.2.2.2.2.2.2.2.2.2.2.2.2.2.1
theorem e_X4_beginSheet_48 : decode cX4_beginSheet 48 = .ok (.putfield 40, 3) := D_X4_beginSheet_0.2.2.2.2.2.2.2.2.2.2.2.2.2.2.2.2.2.2.2.2.2.2.2.2.1
theorem e_X4_beginSheet_51 : decode cX4_beginSheet 51 = .ok (.aload_n 0, 1) := D_X4_beginSheet_0.2.2.2.2.2.2.2.2.2.2.2.2.2.2.2.2.2.2.2.2.2.2.2.2.2.1
theorem e_X4_beginSheet_52 : decode cX4_beginSheet 52 = .ok (.aload_n 1, 1) := D_X4_beginSheet_0.2.2.2.2.2.2.2.2.2.2.2.2.2.2.2.2.2.2.2.2.2.2.2.2.2.2.1
theorem e_X4_beginSheet_53 : decode cX4_beginSheet 53 = .ok (.getfield 127, 3) := D_X4_beginSheet_0.2.2.2.2.2.2.2.2.2.2.2.2.2.2.2.2.2.2.2.2.2.2.2.2.2.2.2.1
theorem e_X4_beginSheet_56 : decode cX4_beginSheet 56 = .ok (.putfield 65, 3) := D_X4_beginSheet_0.2.2.2.2.2.2.2.2.2.2.2.2.2.2.2.2.2.2.2.2.2.2.2.2.2.2.2.2.1
theorem e_X4_beginSheet_59 : decode cX4_beginSheet 59 = .ok (.aload_n 0, 1) := D_X4_beginSheet_0.2.2.2.2.2.2.2.2.2.2.2.2.2.2.2.2.2.2.2.2.2.2.2.2.2.2.2.2.2.1
theorem e_X4_beginSheet_60 : decode cX4_beginSheet 60 = .ok (.iload_n 2, 1) := D_X4_beginSheet_0.2.2.2.2.2.2.2.2.2.2.2.2.2.2.2.2.2.2.2.2.2.2.2.2.2.2.2.2.2.2.1
theorem e_X4_beginSheet_61 : decode cX4_beginSheet 61 = .ok (.aload_n 0, 1) := D_X4_beginSheet_0.2.2.2.2.2.2.2.2.2.2.2.2.2.2.2.2.2.2.2.2.2.2.2.2.2.2.2.2.2.2.2.1
theorem e_X4_beginSheet_62 : decode cX4_beginSheet 62 = .ok (.getfield 32, 3) := D_X4_beginSheet_0.2.2.2.2.2.2.2.2.2.2.2.2.2.2.2.2.2.2.2.2.2.2.2.2.2.2.2.2.2.2.2.2.1
theorem e_X4_beginSheet_65 : decode cX4_beginSheet 65 = .ok (.iconst 0, 1) := D_X4_beginSheet_0.2.2.2.2.2.2.2.2.2.2.2.2.2.2.2.2.2.2.2.2.2.2.2.2.2.2.2.2.2.2.2.2.2.1
theorem e_X4_beginSheet_66 : decode cX4_beginSheet 66 = .ok (.iaload, 1) := D_X4_beginSheet_0.2.2.2.2.2.2.2.2.2.2.2.2.2.2.2.2.2.2.2.2.2.2.2.2.2.2.2.2.2.2.2.2.2.2.1
theorem e_X4_beginSheet_67 : decode cX4_beginSheet 67 = .ok (.imul, 1) := D_X4_beginSheet_0.2.2.2.2.2.2.2.2.2.2.2.2.2.2.2.2.2.2.2.2.2.2.2.2.2.2.2.2.2.2.2.2.2.2.2.1
theorem e_X4_beginSheet_68 : decode cX4_beginSheet 68 = .ok (.iload_n 2, 1) := D_X4_beginSheet_0.2.2.2.2.2.2.2.2.2.2.2.2.2.2.2.2.2.2.2.2.2.2.2.2.2.2.2.2.2.2.2.2.2.2.2.2.1
theorem e_X4_beginSheet_69 : decode cX4_beginSheet 69 = .ok (.iconst 2, 1) := D_X4_beginSheet_0.2.2.2.2.2.2.2.2.2.2.2.2.2.2.2.2.2.2.2.2.2.2.2.2.2.2.2.2.2.2.2.2.2.2.2.2.2.1
theorem e_X4_beginSheet_70 : decode cX4_beginSheet 70 = .ok (.if_icmp .ne 12, 3) := D_X4_beginSheet_0.2.2.2.2.2.2.2.2.2.2.2.2.2.2.2.2.2.2.2.2.2.2.2.2.2.2.2.2.2.2.2.2.2.2.2.2.2.2.1
theorem e_X4_beginSheet_73 : decode cX4_beginSheet 73 = .ok (.aload_n 0, 1) := D_X4_beginSheet_0.2.2.2.2.2.2.2.2.2.2.2.2.2.2.2.2.2.2.2.2.2.2.2.2.2.2.2.2.2.2.2.2.2.2.2.2.2.2.2.1
set_option maxRecDepth 100000 in
theorem D_X4_beginSheet_1 : decode cX4_beginSheet 74 = .ok (.getfield 32, 3) ∧ decode cX4_beginSheet 77 = .ok (.iconst 1, 1) ∧ decode cX4_beginSheet 78 = .ok (.iaload, 1) ∧ decode cX4_beginSheet 79 = .ok (.goto 4, 3) ∧ decode cX4_beginSheet 82 = .ok (.iconst 0, 1) ∧ decode cX4_beginSheet 83 = .ok (.iadd, 1) ∧ decode cX4_beginSheet 84 = .ok (.putfield 68, 3) ∧ decode cX4_beginSheet 87 = .ok (.return_, 1) ∧ True := dq_of (l := (74, .getfield 32, 3) :: (77, .iconst 1, 1) :: (78, .iaload, 1) :: (79, .goto 4, 3) :: (82, .iconst 0, 1) :: (83, .iadd, 1) :: (84, .putfield 68, 3) :: (87, .return_, 1) :: []) (by decide +kernel)
theorem e_X4_beginSheet_74 : decode cX4_beginSheet 74 = .ok (.getfield 32, 3) := D_X4_beginSheet_1.1
theorem e_X4_beginSheet_77 : decode cX4_beginSheet 77 = .ok (.iconst 1, 1) := D_X4_beginSheet_1.2.1
theorem e_X4_beginSheet_78 : decode cX4_beginSheet 78 = .ok (.iaload, 1) := D_X4_beginSheet_1.2.2.1
theorem e_X4_beginSheet_79 : decode cX4_beginSheet 79 = .ok (.goto 4, 3) := D_X4_beginSheet_1.2.2.2.1
theorem e_X4_beginSheet_82 : decode cX4_beginSheet 82 = .ok (.iconst 0, 1) := D_X4_beginSheet_1.2.2.2.2.1
theorem e_X4_beginSheet_83 : decode cX4_beginSheet 83 = .ok (.iadd, 1) := D_X4_beginSheet_1.2.2.2.2.2.1
theorem e_X4_beginSheet_84 : decode cX4_beginSheet 84 = .ok (.putfield 68, 3) := D_X4_beginSheet_1.2.2.2.2.2.2.1
theorem e_X4_beginSheet_87 : decode cX4_beginSheet 87 = .ok (.return_, 1) := D_X4_beginSheet_1.2.2.2.2.2.2.2.1
set_option maxRecDepth 100000 in
theorem D_X4_beginStapling_0 : decode cX4_beginStapling 0 = .ok (.aload_n 0, 1) ∧ decode cX4_beginStapling 1 = .ok (.getfield 32, 3) ∧ decode cX4_beginStapling 4 = .ok (.iconst 2, 1) ∧ decode cX4_beginStapling 5 = .ok (.iaload, 1) ∧ decode cX4_beginStapling 6 = .ok (.ifCond .ne 9, 3) ∧ decode cX4_beginStapling 9 = .ok (.aload_n 0, 1) ∧ decode cX4_beginStapling 10 = .ok (.aload_n 1, 1) ∧ decode cX4_beginStapling 11 = .ok (.invokevirtual 136, 3) ∧ decode cX4_beginStapling 14 = .ok (.return_, 1) ∧ decode cX4_beginStapling 15 = .ok (.aload_n 0, 1) ∧ decode cX4_beginStapling 16 = .ok (.iconst 2, 1) ∧ decode cX4_beginStapling 17 = .ok (.putfield 40, 3) ∧ decode cX4_beginStapling 20 = .ok (.aload_n 0, 1) ∧ decode cX4_beginStapling 21 = .ok (.aload_n 1, 1) ∧ decode cX4_beginStapling 22 = .ok (.getfield 127, 3) ∧ decode cX4_beginStapling 25 = .ok (.putfield 65, 3) ∧ decode cX4_beginStapling 28 = .ok (.aload_n 0, 1) ∧ decode cX4_beginStapling 29 = .ok (.aload_n 0, 1) ∧ decode cX4_beginStapling 30 = .ok (.getfield 32, 3) ∧ decode cX4_beginStapling 33 = .ok (.iconst 2, 1) ∧ decode cX4_beginStapling 34 = .ok (.iaload, 1) ∧ decode cX4_beginStapling 35 = .ok (.putfield 68, 3) ∧ decode cX4_beginStapling 38 = .ok (.return_, 1) ∧ True := dq_of (l := (0, .aload_n 0, 1) :: (1, .getfield 32, 3) :: (4, .iconst 2, 1) :: (5, .iaload, 1) :: (6, .ifCond .ne 9, 3) :: (9, .aload_n 0, 1) :: (10, .aload_n 1, 1) :: (11, .invokevirtual 136, 3) :: (14, .return_, 1) :: (15, .aload_n 0, 1) :: (16, .iconst 2, 1) :: (17, .putfield 40, 3) :: (20, .aload_n 0, 1) :: (21, .aload_n 1, 1) :: (22, .getfield 127, 3) :: (25, .putfield 65, 3) :: (28, .aload_n 0, 1) :: (29, .aload_n 0, 1) :: (30, .getfield 32, 3) :: (33, .iconst 2, 1) :: (34, .iaload, 1) :: (35, .putfield 68, 3) :: (38, .return_, 1) :: []) (by decide +kernel)
theorem e_X4_beginStapling_0 : decode cX4_beginStapling 0 = .ok (.aload_n 0, 1) := D_X4_beginStapling_0.1
theorem e_X4_beginStapling_1 : decode cX4_beginStapling 1 = .ok (.getfield 32, 3) := D_X4_beginStapling_0.2.1
theorem e_X4_beginStapling_4 : decode cX4_beginStapling 4 = .ok (.iconst 2, 1) := D_X4_beginStapling_0.2.2.1
theorem e_X4_beginStapling_5 : decode cX4_beginStapling 5 = .ok (.iaload, 1) := D_X4_beginStapling_0.2.2.2.1
theorem e_X4_beginStapling_6 : decode cX4_beginStapling 6 = .ok (.ifCond .ne 9, 3) := D_X4_beginStapling_0.2.2.2.2.1
theorem e_X4_beginStapling_9 : decode cX4_beginStapling 9 = .ok (.aload_n 0, 1) := D_X4_beginStapling_0.2.2.2.2.2.1
theorem e_X4_beginStapling_10 : decode cX4_beginStapling 10 = .ok (.aload_n 1, 1) := D_X4_beginStapling_0.2.2.2.2.2.2.1
theorem e_X4_beginStapling_11 : decode cX4_beginStapling 11 = .ok (.invokevirtual 136, 3) := D_X4_beginStapling_0.2.2.2.2.2.2.2.1
theorem e_X4_beginStapling_14 : decode cX4_beginStapling 14 = .ok (.return_, 1) := D_X4_beginStapling_0.2.2.2.2.2.2.2.2.1
theorem e_X4_beginStapling_15 : decode cX4_beginStapling 15 = .ok (.aload_n 0, 1) := D_X4_beginStapling_0.2.2.2.2.2.2.2.2.2.1
theorem e_X4_beginStapling_16 : decode cX4_beginStapling 16 = .ok (.iconst 2, 1) := D_X4_beginStapling_0.2.2.2.2.2.2.2.2.2.2.1
theorem e_X4_beginStapling_17 : decode cX4_beginStapling 17 = .ok (.putfield 40, 3) := D_X4_beginStapling_0.2.2.2.2.2.2.2.2.2.2.2.1
theorem e_X4_beginStapling_20 : decode cX4_beginStapling 20 = .ok (.aload_n 0, 1) := D_X4_beginStapling_0.2.2.2.2.2.2.2.2.2.2.2.2.1
theorem e_X4_beginStapling_21 : decode cX4_beginStapling 21 = .ok (.aload_n 1, 1) := D_X4_beginStapling_0.2.2.2.2.2.2.2.2.2.2.2.2.2.1
theorem e_X4_beginStapling_22 : decode cX4_beginStapling 22 = .ok (.getfield 127, 3) := D_X4_beginStapling_0.2.2.2.2.2.2.2.2.2.2.2.2.2.2.1
theorem e_X4_beginStapling_25 : decode cX4_beginStapling 25 = .ok (.putfield 65, 3) := D_X4_beginStapling_0.2.2.2.2.2.2.2.2.2.2.2.2.2.2.2.1
theorem e_X4_beginStapling_28 : decode cX4_beginStapling 28 = .ok (.aload_n 0, 1) := D_X4_beginStapling_0.2.2.2.2.2.2.2.2.2.2.2.2.2.2.2.2.1
theorem e_X4_beginStapling_29 : decode cX4_beginStapling 29 = .ok (.aload_n 0, 1) := D_X4_beginStapling_0.2.2.2.2.2.2.2.2.2.2.2.2.2.2.2.2.2.1
theorem e_X4_beginStapling_30 : decode cX4_beginStapling 30 = .ok (.getfield 32, 3) := D_X4_beginStapling_0.2.2.2.2.2.2.2.2.2.2.2.2.2.2.2.2.2.2.1
theorem e_X4_beginStapling_33 : decode cX4_beginStapling 33 = .ok (.iconst 2, 1) := D_X4_beginStapling_0.2.2.2.2.2.2.2.2.2.2.2.2.2.2.2.2.2.2.2.1
theorem e_X4_beginStapling_34 : decode cX4_beginStapling 34 = .ok (.iaload, 1) := D_X4_beginStapling_0.2.2.2.2.2.2.2.2.2.2.2.2.2.2.2.2.2.2.2.2.1
theorem e_X4_beginStapling_35 : decode cX4_beginStapling 35 = .ok (.putfield 68, 3) := D_X4_beginStapling_0.2.2.2.2.2.2.2.2.2.2.2.2.2.2.2.2.2.2.2.2.2.1
theorem e_X4_beginStapling_38 : decode cX4_beginStapling 38 = .ok (.return_, 1) := D_X4_beginStapling_0.2.2.2.2.2.2.2.2.2.2.2.2.2.2.2.2.2.2.2.2.2.2.1
set_option maxRecDepth 100000 in
theorem D_X4_goOnWorking_0 : decode cX4_goOnWorking 0 = .ok (.iload_n 1, 1) ∧ decode cX4_goOnWorking 1 = .ok (.aload_n 0, 1) ∧ decode cX4_goOnWorking 2 = .ok (.getfield 68, 3) ∧ decode cX4_goOnWorking 5 = .ok (.invokestatic 139, 3) ∧ decode cX4_goOnWorking 8 = .ok (.istore_n 2, 1) ∧ decode cX4_goOnWorking 9 = .ok (.aload_n 0, 1) ∧ decode cX4_goOnWorking 10 = .ok (.dup, 1) ∧ decode cX4_goOnWorking 11 = .ok (.getfield 68, 3) ∧ decode cX4_goOnWorking 14 = .ok (.iload_n 2, 1) ∧ decode cX4_goOnWorking 15 = .ok (.isub, 1) ∧ decode cX4_goOnWorking 16 = .ok (.putfield 68, 3) ∧ decode cX4_goOnWorking 19 = .ok (.aload_n 0, 1) ∧ decode cX4_goOnWorking 20 = .ok (.getfield 28, 3) ∧ decode cX4_goOnWorking 23 = .ok (.bipush 8, 2) ∧ decode cX4_goOnWorking 25 = .ok (.iload_n 2, 1) ∧ decode cX4_goOnWorking 26 = .ok (.invokevirtual 79, 3) ∧ decode cX4_goOnWorking 29 = .ok (.aload_n 0, 1) ∧ decode cX4_goOnWorking 30 = .ok (.getfield 68, 3) ∧ decode cX4_goOnWorking 33 = .ok (.ifCond .ne 7, 3) ∧ decode cX4_goOnWorking 36 = .ok (.aload_n 0, 1) ∧ decode cX4_goOnWorking 37 = .ok (.invokevirtual 144, 3) ∧ decode cX4_goOnWorking 40 = .ok (.iload_n 2, 1) ∧ decode cX4_goOnWorking 41 = .ok (.ireturn, 1) ∧ True := dq_of (l := (0, .iload_n 1, 1) :: (1, .aload_n 0, 1) :: (2, .getfield 68, 3) :: (5, .invokestatic 139, 3) :: (8, .istore_n 2, 1) :: (9, .aload_n 0, 1) :: (10, .dup, 1) :: (11, .getfield 68, 3) :: (14, .iload_n 2, 1) :: (15, .isub, 1) :: (16, .putfield 68, 3) :: (19, .aload_n 0, 1) :: (20, .getfield 28, 3) :: (23, .bipush 8, 2) :: (25, .iload_n 2, 1) :: (26, .invokevirtual 79, 3) :: (29, .aload_n 0, 1) :: (30, .getfield 68, 3) :: (33, .ifCond .ne 7, 3) :: (36, .aload_n 0, 1) :: (37, .invokevirtual 144, 3) :: (40, .iload_n 2, 1) :: (41, .ireturn, 1) :: []) (by decide +kernel)
theorem e_X4_goOnWorking_0 : decode cX4_goOnWorking 0 = .ok (.iload_n 1, 1) := D_X4_goOnWorking_0.1
theorem e_X4_goOnWorking_1 : decode cX4_goOnWorking 1 = .ok (.aload_n 0, 1) := D_X4_goOnWorking_0.2.1
theorem e_X4_goOnWorking_2 : decode cX4_goOnWorking 2 = .ok (.getfield 68, 3) := D_X4_goOnWorking_0.2.2.1
theorem e_X4_goOnWorking_5 : decode cX4_goOnWorking 5 = .ok (.invokestatic 139, 3) := D_X4_goOnWorking_0.2.2.2.1
theorem e_X4_goOnWorking_8 : decode cX4_goOnWorking 8 = .ok (.istore_n 2, 1) := D_X4_goOnWorking_0.2.2.2.2.1
theorem e_X4_goOnWorking_9 : decode cX4_goOnWorking 9 = .ok (.aload_n 0, 1) := D_X4_goOnWorking_0.2.2.2.2.2.1
theorem e_X4_goOnWorking_10 : decode cX4_goOnWorking 10 = .ok (.dup, 1) := D_X4_goOnWorking_0.2.2.2.2.2.2.1
theorem e_X4_goOnWorking_11 : decode cX4_goOnWorking 11 = .ok (.getfield 68, 3) := D_X4_goOnWorking_0.2.2.2.2.2.2.2.1
theorem e_X4_goOnWorking_14 : decode cX4_goOnWorking 14 = .ok (.iload_n 2, 1) := D_X4_goOnWorking_0.2.2.2.2.2.2.2.2.1
theorem e_X4_goOnWorking_15 : decode cX4_goOnWorking 15 = .ok (.isub, 1) := D_X4_goOnWorking_0.2.2.2.2.2.2.2.2.2.1
theorem e_X4_goOnWorking_16 : decode cX4_goOnWorking 16 = .ok (.putfield 68, 3) := D_X4_goOnWorking_0.2.2.2.2.2.2.2.2.2.2.1
theorem e_X4_goOnWorking_19 : decode cX4_goOnWorking 19 = .ok (.aload_n 0, 1) := D_X4_goOnWorking_0.2.2.2.2.2.2.2.2.2.2.2.1
theorem e_X4_goOnWorking_20 : decode cX4_goOnWorking 20 = .ok (.getfield 28, 3) := D_X4_goOnWorking_0.2.2.2.2.2.2.2.2.2.2.2.2.1
theorem e_X4_goOnWorking_23 : decode cX4_goOnWorking 23 = .ok (.bipush 8, 2) := D_X4_goOnWorking_0.2.2.2.2.2.2.2.2.2.2.2.2.2.1
theorem e_X4_goOnWorking_25 : decode cX4_goOnWorking 25 = .ok (.iload_n 2, 1) := D_X4_goOnWorking_0.2.2.2.2.2.2.2.2.2.2.2.2.2.2.1
theorem e_X4_goOnWorking_26 : decode cX4_goOnWorking 26 = .ok (.invokevirtual 79, 3) := D_X4_goOnWorking_0.2.2.2.2.2.2.2.2.2.2.2.2.2.2.2.1
theorem e_X4_goOnWorking_29 : decode cX4_goOnWorking 29 = .ok (.aload_n 0, 1) := D_X4_goOnWorking_0.2.2.2.2.2.2.2.2.2.2.2.2.2.2.2.2.1
theorem e_X4_goOnWorking_30 : decode cX4_goOnWorking 30 = .ok (.getfield 68, 3) := D_X4_goOnWorking_0.2.2.2.2.2.2.2.2.2.2.2.2.2.2.2.2.2.1
theorem e_X4_goOnWorking_33 : decode cX4_goOnWorking 33 = .ok (.ifCond .ne 7, 3) := D_X4_goOnWorking_0.2.2.2.2.2.2.2.2.2.2.2.2.2.2.2.2.2.2.1
theorem e_X4_goOnWorking_36 : decode cX4_goOnWorking 36 = .ok (.aload_n 0, 1) := D_X4_goOnWorking_0.2.2.2.2.2.2.2.2.2.2.2.2.2.2.2.2.2.2.2.1
theorem e_X4_goOnWorking_37 : decode cX4_goOnWorking 37 = .ok (.invokevirtual 144, 3) := D_X4_goOnWorking_0.2.2.2.2.2.2.2.2.2.2.2.2.2.2.2.2.2.2.2.2.1
theorem e_X4_goOnWorking_40 : decode cX4_goOnWorking 40 = .ok (.iload_n 2, 1) := D_X4_goOnWorking_0.2.2.2.2.2.2.2.2.2.2.2.2.2.2.2.2.2.2.2.2.2.1
theorem e_X4_goOnWorking_41 : decode cX4_goOnWorking 41 = .ok (.ireturn, 1) := D_X4_goOnWorking_0.2.2.2.2.2.2.2.2.2.2.2.2.2.2.2.2.2.2.2.2.2.2.1
set_option maxRecDepth 100000 in
theorem D_X4_finishWork_0 : decode cX4_finishWork 0 = .ok (.aload_n 0, 1) ∧ decode cX4_finishWork 1 = .ok (.getfield 21, 3) ∧ decode cX4_finishWork 4 = .ok (.aload_n 0, 1) ∧ decode cX4_finishWork 5 = .ok (.getfield 65, 3) ∧ decode cX4_finishWork 8 = .ok (.invokevirtual 83, 3) ∧ decode cX4_finishWork 11 = .ok (.astore_n 1, 1) ∧ decode cX4_finishWork 12 = .ok (.aload_n 0, 1) ∧ decode cX4_finishWork 13 = .ok (.getfield 40, 3) ∧ decode cX4_finishWork 16 = .ok (.istore_n 2, 1) ∧ decode cX4_finishWork 17 = .ok (.aload_n 0, 1) ∧ decode cX4_finishWork 18 = .ok (.iconst 0, 1) ∧ decode cX4_finishWork 19 = .ok (.putfield 40, 3) ∧ decode cX4_finishWork 22 = .ok (.aload_n 1, 1) ∧ decode cX4_finishWork 23 = .ok (.ifnonnull 4, 3) ∧ decode cX4_finishWork 26 = .ok (.return_, 1) ∧ decode cX4_finishWork 27 = .ok (.iload_n 2, 1) ∧ decode cX4_finishWork 28 = .ok (.iconst 1, 1) ∧ decode cX4_finishWork 29 = .ok (.if_icmp .ne 11, 3) ∧ decode cX4_finishWork 32 = .ok (.aload_n 0, 1) ∧ decode cX4_finishWork 33 = .ok (.aload_n 1, 1) ∧ decode cX4_finishWork 34 = .ok (.invokevirtual 147, 3) ∧ decode cX4_finishWork 37 = .ok (.goto 13, 3) ∧ decode cX4_finishWork 40 = .ok (.iload_n 2, 1) ∧ decode cX4_finishWork 41 = .ok (.iconst 2, 1) ∧ decode cX4_finishWork 42 = .ok (.if_icmp .ne 8, 3) ∧ decode cX4_finishWork 45 = .ok (.aload_n 0, 1) ∧ decode cX4_finishWork 46 = .ok (.aload_n 1, 1) ∧ decode cX4_finishWork 47 = .ok (.invokevirtual 136, 3) ∧ decode cX4_finishWork 50 = .ok (.return_, 1) ∧ True := dq_of (l := (0, .aload_n 0, 1) :: (1, .getfield 21, 3) :: (4, .aload_n 0, 1) :: (5, .getfield 65, 3) :: (8, .invokevirtual 83, 3) :: (11, .astore_n 1, 1) :: (12, .aload_n 0, 1) :: (13, .getfield 40, 3) :: (16, .istore_n 2, 1) :: (17, .aload_n 0, 1) :: (18, .iconst 0, 1) :: (19, .putfield 40, 3) :: (22, .aload_n 1, 1) :: (23, .ifnonnull 4, 3) :: (26, .return_, 1) :: (27, .iload_n 2, 1) :: (28, .iconst 1, 1) :: (29, .if_icmp .ne 11, 3) :: (32, .aload_n 0, 1) :: (33, .aload_n 1, 1) :: (34, .invokevirtual 147, 3) :: (37, .goto 13, 3) :: (40, .iload_n 2, 1) :: (41, .iconst 2, 1) :: (42, .if_icmp .ne 8, 3) :: (45, .aload_n 0, 1) :: (46, .aload_n 1, 1) :: (47, .invokevirtual 136, 3) :: (50, .return_, 1) :: []) (by decide +kernel)
theorem e_X4_finishWork_0 : decode cX4_finishWork 0 = .ok (.aload_n 0, 1) := D_X4_finishWork_0.1
theorem e_X4_finishWork_1 : decode cX4_finishWork 1 = .ok (.getfield 21, 3) := D_X4_finishWork_0.2.1
theorem e_X4_finishWork_4 : decode cX4_finishWork 4 = .ok (.aload_n 0, 1) := D_X4_finishWork_0.2.2.1
theorem e_X4_finishWork_5 : decode cX4_finishWork 5 = .ok (.getfield 65, 3) := D_X4_finishWork_0.2.2.2.1
theorem e_X4_finishWork_8 : decode cX4_finishWork 8 = .ok (.invokevirtual 83, 3) := D_X4_finishWork_0.2.2.2.2.1
theorem e_X4_finishWork_11 : decode cX4_finishWork 11 = .ok (.astore_n 1, 1) := D_X4_finishWork_0.2.2.2.2.2.1
theorem e_X4_finishWork_12 : decode cX4_finishWork 12 = .ok (.aload_n 0, 1) := D_X4_finishWork_0.2.2.2.2.2.2.1
theorem e_X4_finishWork_13 : decode cX4_finishWork 13 = .ok (.getfield 40, 3) := D_X4_finishWork_0.2.2.2.2.2.2.2.1
theorem e_X4_finishWork_16 : decode cX4_finishWork 16 = .ok (.istore_n 2, 1) := D_X4_finishWork_0.2.2.2.2.2.2.2.2.1
theorem e_X4_finishWork_17 : decode cX4_finishWork 17 = .ok (.aload_n 0, 1) := D_X4_finishWork_0.2.2.2.2.2.2.2.2.2.1
theorem e_X4_finishWork_18 : decode cX4_finishWork 18 = .ok (.iconst 0, 1) := D_X4_finishWork_0.2.2.2.2.2.2.2.2.2.2.1
theorem e_X4_finishWork_19 : decode cX4_finishWork 19 = .ok (.putfield 40, 3) := D_X4_finishWork_0.2.2.2.2.2.2.2.2.2.2.2.1
theorem e_X4_finishWork_22 : decode cX4_finishWork 22 = .ok (.aload_n 1, 1) := D_X4_finishWork_0.2.2.2.2.2.2.2.2.2.2.2.2.1
theorem e_X4_finishWork_23 : decode cX4_finishWork 23 = .ok (.ifnonnull 4, 3) := D_X4_finishWork_0.2.2.2.2.2.2.2.2.2.2.2.2.2.1
theorem e_X4_finishWork_26 : decode cX4_finishWork 26 = .ok (.return_, 1) := D_X4_finishWork_0.2.2.2.2.2.2.2.2.2.2.2.2.2.2.1
theorem e_X4_finishWork_27 : decode cX4_finishWork 27 = .ok (.iload_n 2, 1) := D_X4_finishWork_0.2.2.2.2.2.2.2.2.2.2.2.2.2.2.2.1
theorem e_X4_finishWork_28 : decode cX4_finishWork 28 = .ok (.iconst 1, 1) := D_X4_finishWork_0.2.2.2.2.2.2.2.2.2.2.2.2.2.2.2.2.1
theorem e_X4_finishWork_29 : decode cX4_finishWork 29 = .ok (.if_icmp .ne 11, 3) := D_X4_finishWork_0.2.2.2.2.2.2.2.2.2.2.2.2.2.2.2.2.2.1
theorem e_X4_finishWork_32 : decode cX4_finishWork 32 = .ok (.aload_n 0, 1) := D_X4_finishWork_0.2.2.2.2.2.2.2.2.2.2.2.2.2.2.2.2.2.2.1
theorem e_X4_finishWork_33 : decode cX4_finishWork 33 = .ok (.aload_n 1, 1) := D_X4_finishWork_0.2.2.2.2.2.2.2.2.2.2.2.2.2.2.2.2.2.2.2.1
theorem e_X4_finishWork_34 : decode cX4_finishWork 34 = .ok (.invokevirtual 147, 3) := D_X4_finishWork_0.2.2.2.2.2.2.2.2.2.2.2.2.2.2.2.2.2.2.2.2.1
theorem e_X4_finishWork_37 : decode cX4_finishWork 37 = .ok (.goto 13, 3) := D_X4_finishWork_0.2.2.2.2.2.2.2.2.2.2.2.2.2.2.2.2.2.2.2.2.2.1
theorem e_X4_finishWork_40 : decode cX4_finishWork 40 = .ok (.iload_n 2, 1) := D_X4_finishWork_0.2.2.2.2.2.2.2.2.2.2.2.2.2.2.2.2.2.2.2.2.2.2.1
theorem e_X4_finishWork_41 : decode cX4_finishWork 41 = .ok (.iconst 2, 1) := D_X4_finishWork_0.2.2.2.2.2.2.2.2.2.2.2.2.2.2.2.2.2.2.2.2.2.2.2.1
theorem e_X4_finishWork_42 : decode cX4_finishWork 42 = .ok (.if_icmp .ne 8, 3) := D_X4_finishWork_0.2.2.2.2.2.2.2.2.2.2.2.2.2.2.2.2.2.2.2.2.2.2.2.2.1
theorem e_X4_finishWork_45 : decode cX4_finishWork 45 = .ok (.aload_n 0, 1) := D_X4_finishWork_0.2.2.2.2.2.2.2.2.2.2.2.2.2.2.2.2.2.2.2.2.2.2.2.2.2.1
theorem e_X4_finishWork_46 : decode cX4_finishWork 46 = .ok (.aload_n 1, 1) := D_X4_finishWork_0.2.2.2.2.2.2.2.2.2.2.2.2.2.2.2.2.2.2.2.2.2.2.2.2.2.2.1
theorem e_X4_finishWork_47 : decode cX4_finishWork 47 = .ok (.invokevirtual 136, 3) := D_X4_finishWork_0.2.2.2.2.2.2.2.2.2.2.2.2.2.2.2.2.2.2.2.2.2.2.2.2.2.2.2.1
theorem e_X4_finishWork_50 : decode cX4_finishWork 50 = .ok (.return_, 1) := D_X4_finishWork_0.2.2.2.2.2.2.2.2.2.2.2.2.2.2.2.2.2.2.2.2.2.2.2.2.2.2.2.2.1
set_option maxRecDepth 100000 in
theorem D_X4_finishSheet_0 : decode cX4_finishSheet 0 = .ok (.aload_n 0, 1) ∧ decode cX4_finishSheet 1 = .ok (.getfield 28, 3) ∧ decode cX4_finishSheet 4 = .ok (.dup, 1) ∧ decode cX4_finishSheet 5 = .ok (.getfield 150, 3) ∧ decode cX4_finishSheet 8 = .ok (.iconst 1, 1) ∧ decode cX4_finishSheet 9 = .ok (.iadd, 1) ∧ decode cX4_finishSheet 10 = .ok (.putfield 150, 3) ∧ decode cX4_finishSheet 13 = .ok (.aload_n 0, 1) ∧ decode cX4_finishSheet 14 = .ok (.getfield 32, 3) ∧ decode cX4_finishSheet 17 = .ok (.iconst 4, 1) ∧ decode cX4_finishSheet 18 = .ok (.iaload, 1) ∧ decode cX4_finishSheet 19 = .ok (.istore_n 2, 1) ∧ decode cX4_finishSheet 20 = .ok (.iload_n 2, 1) ∧ decode cX4_finishSheet 21 = .ok (.ifCond .le 25, 3) ∧ decode cX4_finishSheet 24 = .ok (.aload_n 0, 1) ∧ decode cX4_finishSheet 25 = .ok (.getfield 28, 3) ∧ decode cX4_finishSheet 28 = .ok (.getfield 150, 3) ∧ decode cX4_finishSheet 31 = .ok (.iload_n 2, 1) ∧ decode cX4_finishSheet 32 = .ok (.irem, 1) ∧ decode cX4_finishSheet 33 = .ok (.ifCond .ne 13, 3) ∧ decode cX4_finishSheet 36 = .ok (.aload_n 0, 1) ∧ decode cX4_finishSheet 37 = .ok (.getfield 28, 3) ∧ decode cX4_finishSheet 40 = .ok (.iconst 2, 1) ∧ decode cX4_finishSheet 41 = .ok (.iconst 1, 1) ∧ decode cX4_finishSheet 42 = .ok (.invokevirtual 79, 3) ∧ decode cX4_finishSheet 45 = .ok (.return_, 1) ∧ decode cX4_finishSheet 46 = .ok (.aload_n 0, 1) ∧ decode cX4_finishSheet 47 = .ok (.getfield 28, 3) ∧ decode cX4_finishSheet 50 = .ok (.iconst 1, 1) ∧ decode cX4_finishSheet 51 = .ok (.iconst 1, 1) ∧ decode cX4_finishSheet 52 = .ok (.invokevirtual 79, 3) ∧ decode cX4_finishSheet 55 = .ok (.aload_n 0, 1) ∧ decode cX4_finishSheet 56 = .ok (.getfield 28, 3) ∧ decode cX4_finishSheet 59 = .ok (.iconst 3, 1) ∧ decode cX4_finishSheet 60 = .ok (.aload_n 1, 1) ∧ decode cX4_finishSheet 61 = .ok (.invokevirtual 133, 3) ∧ decode cX4_finishSheet 64 = .ok (.invokevirtual 79, 3) ∧ decode cX4_finishSheet 67 = .ok (.aload_n 0, 1) ∧ decode cX4_finishSheet 68 = .ok (.dup, 1) ∧ decode cX4_finishSheet 69 = .ok (.getfield 62, 3) ∧ True := dq_of (l := (0, .aload_n 0, 1) :: (1, .getfield 28, 3) :: (4, .dup, 1) :: (5, .getfield 150, 3) :: (8, .iconst 1, 1) :: (9, .iadd, 1) :: (10, .putfield 150, 3) :: (13, .aload_n 0, 1) :: (14, .getfield 32, 3) :: (17, .iconst 4, 1) :: (18, .iaload, 1) :: (19, .istore_n 2, 1) :: (20, .iload_n 2, 1) :: (21, .ifCond .le 25, 3) :: (24, .aload_n 0, 1) :: (25, .getfield 28, 3) :: (28, .getfield 150, 3) :: (31, .iload_n 2, 1) :: (32, .irem, 1) :: (33, .ifCond .ne 13, 3) :: (36, .aload_n 0, 1) :: (37, .getfield 28, 3) :: (40, .iconst 2, 1) :: (41, .iconst 1, 1) :: (42, .invokevirtual 79, 3) :: (45, .return_, 1) :: (46, .aload_n 0, 1) :: (47, .getfield 28, 3) :: (50, .iconst 1, 1) :: (51, .iconst 1, 1) :: (52, .invokevirtual 79, 3) :: (55, .aload_n 0, 1) :: (56, .getfield 28, 3) :: (59, .iconst 3, 1) :: (60, .aload_n 1, 1) :: (61, .invokevirtual 133, 3) :: (64, .invokevirtual 79, 3) :: (67, .aload_n 0, 1) :: (68, .dup, 1) :: (69, .getfield 62, 3) :: []) (by decide +kernel)
theorem e_X4_finishSheet_0 : decode cX4_finishSheet 0 = .ok (.aload_n 0, 1) := D_X4_finishSheet_0.1
theorem e_X4_finishSheet_1 : decode cX4_finishSheet 1 = .ok (.getfield 28, 3) := D_X4_finishSheet_0.2.1
theorem e_X4_finishSheet_4 : decode cX4_finishSheet 4 = .ok (.dup, 1) := D_X4_finishSheet_0.2.2.1
theorem e_X4_finishSheet_5 : decode cX4_finishSheet 5 = .ok (.getfield 150, 3) := D_X4_finishSheet_0.2.2.2.1
theorem e_X4_finishSheet_8 : decode cX4_finishSheet 8 = .ok (.iconst 1, 1) := D_X4_finishSheet_0.2.2.2.2.1
theorem e_X4_finishSheet_9 : decode cX4_finishSheet 9 = .ok (.iadd, 1) := D_X4_finishSheet_0.2.2.2.2.2.1
theorem e_X4_finishSheet_10 : decode cX4_finishSheet 10 = .ok (.putfield 150, 3) := D_X4_finishSheet_0.2.2.2.2.2.2.1
theorem e_X4_finishSheet_13 : decode cX4_finishSheet 13 = .ok (.aload_n 0, 1) := D_X4_finishSheet_0.2.2.2.2.2.2.2.1
theorem e_X4_finishSheet_14 : decode cX4_finishSheet 14 = .ok (.getfield 32, 3) := D_X4_finishSheet_0.2.2.2.2.2.2.2.2.1
theorem e_X4_finishSheet_17 : decode cX4_finishSheet 17 = .ok (.iconst 4, 1) := D_X4_finishSheet_0.2.2.2.2.2.2.2.2.2.1
theorem e_X4_finishSheet_18 : decode cX4_finishSheet 18 = .ok (.iaload, 1) := D_X4_finishSheet_0.2.2.2.2.2.2.2.2.2.2.1
theorem e_X4_finishSheet_19 : decode cX4_finishSheet 19 = .ok (.istore_n 2, 1) := D_X4_finishSheet_0.2.2.2.2.2.2.2.2.2.2.2.1
theorem e_X4_finishSheet_20 : decode cX4_finishSheet 20 = .ok (.iload_n 2, 1) := D_X4_finishSheet_0.2.2.2.2.2.2.2.2.2.2.2.2.1
theorem e_X4_finishSheet_21 : decode cX4_finishSheet 21 = .ok (.ifCond .le 25, 3) := D_X4_finishSheet_0.2.2.2.2.2.2.2.2.2.2.2.2.2.1
theorem e_X4_finishSheet_24 : decode cX4_finishSheet 24 = .ok (.aload_n 0, 1) := D_X4_finishSheet_0.2.2.2.2.2.2.2.2.2.2.2.2.2.2.1
theorem e_X4_finishSheet_25 : decode cX4_finishSheet 25 = .ok (.getfield 28, 3) := D_X4_finishSheet_0.2.2.2.2.2.2.2.2.2.2.2.2.2.2.2.1
theorem e_X4_finishSheet_28 : decode cX4_finishSheet 28 = .ok (.getfield 150, 3) := D_X4_finishSheet_0.2.2.2.2.2.2.2.2.2.2.2.2.2.2.2.2.1
theorem e_X4_finishSheet_31 : decode cX4_finishSheet 31 = .ok (.iload_n 2, 1) := D_X4_finishSheet_0.2.2.2.2.2.2.2.2.2.2.2.2.2.2.2.2.2.1
theorem e_X4_finishSheet_32 : decode cX4_finishSheet 32 = .ok (.irem, 1) := D_X4_finishSheet_0.2.2.2.2.2.2.2.2.2.2.2.2.2.2.2.2.2.2.1
theorem e_X4_finishSheet_33 : decode cX4_finishSheet 33 = .ok (.ifCond .ne 13, 3) := D_X4_finishSheet_0.2.2.2.2.2.2.2.2.2.2.2.2.2.2.2.2.2.2.2.1
theorem e_X4_finishSheet_36 : decode cX4_finishSheet 36 = .ok (.aload_n 0, 1) := D_X4_finishSheet_0.2.2.2.2.2.2.2.2.2.2.2.2.2.2.2.2.2.2.2.2.1
theorem e_X4_finishSheet_37 : decode cX4_finishSheet 37 = .ok (.getfield 28, 3) := D_X4_finishSheet_0.2.2.2.2.2.2.2.2.2.2.2.2.2.2.2.2.2.2.2.2.2.1
theorem e_X4_finishSheet_40 : decode cX4_finishSheet 40 = .ok (.iconst 2, 1) := D_X4_finishSheet_0.2.2.2.2.2.2.2.2.2.2.2.2.2.2.2.2.2.2.2.2.2.2.1
theorem e_X4_finishSheet_41 : decode cX4_finishSheet 41 = .ok (.iconst 1, 1) := D_X4_finishSheet_0.2.2.2.2.2.2.2.2.2.2.2.2.2.2.2.2.2.2.2.2.2.2.2.1
theorem e_X4_finishSheet_42 : decode cX4_finishSheet 42 = .ok (.invokevirtual 79, 3) := D_X4_finishSheet_0.2.2.2.2.2.2.2.2.2.2.2.2.2.2.2.2.2.2.2.2.2.2.2.2.1
theorem e_X4_finishSheet_45 : decode cX4_finishSheet 45 = .ok (.return_, 1) := D_X4_finishSheet_0.2.2.2.2.2.2.2.2.2.2.2.2.2.2.2.2.2.2.2.2.2.2.2.2.2.1
theorem e_X4_finishSheet_46 : decode cX4_finishSheet 46 = .ok (.aload_n 0, 1) := D_X4_finishSheet_0.2.2.2.2.2.2.2.2.2.2.2.2.2.2.2.2.2.2.2.2.2.2.2.2.2.2.1
theorem e_X4_finishSheet_47 : decode cX4_finishSheet 47 = .ok (.getfield 28, 3) := D_X4_finishSheet_0.2.2.2.2.2.2.2.2.2.2.2.2.2.2.2.2.2.2.2.2.2.2.2.2.2.2.2.1
theorem e_X4_finishSheet_50 : decode cX4_finishSheet 50 = .ok (.iconst 1, 1) := D_X4_finishSheet_0.2.2.2.2.2.2.2.2.2.2.2.2.2.2.2.2.2.2.2.2.2.2.2.2.2.2.2.2.1
theorem e_X4_finishSheet_51 : decode cX4_finishSheet 51 = .ok (.iconst 1, 1) := D_X4_finishSheet_0.2.2.2.2.2.2.2.2.2.2.2.2.2.2.2.2.2.2.2.2.2.2.2.2.2.2.2.2.2.1
theorem e_X4_finishSheet_52 : decode cX4_finishSheet 52 = .ok (.invokevirtual 79, 3) := D_X4_finishSheet_0.2.2.2.2.2.2.2.2.2.2.2.2.2.2.2.2.2.2.2.2.2.2.2.2.2.2.2.2.2.2.1
theorem e_X4_finishSheet_55 : decode cX4_finishSheet 55 = .ok (.aload_n 0, 1) := D_X4_finishSheet_0.2.2.2.2.2.2.2.2.2.2.2.2.2.2.2.2.2.2.2.2.2.2.2.2.2.2.2.2.2.2.2.1
theorem e_X4_finishSheet_56 : decode cX4_finishSheet 56 = .ok (.getfield 28, 3) := D_X4_finishSheet_0.2.2.2.2.2.2.2.2.2.2.2.2.2.2.2.2.2.2.2.2.2.2.2.2.2.2.2.2.2.2.2.2.1
theorem e_X4_finishSheet_59 : decode cX4_finishSheet 59 = .ok (.iconst 3, 1) := D_X4_finishSheet_0.2.2.2.2.2.2.2.2.2.2.2.2.2.2.2.2.2.2.2.2.2.2.2.2.2.2.2.2.2.2.2.2.2.1
theorem e_X4_finishSheet_60 : decode cX4_finishSheet 60 = .ok (.aload_n 1, 1) := D_X4_finishSheet_0.2.2.2.2.2.2.2.2.2.2.2.2.2.2.2.2.2.2.2.2.2.2.2.2.2.2.2.2.2.2.2.2.2.2.1
theorem e_X4_finishSheet_61 : decode cX4_finishSheet 61 = .ok (.invokevirtual 133, 3) := D_X4_finishSheet_0.2.2.2.2.2.2.2.2.2.2.2.2.2.2.2.2.2.2.2.2.2.2.2.2.2.2.2.2.2.2.2.2.2.2.2.1
theorem e_X4_finishSheet_64 : decode cX4_finishSheet 64 = .ok (.invokevirtual 79, 3) := D_X4_finishSheet_0.2.2.2.2.2.2.2.2.2.2.2.2.2.2.2.2.2.2.2.2.2.2.2.2.2.2.2.2.2.2.2.2.2.2.2.2.1
theorem e_X4_finishSheet_67 : decode cX4_finishSheet 67 = .ok (.aload_n 0, 1) := D_X4_finishSheet_0.2.2.2.2.2.2.2.2.2.2.2.2.2.2.2.2.2.2.2.2.2.2.2.2.2.2.2.2.2.2.2.2.2.2.2.2.2.1
theorem e_X4_finishSheet_68 : decode cX4_finishSheet 68 = .ok (.dup, 1) := D_X4_finishSheet_0.2.2.2.2.2.2.2.2.2.2.2.2.2.2.2.2.2.2.2.2.2.2.2.2.2.2.2.2.2.2.2.2.2.2.2.2.2.2.1
theorem e_X4_finishSheet_69 : decode cX4_finishSheet 69 = .ok (.getfield 62, 3) := D_X4_finishSheet_0.2.2.2.2.2.2.2.2.2.2.2.2.2.2.2.2.2.2.2.2.2.2.2.2.2.2.2.2.2.2.2.2.2.2.2.2.2.2.2.1
set_option maxRecDepth 100000 in
theorem D_X4_finishSheet_1 : decode cX4_finishSheet 72 = .ok (.iconst 1, 1) ∧ decode cX4_finishSheet 73 = .ok (.iadd, 1) ∧ decode cX4_finishSheet 74 = .ok (.putfield 62, 3) ∧ decode cX4_finishSheet 77 = .ok (.aload_n 1, 1) ∧ decode cX4_finishSheet 78 = .ok (.dup, 1) ∧ decode cX4_finishSheet 79 = .ok (.getfield 153, 3) ∧ decode cX4_finishSheet 82 = .ok (.iconst 1, 1) ∧ decode cX4_finishSheet 83 = .ok (.iadd, 1) ∧ decode cX4_finishSheet 84 = .ok (.putfield 153, 3) ∧ decode cX4_finishSheet 87 = .ok (.aload_n 0, 1) ∧ decode cX4_finishSheet 88 = .ok (.aload_n 1, 1) ∧ decode cX4_finishSheet 89 = .ok (.invokevirtual 156, 3) ∧ decode cX4_finishSheet 92 = .ok (.return_, 1) ∧ True := dq_of (l := (72, .iconst 1, 1) :: (73, .iadd, 1) :: (74, .putfield 62, 3) :: (77, .aload_n 1, 1) :: (78, .dup, 1) :: (79, .getfield 153, 3) :: (82, .iconst 1, 1) :: (83, .iadd, 1) :: (84, .putfield 153, 3) :: (87, .aload_n 0, 1) :: (88, .aload_n 1, 1) :: (89, .invokevirtual 156, 3) :: (92, .return_, 1) :: []) (by decide +kernel)
theorem e_X4_finishSheet_72 : decode cX4_finishSheet 72 = .ok (.iconst 1, 1) := D_X4_finishSheet_1.1
theorem e_X4_finishSheet_73 : decode cX4_finishSheet 73 = .ok (.iadd, 1) := D_X4_finishSheet_1.2.1
theorem e_X4_finishSheet_74 : decode cX4_finishSheet 74 = .ok (.putfield 62, 3) := D_X4_finishSheet_1.2.2.1
theorem e_X4_finishSheet_77 : decode cX4_finishSheet 77 = .ok (.aload_n 1, 1) := D_X4_finishSheet_1.2.2.2.1
theorem e_X4_finishSheet_78 : decode cX4_finishSheet 78 = .ok (.dup, 1) := D_X4_finishSheet_1.2.2.2.2.1
theorem e_X4_finishSheet_79 : decode cX4_finishSheet 79 = .ok (.getfield 153, 3) := D_X4_finishSheet_1.2.2.2.2.2.1
theorem e_X4_finishSheet_82 : decode cX4_finishSheet 82 = .ok (.iconst 1, 1) := D_X4_finishSheet_1.2.2.2.2.2.2.1
theorem e_X4_finishSheet_83 : decode cX4_finishSheet 83 = .ok (.iadd, 1) := D_X4_finishSheet_1.2.2.2.2.2.2.2.1
theorem e_X4_finishSheet_84 : decode cX4_finishSheet 84 = .ok (.putfield 153, 3) := D_X4_finishSheet_1.2.2.2.2.2.2.2.2.1
theorem e_X4_finishSheet_87 : decode cX4_finishSheet 87 = .ok (.aload_n 0, 1) := D_X4_finishSheet_1.2.2.2.2.2.2.2.2.2.1
theorem e_X4_finishSheet_88 : decode cX4_finishSheet 88 = .ok (.aload_n 1, 1) := D_X4_finishSheet_1.2.2.2.2.2.2.2.2.2.2.1
theorem e_X4_finishSheet_89 : decode cX4_finishSheet 89 = .ok (.invokevirtual 156, 3) := D_X4_finishSheet_1.2.2.2.2.2.2.2.2.2.2.2.1
theorem e_X4_finishSheet_92 : decode cX4_finishSheet 92 = .ok (.return_, 1) := D_X4_finishSheet_1.2.2.2.2.2.2.2.2.2.2.2.2.1
set_option maxRecDepth 100000 in
theorem D_X4_finishStapling_0 : decode cX4_finishStapling 0 = .ok (.aload_n 0, 1) ∧ decode cX4_finishStapling 1 = .ok (.getfield 36, 3) ∧ decode cX4_finishStapling 4 = .ok (.aload_n 1, 1) ∧ decode cX4_finishStapling 5 = .ok (.getfield 108, 3) ∧ decode cX4_finishStapling 8 = .ok (.invokestatic 139, 3) ∧ decode cX4_finishStapling 11 = .ok (.istore_n 2, 1) ∧ decode cX4_finishStapling 12 = .ok (.aload_n 0, 1) ∧ decode cX4_finishStapling 13 = .ok (.dup, 1) ∧ decode cX4_finishStapling 14 = .ok (.getfield 36, 3) ∧ decode cX4_finishStapling 17 = .ok (.iload_n 2, 1) ∧ decode cX4_finishStapling 18 = .ok (.isub, 1) ∧ decode cX4_finishStapling 19 = .ok (.putfield 36, 3) ∧ decode cX4_finishStapling 22 = .ok (.aload_n 0, 1) ∧ decode cX4_finishStapling 23 = .ok (.getfield 28, 3) ∧ decode cX4_finishStapling 26 = .ok (.iconst 4, 1) ∧ decode cX4_finishStapling 27 = .ok (.iload_n 2, 1) ∧ decode cX4_finishStapling 28 = .ok (.invokevirtual 79, 3) ∧ decode cX4_finishStapling 31 = .ok (.aload_n 1, 1) ∧ decode cX4_finishStapling 32 = .ok (.dup, 1) ∧ decode cX4_finishStapling 33 = .ok (.getfield 159, 3) ∧ decode cX4_finishStapling 36 = .ok (.iconst 1, 1) ∧ decode cX4_finishStapling 37 = .ok (.iadd, 1) ∧ decode cX4_finishStapling 38 = .ok (.putfield 159, 3) ∧ decode cX4_finishStapling 41 = .ok (.aload_n 0, 1) ∧ decode cX4_finishStapling 42 = .ok (.aload_n 1, 1) ∧ decode cX4_finishStapling 43 = .ok (.invokevirtual 156, 3) ∧ decode cX4_finishStapling 46 = .ok (.return_, 1) ∧ True := dq_of (l := (0, .aload_n 0, 1) :: (1, .getfield 36, 3) :: (4, .aload_n 1, 1) :: (5, .getfield 108, 3) :: (8, .invokestatic 139, 3) :: (11, .istore_n 2, 1) :: (12, .aload_n 0, 1) :: (13, .dup, 1) :: (14, .getfield 36, 3) :: (17, .iload_n 2, 1) :: (18, .isub, 1) :: (19, .putfield 36, 3) :: (22, .aload_n 0, 1) :: (23, .getfield 28, 3) :: (26, .iconst 4, 1) :: (27, .iload_n 2, 1) :: (28, .invokevirtual 79, 3) :: (31, .aload_n 1, 1) :: (32, .dup, 1) :: (33, .getfield 159, 3) :: (36, .iconst 1, 1) :: (37, .iadd, 1) :: (38, .putfield 159, 3) :: (41, .aload_n 0, 1) :: (42, .aload_n 1, 1) :: (43, .invokevirtual 156, 3) :: (46, .return_, 1) :: []) (by decide +kernel)
theorem e_X4_finishStapling_0 : decode cX4_finishStapling 0 = .ok (.aload_n 0, 1) := D_X4_finishStapling_0.1
theorem e_X4_finishStapling_1 : decode cX4_finishStapling 1 = .ok (.getfield 36, 3) := D_X4_finishStapling_0.2.1
theorem e_X4_finishStapling_4 : decode cX4_finishStapling 4 = .ok (.aload_n 1, 1) := D_X4_finishStapling_0.2.2.1
theorem e_X4_finishStapling_5 : decode cX4_finishStapling 5 = .ok (.getfield 108, 3) := D_X4_finishStapling_0.2.2.2.1
theorem e_X4_finishStapling_8 : decode cX4_finishStapling 8 = .ok (.invokestatic 139, 3) := D_X4_finishStapling_0.2.2.2.2.1
theorem e_X4_finishStapling_11 : decode cX4_finishStapling 11 = .ok (.istore_n 2, 1) := D_X4_finishStapling_0.2.2.2.2.2.1
theorem e_X4_finishStapling_12 : decode cX4_finishStapling 12 = .ok (.aload_n 0, 1) := D_X4_finishStapling_0.2.2.2.2.2.2.1
theorem e_X4_finishStapling_13 : decode cX4_finishStapling 13 = .ok (.dup, 1) := D_X4_finishStapling_0.2.2.2.2.2.2.2.1
theorem e_X4_finishStapling_14 : decode cX4_finishStapling 14 = .ok (.getfield 36, 3) := D_X4_finishStapling_0.2.2.2.2.2.2.2.2.1
theorem e_X4_finishStapling_17 : decode cX4_finishStapling 17 = .ok (.iload_n 2, 1) := D_X4_finishStapling_0.2.2.2.2.2.2.2.2.2.1
theorem e_X4_finishStapling_18 : decode cX4_finishStapling 18 = .ok (.isub, 1) := D_X4_finishStapling_0.2.2.2.2.2.2.2.2.2.2.1
theorem e_X4_finishStapling_19 : decode cX4_finishStapling 19 = .ok (.putfield 36, 3) := D_X4_finishStapling_0.2.2.2.2.2.2.2.2.2.2.2.1
theorem e_X4_finishStapling_22 : decode cX4_finishStapling 22 = .ok (.aload_n 0, 1) := D_X4_finishStapling_0.2.2.2.2.2.2.2.2.2.2.2.2.1
theorem e_X4_finishStapling_23 : decode cX4_finishStapling 23 = .ok (.getfield 28, 3) := D_X4_finishStapling_0.2.2.2.2.2.2.2.2.2.2.2.2.2.1
theorem e_X4_finishStapling_26 : decode cX4_finishStapling 26 = .ok (.iconst 4, 1) := D_X4_finishStapling_0.2.2.2.2.2.2.2.2.2.2.2.2.2.2.1
theorem e_X4_finishStapling_27 : decode cX4_finishStapling 27 = .ok (.iload_n 2, 1) := D_X4_finishStapling_0.2.2.2.2.2.2.2.2.2.2.2.2.2.2.2.1
theorem e_X4_finishStapling_28 : decode cX4_finishStapling 28 = .ok (.invokevirtual 79, 3) := D_X4_finishStapling_0.2.2.2.2.2.2.2.2.2.2.2.2.2.2.2.2.1
theorem e_X4_finishStapling_31 : decode cX4_finishStapling 31 = .ok (.aload_n 1, 1) := D_X4_finishStapling_0.2.2.2.2.2.2.2.2.2.2.2.2.2.2.2.2.2.1
theorem e_X4_finishStapling_32 : decode cX4_finishStapling 32 = .ok (.dup, 1) := D_X4_finishStapling_0.2.2.2.2.2.2.2.2.2.2.2.2.2.2.2.2.2.2.1
theorem e_X4_finishStapling_33 : decode cX4_finishStapling 33 = .ok (.getfield 159, 3) := D_X4_finishStapling_0.2.2.2.2.2.2.2.2.2.2.2.2.2.2.2.2.2.2.2.1
theorem e_X4_finishStapling_36 : decode cX4_finishStapling 36 = .ok (.iconst 1, 1) := D_X4_finishStapling_0.2.2.2.2.2.2.2.2.2.2.2.2.2.2.2.2.2.2.2.2.1
theorem e_X4_finishStapling_37 : decode cX4_finishStapling 37 = .ok (.iadd, 1) := D_X4_finishStapling_0.2.2.2.2.2.2.2.2.2.2.2.2.2.2.2.2.2.2.2.2.2.1
theorem e_X4_finishStapling_38 : decode cX4_finishStapling 38 = .ok (.putfield 159, 3) := D_X4_finishStapling_0.2.2.2.2.2.2.2.2.2.2.2.2.2.2.2.2.2.2.2.2.2.2.1
theorem e_X4_finishStapling_41 : decode cX4_finishStapling 41 = .ok (.aload_n 0, 1) := D_X4_finishStapling_0.2.2.2.2.2.2.2.2.2.2.2.2.2.2.2.2.2.2.2.2.2.2.2.1
theorem e_X4_finishStapling_42 : decode cX4_finishStapling 42 = .ok (.aload_n 1, 1) := D_X4_finishStapling_0.2.2.2.2.2.2.2.2.2.2.2.2.2.2.2.2.2.2.2.2.2.2.2.2.1
theorem e_X4_finishStapling_43 : decode cX4_finishStapling 43 = .ok (.invokevirtual 156, 3) := D_X4_finishStapling_0.2.2.2.2.2.2.2.2.2.2.2.2.2.2.2.2.2.2.2.2.2.2.2.2.2.1
theorem e_X4_finishStapling_46 : decode cX4_finishStapling 46 = .ok (.return_, 1) := D_X4_finishStapling_0.2.2.2.2.2.2.2.2.2.2.2.2.2.2.2.2.2.2.2.2.2.2.2.2.2.2.1
set_option maxRecDepth 100000 in
theorem D_X4_removeIfFinished_0 : decode cX4_removeIfFinished 0 = .ok (.aload_n 1, 1) ∧ decode cX4_removeIfFinished 1 = .ok (.invokevirtual 162, 3) ∧ decode cX4_removeIfFinished 4 = .ok (.ifCond .eq 20, 3) ∧ decode cX4_removeIfFinished 7 = .ok (.aload_n 0, 1) ∧ decode cX4_removeIfFinished 8 = .ok (.getfield 28, 3) ∧ decode cX4_removeIfFinished 11 = .ok (.iconst 5, 1) ∧ decode cX4_removeIfFinished 12 = .ok (.iconst 1, 1) ∧ decode cX4_removeIfFinished 13 = .ok (.invokevirtual 79, 3) ∧ decode cX4_removeIfFinished 16 = .ok (.aload_n 0, 1) ∧ decode cX4_removeIfFinished 17 = .ok (.getfield 21, 3) ∧ decode cX4_removeIfFinished 20 = .ok (.aload_n 1, 1) ∧ decode cX4_removeIfFinished 21 = .ok (.invokevirtual 165, 3) ∧ decode cX4_removeIfFinished 24 = .ok (.return_, 1) ∧ True := dq_of (l := (0, .aload_n 1, 1) :: (1, .invokevirtual 162, 3) :: (4, .ifCond .eq 20, 3) :: (7, .aload_n 0, 1) :: (8, .getfield 28, 3) :: (11, .iconst 5, 1) :: (12, .iconst 1, 1) :: (13, .invokevirtual 79, 3) :: (16, .aload_n 0, 1) :: (17, .getfield 21, 3) :: (20, .aload_n 1, 1) :: (21, .invokevirtual 165, 3) :: (24, .return_, 1) :: []) (by decide +kernel)
theorem e_X4_removeIfFinished_0 : decode cX4_removeIfFinished 0 = .ok (.aload_n 1, 1) := D_X4_removeIfFinished_0.1
theorem e_X4_removeIfFinished_1 : decode cX4_removeIfFinished 1 = .ok (.invokevirtual 162, 3) := D_X4_removeIfFinished_0.2.1
theorem e_X4_removeIfFinished_4 : decode cX4_removeIfFinished 4 = .ok (.ifCond .eq 20, 3) := D_X4_removeIfFinished_0.2.2.1
theorem e_X4_removeIfFinished_7 : decode cX4_removeIfFinished 7 = .ok (.aload_n 0, 1) := D_X4_removeIfFinished_0.2.2.2.1
theorem e_X4_removeIfFinished_8 : decode cX4_removeIfFinished 8 = .ok (.getfield 28, 3) := D_X4_removeIfFinished_0.2.2.2.2.1
theorem e_X4_removeIfFinished_11 : decode cX4_removeIfFinished 11 = .ok (.iconst 5, 1) := D_X4_removeIfFinished_0.2.2.2.2.2.1
theorem e_X4_removeIfFinished_12 : decode cX4_removeIfFinished 12 = .ok (.iconst 1, 1) := D_X4_removeIfFinished_0.2.2.2.2.2.2.1
theorem e_X4_removeIfFinished_13 : decode cX4_removeIfFinished 13 = .ok (.invokevirtual 79, 3) := D_X4_removeIfFinished_0.2.2.2.2.2.2.2.1
theorem e_X4_removeIfFinished_16 : decode cX4_removeIfFinished 16 = .ok (.aload_n 0, 1) := D_X4_removeIfFinished_0.2.2.2.2.2.2.2.2.1
theorem e_X4_removeIfFinished_17 : decode cX4_removeIfFinished 17 = .ok (.getfield 21, 3) := D_X4_removeIfFinished_0.2.2.2.2.2.2.2.2.2.1
theorem e_X4_removeIfFinished_20 : decode cX4_removeIfFinished 20 = .ok (.aload_n 1, 1) := D_X4_removeIfFinished_0.2.2.2.2.2.2.2.2.2.2.1
theorem e_X4_removeIfFinished_21 : decode cX4_removeIfFinished 21 = .ok (.invokevirtual 165, 3) := D_X4_removeIfFinished_0.2.2.2.2.2.2.2.2.2.2.2.1
theorem e_X4_removeIfFinished_24 : decode cX4_removeIfFinished 24 = .ok (.return_, 1) := D_X4_removeIfFinished_0.2.2.2.2.2.2.2.2.2.2.2.2.1
set_option maxRecDepth 100000 in
theorem D_X4_interrupt_0 : decode cX4_interrupt 0 = .ok (.aload_n 0, 1) ∧ decode cX4_interrupt 1 = .ok (.getfield 21, 3) ∧ decode cX4_interrupt 4 = .ok (.getfield 130, 3) ∧ decode cX4_interrupt 7 = .ok (.aload_n 1, 1) ∧ decode cX4_interrupt 8 = .ok (.getfield 127, 3) ∧ decode cX4_interrupt 11 = .ok (.if_icmp .ne 11, 3) ∧ decode cX4_interrupt 14 = .ok (.aload_n 0, 1) ∧ decode cX4_interrupt 15 = .ok (.getfield 21, 3) ∧ decode cX4_interrupt 18 = .ok (.iconst (-1), 1) ∧ decode cX4_interrupt 19 = .ok (.putfield 130, 3) ∧ decode cX4_interrupt 22 = .ok (.aload_n 0, 1) ∧ decode cX4_interrupt 23 = .ok (.aload_n 1, 1) ∧ decode cX4_interrupt 24 = .ok (.getfield 127, 3) ∧ decode cX4_interrupt 27 = .ok (.invokevirtual 168, 3) ∧ decode cX4_interrupt 30 = .ok (.return_, 1) ∧ True := dq_of (l := (0, .aload_n 0, 1) :: (1, .getfield 21, 3) :: (4, .getfield 130, 3) :: (7, .aload_n 1, 1) :: (8, .getfield 127, 3) :: (11, .if_icmp .ne 11, 3) :: (14, .aload_n 0, 1) :: (15, .getfield 21, 3) :: (18, .iconst (-1), 1) :: (19, .putfield 130, 3) :: (22, .aload_n 0, 1) :: (23, .aload_n 1, 1) :: (24, .getfield 127, 3) :: (27, .invokevirtual 168, 3) :: (30, .return_, 1) :: []) (by decide +kernel)
theorem e_X4_interrupt_0 : decode cX4_interrupt 0 = .ok (.aload_n 0, 1) := D_X4_interrupt_0.1
theorem e_X4_interrupt_1 : decode cX4_interrupt 1 = .ok (.getfield 21, 3) := D_X4_interrupt_0.2.1
theorem e_X4_interrupt_4 : decode cX4_interrupt 4 = .ok (.getfield 130, 3) := D_X4_interrupt_0.2.2.1
theorem e_X4_interrupt_7 : decode cX4_interrupt 7 = .ok (.aload_n 1, 1) := D_X4_interrupt_0.2.2.2.1
theorem e_X4_interrupt_8 : decode cX4_interrupt 8 = .ok (.getfield 127, 3) := D_X4_interrupt_0.2.2.2.2.1
theorem e_X4_interrupt_11 : decode cX4_interrupt 11 = .ok (.if_icmp .ne 11, 3) := D_X4_interrupt_0.2.2.2.2.2.1
theorem e_X4_interrupt_14 : decode cX4_interrupt 14 = .ok (.aload_n 0, 1) := D_X4_interrupt_0.2.2.2.2.2.2.1
theorem e_X4_interrupt_15 : decode cX4_interrupt 15 = .ok (.getfield 21, 3) := D_X4_interrupt_0.2.2.2.2.2.2.2.1
theorem e_X4_interrupt_18 : decode cX4_interrupt 18 = .ok (.iconst (-1), 1) := D_X4_interrupt_0.2.2.2.2.2.2.2.2.1
theorem e_X4_interrupt_19 : decode cX4_interrupt 19 = .ok (.putfield 130, 3) := D_X4_interrupt_0.2.2.2.2.2.2.2.2.2.1
theorem e_X4_interrupt_22 : decode cX4_interrupt 22 = .ok (.aload_n 0, 1) := D_X4_interrupt_0.2.2.2.2.2.2.2.2.2.2.1
theorem e_X4_interrupt_23 : decode cX4_interrupt 23 = .ok (.aload_n 1, 1) := D_X4_interrupt_0.2.2.2.2.2.2.2.2.2.2.2.1
theorem e_X4_interrupt_24 : decode cX4_interrupt 24 = .ok (.getfield 127, 3) := D_X4_interrupt_0.2.2.2.2.2.2.2.2.2.2.2.2.1
theorem e_X4_interrupt_27 : decode cX4_interrupt 27 = .ok (.invokevirtual 168, 3) := D_X4_interrupt_0.2.2.2.2.2.2.2.2.2.2.2.2.2.1
theorem e_X4_interrupt_30 : decode cX4_interrupt 30 = .ok (.return_, 1) := D_X4_interrupt_0.2.2.2.2.2.2.2.2.2.2.2.2.2.2.1
set_option maxRecDepth 100000 in
theorem D_X4_giveUpWorkOf_0 : decode cX4_giveUpWorkOf 0 = .ok (.aload_n 0, 1) ∧ decode cX4_giveUpWorkOf 1 = .ok (.getfield 40, 3) ∧ decode cX4_giveUpWorkOf 4 = .ok (.ifCond .eq 11, 3) ∧ decode cX4_giveUpWorkOf 7 = .ok (.aload_n 0, 1) ∧ decode cX4_giveUpWorkOf 8 = .ok (.getfield 65, 3) ∧ decode cX4_giveUpWorkOf 11 = .ok (.iload_n 1, 1) ∧ decode cX4_giveUpWorkOf 12 = .ok (.if_icmp .eq 4, 3) ∧ decode cX4_giveUpWorkOf 15 = .ok (.return_, 1) ∧ decode cX4_giveUpWorkOf 16 = .ok (.aload_n 0, 1) ∧ decode cX4_giveUpWorkOf 17 = .ok (.getfield 40, 3) ∧ decode cX4_giveUpWorkOf 20 = .ok (.iconst 1, 1) ∧ decode cX4_giveUpWorkOf 21 = .ok (.if_icmp .ne 12, 3) ∧ decode cX4_giveUpWorkOf 24 = .ok (.aload_n 0, 1) ∧ decode cX4_giveUpWorkOf 25 = .ok (.getfield 28, 3) ∧ decode cX4_giveUpWorkOf 28 = .ok (.iconst 2, 1) ∧ decode cX4_giveUpWorkOf 29 = .ok (.iconst 1, 1) ∧ decode cX4_giveUpWorkOf 30 = .ok (.invokevirtual 79, 3) ∧ decode cX4_giveUpWorkOf 33 = .ok (.aload_n 0, 1) ∧ decode cX4_giveUpWorkOf 34 = .ok (.iconst 0, 1) ∧ decode cX4_giveUpWorkOf 35 = .ok (.putfield 40, 3) ∧ decode cX4_giveUpWorkOf 38 = .ok (.aload_n 0, 1) ∧ decode cX4_giveUpWorkOf 39 = .ok (.iconst 0, 1) ∧ decode cX4_giveUpWorkOf 40 = .ok (.putfield 68, 3) ∧ decode cX4_giveUpWorkOf 43 = .ok (.return_, 1) ∧ True := dq_of (l := (0, .aload_n 0, 1) :: (1, .getfield 40, 3) :: (4, .ifCond .eq 11, 3) :: (7, .aload_n 0, 1) :: (8, .getfield 65, 3) :: (11, .iload_n 1, 1) :: (12, .if_icmp .eq 4, 3) :: (15, .return_, 1) :: (16, .aload_n 0, 1) :: (17, .getfield 40, 3) :: (20, .iconst 1, 1) :: (21, .if_icmp .ne 12, 3) :: (24, .aload_n 0, 1) :: (25, .getfield 28, 3) :: (28, .iconst 2, 1) :: (29, .iconst 1, 1) :: (30, .invokevirtual 79, 3) :: (33, .aload_n 0, 1) :: (34, .iconst 0, 1) :: (35, .putfield 40, 3) :: (38, .aload_n 0, 1) :: (39, .iconst 0, 1) :: (40, .putfield 68, 3) :: (43, .return_, 1) :: []) (by decide +kernel)
theorem e_X4_giveUpWorkOf_0 : decode cX4_giveUpWorkOf 0 = .ok (.aload_n 0, 1) := D_X4_giveUpWorkOf_0.1
theorem e_X4_giveUpWorkOf_1 : decode cX4_giveUpWorkOf 1 = .ok (.getfield 40, 3) := D_X4_giveUpWorkOf_0.2.1
theorem e_X4_giveUpWorkOf_4 : decode cX4_giveUpWorkOf 4 = .ok (.ifCond .eq 11, 3) := D_X4_giveUpWorkOf_0.2.2.1
theorem e_X4_giveUpWorkOf_7 : decode cX4_giveUpWorkOf 7 = .ok (.aload_n 0, 1) := D_X4_giveUpWorkOf_0.2.2.2.1
theorem e_X4_giveUpWorkOf_8 : decode cX4_giveUpWorkOf 8 = .ok (.getfield 65, 3) := D_X4_giveUpWorkOf_0.2.2.2.2.1
theorem e_X4_giveUpWorkOf_11 : decode cX4_giveUpWorkOf 11 = .ok (.iload_n 1, 1) := D_X4_giveUpWorkOf_0.2.2.2.2.2.1
theorem e_X4_giveUpWorkOf_12 : decode cX4_giveUpWorkOf 12 = .ok (.if_icmp .eq 4, 3) := D_X4_giveUpWorkOf_0.2.2.2.2.2.2.1
theorem e_X4_giveUpWorkOf_15 : decode cX4_giveUpWorkOf 15 = .ok (.return_, 1) := D_X4_giveUpWorkOf_0.2.2.2.2.2.2.2.1
theorem e_X4_giveUpWorkOf_16 : decode cX4_giveUpWorkOf 16 = .ok (.aload_n 0, 1) := D_X4_giveUpWorkOf_0.2.2.2.2.2.2.2.2.1
theorem e_X4_giveUpWorkOf_17 : decode cX4_giveUpWorkOf 17 = .ok (.getfield 40, 3) := D_X4_giveUpWorkOf_0.2.2.2.2.2.2.2.2.2.1
theorem e_X4_giveUpWorkOf_20 : decode cX4_giveUpWorkOf 20 = .ok (.iconst 1, 1) := D_X4_giveUpWorkOf_0.2.2.2.2.2.2.2.2.2.2.1
theorem e_X4_giveUpWorkOf_21 : decode cX4_giveUpWorkOf 21 = .ok (.if_icmp .ne 12, 3) := D_X4_giveUpWorkOf_0.2.2.2.2.2.2.2.2.2.2.2.1
theorem e_X4_giveUpWorkOf_24 : decode cX4_giveUpWorkOf 24 = .ok (.aload_n 0, 1) := D_X4_giveUpWorkOf_0.2.2.2.2.2.2.2.2.2.2.2.2.1
theorem e_X4_giveUpWorkOf_25 : decode cX4_giveUpWorkOf 25 = .ok (.getfield 28, 3) := D_X4_giveUpWorkOf_0.2.2.2.2.2.2.2.2.2.2.2.2.2.1
theorem e_X4_giveUpWorkOf_28 : decode cX4_giveUpWorkOf 28 = .ok (.iconst 2, 1) := D_X4_giveUpWorkOf_0.2.2.2.2.2.2.2.2.2.2.2.2.2.2.1
theorem e_X4_giveUpWorkOf_29 : decode cX4_giveUpWorkOf 29 = .ok (.iconst 1, 1) := D_X4_giveUpWorkOf_0.2.2.2.2.2.2.2.2.2.2.2.2.2.2.2.1
theorem e_X4_giveUpWorkOf_30 : decode cX4_giveUpWorkOf 30 = .ok (.invokevirtual 79, 3) := D_X4_giveUpWorkOf_0.2.2.2.2.2.2.2.2.2.2.2.2.2.2.2.2.1
theorem e_X4_giveUpWorkOf_33 : decode cX4_giveUpWorkOf 33 = .ok (.aload_n 0, 1) := D_X4_giveUpWorkOf_0.2.2.2.2.2.2.2.2.2.2.2.2.2.2.2.2.2.1
theorem e_X4_giveUpWorkOf_34 : decode cX4_giveUpWorkOf 34 = .ok (.iconst 0, 1) := D_X4_giveUpWorkOf_0.2.2.2.2.2.2.2.2.2.2.2.2.2.2.2.2.2.2.1
theorem e_X4_giveUpWorkOf_35 : decode cX4_giveUpWorkOf 35 = .ok (.putfield 40, 3) := D_X4_giveUpWorkOf_0.2.2.2.2.2.2.2.2.2.2.2.2.2.2.2.2.2.2.2.1
theorem e_X4_giveUpWorkOf_38 : decode cX4_giveUpWorkOf 38 = .ok (.aload_n 0, 1) := D_X4_giveUpWorkOf_0.2.2.2.2.2.2.2.2.2.2.2.2.2.2.2.2.2.2.2.2.1
theorem e_X4_giveUpWorkOf_39 : decode cX4_giveUpWorkOf 39 = .ok (.iconst 0, 1) := D_X4_giveUpWorkOf_0.2.2.2.2.2.2.2.2.2.2.2.2.2.2.2.2.2.2.2.2.2.1
theorem e_X4_giveUpWorkOf_40 : decode cX4_giveUpWorkOf 40 = .ok (.putfield 68, 3) := D_X4_giveUpWorkOf_0.2.2.2.2.2.2.2.2.2.2.2.2.2.2.2.2.2.2.2.2.2.2.1
theorem e_X4_giveUpWorkOf_43 : decode cX4_giveUpWorkOf 43 = .ok (.return_, 1) := D_X4_giveUpWorkOf_0.2.2.2.2.2.2.2.2.2.2.2.2.2.2.2.2.2.2.2.2.2.2.2.1
set_option maxRecDepth 100000 in
theorem D_X4_lackingSheets_0 : decode cX4_lackingSheets 0 = .ok (.aload_n 0, 1) ∧ decode cX4_lackingSheets 1 = .ok (.getfield 21, 3) ∧ decode cX4_lackingSheets 4 = .ok (.iload_n 1, 1) ∧ decode cX4_lackingSheets 5 = .ok (.iload_n 2, 1) ∧ decode cX4_lackingSheets 6 = .ok (.invokevirtual 172, 3) ∧ decode cX4_lackingSheets 9 = .ok (.aload_n 0, 1) ∧ decode cX4_lackingSheets 10 = .ok (.getfield 12, 3) ∧ decode cX4_lackingSheets 13 = .ok (.iload_n 1, 1) ∧ decode cX4_lackingSheets 14 = .ok (.iload_n 2, 1) ∧ decode cX4_lackingSheets 15 = .ok (.invokevirtual 175, 3) ∧ decode cX4_lackingSheets 18 = .ok (.isub, 1) ∧ decode cX4_lackingSheets 19 = .ok (.istore_n 3, 1) ∧ decode cX4_lackingSheets 20 = .ok (.aload_n 0, 1) ∧ decode cX4_lackingSheets 21 = .ok (.getfield 40, 3) ∧ decode cX4_lackingSheets 24 = .ok (.iconst 1, 1) ∧ decode cX4_lackingSheets 25 = .ok (.if_icmp .ne 34, 3) ∧ decode cX4_lackingSheets 28 = .ok (.aload_n 0, 1) ∧ decode cX4_lackingSheets 29 = .ok (.getfield 21, 3) ∧ decode cX4_lackingSheets 32 = .ok (.aload_n 0, 1) ∧ decode cX4_lackingSheets 33 = .ok (.getfield 65, 3) ∧ decode cX4_lackingSheets 36 = .ok (.invokevirtual 83, 3) ∧ decode cX4_lackingSheets 39 = .ok (.astore 4, 2) ∧ decode cX4_lackingSheets 41 = .ok (.aload 4, 2) ∧ decode cX4_lackingSheets 43 = .ok (.ifnull 16, 3) ∧ decode cX4_lackingSheets 46 = .ok (.aload 4, 2) ∧ decode cX4_lackingSheets 48 = .ok (.iload_n 1, 1) ∧ decode cX4_lackingSheets 49 = .ok (.iload_n 2, 1) ∧ decode cX4_lackingSheets 50 = .ok (.invokevirtual 178, 3) ∧ decode cX4_lackingSheets 53 = .ok (.ifCond .eq 6, 3) ∧ decode cX4_lackingSheets 56 = .ok (.iinc 3 (-1), 3) ∧ decode cX4_lackingSheets 59 = .ok (.iconst 0, 1) ∧ decode cX4_lackingSheets 60 = .ok (.iload_n 3, 1) ∧ decode cX4_lackingSheets 61 = .ok (.invokestatic 182, 3) ∧ decode cX4_lackingSheets 64 = .ok (.ireturn, 1) ∧ True := dq_of (l := (0, .aload_n 0, 1) :: (1, .getfield 21, 3) :: (4, .iload_n 1, 1) :: (5, .iload_n 2, 1) :: (6, .invokevirtual 172, 3) :: (9, .aload_n 0, 1) :: (10, .getfield 12, 3) :: (13, .iload_n 1, 1) :: (14, .iload_n 2, 1) :: (15, .invokevirtual 175, 3) :: (18, .isub, 1) :: (19, .istore_n 3, 1) :: (20, .aload_n 0, 1) :: (21, .getfield 40, 3) :: (24, .iconst 1, 1) :: (25, .if_icmp .ne 34, 3) :: (28, .aload_n 0, 1) :: (29, .getfield 21, 3) :: (32, .aload_n 0, 1) :: (33, .getfield 65, 3) :: (36, .invokevirtual 83, 3) :: (39, .astore 4, 2) :: (41, .aload 4, 2) :: (43, .ifnull 16, 3) :: (46, .aload 4, 2) :: (48, .iload_n 1, 1) :: (49, .iload_n 2, 1) :: (50, .invokevirtual 178, 3) :: (53, .ifCond .eq 6, 3) :: (56, .iinc 3 (-1), 3) :: (59, .iconst 0, 1) :: (60, .iload_n 3, 1) :: (61, .invokestatic 182, 3) :: (64, .ireturn, 1) :: []) (by decide +kernel)
theorem e_X4_lackingSheets_0 : decode cX4_lackingSheets 0 = .ok (.aload_n 0, 1) := D_X4_lackingSheets_0.1
theorem e_X4_lackingSheets_1 : decode cX4_lackingSheets 1 = .ok (.getfield 21, 3) := D_X4_lackingSheets_0.2.1
theorem e_X4_lackingSheets_4 : decode cX4_lackingSheets 4 = .ok (.iload_n 1, 1) := D_X4_lackingSheets_0.2.2.1
theorem e_X4_lackingSheets_5 : decode cX4_lackingSheets 5 = .ok (.iload_n 2, 1) := D_X4_lackingSheets_0.2.2.2.1
theorem e_X4_lackingSheets_6 : decode cX4_lackingSheets 6 = .ok (.invokevirtual 172, 3) := D_X4_lackingSheets_0.2.2.2.2.1
theorem e_X4_lackingSheets_9 : decode cX4_lackingSheets 9 = .ok (.aload_n 0, 1) := D_X4_lackingSheets_0.2.2.2.2.2.1
theorem e_X4_lackingSheets_10 : decode cX4_lackingSheets 10 = .ok (.getfield 12, 3) := D_X4_lackingSheets_0.2.2.2.2.2.2.1
theorem e_X4_lackingSheets_13 : decode cX4_lackingSheets 13 = .ok (.iload_n 1, 1) := D_X4_lackingSheets_0.2.2.2.2.2.2.2.1
theorem e_X4_lackingSheets_14 : decode cX4_lackingSheets 14 = .ok (.iload_n 2, 1) := D_X4_lackingSheets_0.2.2.2.2.2.2.2.2.1
theorem e_X4_lackingSheets_15 : decode cX4_lackingSheets 15 = .ok (.invokevirtual 175, 3) := D_X4_lackingSheets_0.2.2.2.2.2.2.2.2.2.1
theorem e_X4_lackingSheets_18 : decode cX4_lackingSheets 18 = .ok (.isub, 1) := D_X4_lackingSheets_0.2.2.2.2.2.2.2.2.2.2.1
theorem e_X4_lackingSheets_19 : decode cX4_lackingSheets 19 = .ok (.istore_n 3, 1) := D_X4_lackingSheets_0.2.2.2.2.2.2.2.2.2.2.2.1
theorem e_X4_lackingSheets_20 : decode cX4_lackingSheets 20 = .ok (.aload_n 0, 1) := D_X4_lackingSheets_0.2.2.2.2.2.2.2.2.2.2.2.2.1
theorem e_X4_lackingSheets_21 : decode cX4_lackingSheets 21 = .ok (.getfield 40, 3) := D_X4_lackingSheets_0.2.2.2.2.2.2.2.2.2.2.2.2.2.1
theorem e_X4_lackingSheets_24 : decode cX4_lackingSheets 24 = .ok (.iconst 1, 1) := D_X4_lackingSheets_0.2.2.2.2.2.2.2.2.2.2.2.2.2.2.1
theorem e_X4_lackingSheets_25 : decode cX4_lackingSheets 25 = .ok (.if_icmp .ne 34, 3) := D_X4_lackingSheets_0.2.2.2.2.2.2.2.2.2.2.2.2.2.2.2.1
theorem e_X4_lackingSheets_28 : decode cX4_lackingSheets 28 = .ok (.aload_n 0, 1) := D_X4_lackingSheets_0.2.2.2.2.2.2.2.2.2.2.2.2.2.2.2.2.1
theorem e_X4_lackingSheets_29 : decode cX4_lackingSheets 29 = .ok (.getfield 21, 3) := D_X4_lackingSheets_0.2.2.2.2.2.2.2.2.2.2.2.2.2.2.2.2.2.1
theorem e_X4_lackingSheets_32 : decode cX4_lackingSheets 32 = .ok (.aload_n 0, 1) := D_X4_lackingSheets_0.2.2.2.2.2.2.2.2.2.2.2.2.2.2.2.2.2.2.1
theorem e_X4_lackingSheets_33 : decode cX4_lackingSheets 33 = .ok (.getfield 65, 3) := D_X4_lackingSheets_0.2.2.2.2.2.2.2.2.2.2.2.2.2.2.2.2.2.2.2.1
theorem e_X4_lackingSheets_36 : decode cX4_lackingSheets 36 = .ok (.invokevirtual 83, 3) := D_X4_lackingSheets_0.2.2.2.2.2.2.2.2.2.2.2.2.2.2.2.2.2.2.2.2.1
theorem e_X4_lackingSheets_39 : decode cX4_lackingSheets 39 = .ok (.astore 4, 2) := D_X4_lackingSheets_0.2.2.2.2.2.2.2.2.2.2.2.2.2.2.2.2.2.2.2.2.2.1
theorem e_X4_lackingSheets_41 : decode cX4_lackingSheets 41 = .ok (.aload 4, 2) := D_X4_lackingSheets_0.2.2.2.2.2.2.2.2.2.2.2.2.2.2.2.2.2.2.2.2.2.2.1
theorem e_X4_lackingSheets_43 : decode cX4_lackingSheets 43 = .ok (.ifnull 16, 3) := D_X4_lackingSheets_0.2.2.2.2.2.2.2.2.2.2.2.2.2.2.2.2.2.2.2.2.2.2.2.1
theorem e_X4_lackingSheets_46 : decode cX4_lackingSheets 46 = .ok (.aload 4, 2) := D_X4_lackingSheets_0.2.2.2.2.2.2.2.2.2.2.2.2.2.2.2.2.2.2.2.2.2.2.2.2.1
theorem e_X4_lackingSheets_48 : decode cX4_lackingSheets 48 = .ok (.iload_n 1, 1) := D_X4_lackingSheets_0.2.2.2.2.2.2.2.2.2.2.2.2.2.2.2.2.2.2.2.2.2.2.2.2.2.1
theorem e_X4_lackingSheets_49 : decode cX4_lackingSheets 49 = .ok (.iload_n 2, 1) := D_X4_lackingSheets_0.2.2.2.2.2.2.2.2.2.2.2.2.2.2.2.2.2.2.2.2.2.2.2.2.2.2.1
theorem e_X4_lackingSheets_50 : decode cX4_lackingSheets 50 = .ok (.invokevirtual 178, 3) := D_X4_lackingSheets_0.2.2.2.2.2.2.2.2.2.2.2.2.2.2.2.2.2.2.2.2.2.2.2.2.2.2.2.1
theorem e_X4_lackingSheets_53 : decode cX4_lackingSheets 53 = .ok (.ifCond .eq 6, 3) := D_X4_lackingSheets_0.2.2.2.2.2.2.2.2.2.2.2.2.2.2.2.2.2.2.2.2.2.2.2.2.2.2.2.2.1
theorem e_X4_lackingSheets_56 : decode cX4_lackingSheets 56 = .ok (.iinc 3 (-1), 3) := D_X4_lackingSheets_0.2.2.2.2.2.2.2.2.2.2.2.2.2.2.2.2.2.2.2.2.2.2.2.2.2.2.2.2.2.1
theorem e_X4_lackingSheets_59 : decode cX4_lackingSheets 59 = .ok (.iconst 0, 1) := D_X4_lackingSheets_0.2.2.2.2.2.2.2.2.2.2.2.2.2.2.2.2.2.2.2.2.2.2.2.2.2.2.2.2.2.2.1
theorem e_X4_lackingSheets_60 : decode cX4_lackingSheets 60 = .ok (.iload_n 3, 1) := D_X4_lackingSheets_0.2.2.2.2.2.2.2.2.2.2.2.2.2.2.2.2.2.2.2.2.2.2.2.2.2.2.2.2.2.2.2.1
theorem e_X4_lackingSheets_61 : decode cX4_lackingSheets 61 = .ok (.invokestatic 182, 3) := D_X4_lackingSheets_0.2.2.2.2.2.2.2.2.2.2.2.2.2.2.2.2.2.2.2.2.2.2.2.2.2.2.2.2.2.2.2.2.1
theorem e_X4_lackingSheets_64 : decode cX4_lackingSheets 64 = .ok (.ireturn, 1) := D_X4_lackingSheets_0.2.2.2.2.2.2.2.2.2.2.2.2.2.2.2.2.2.2.2.2.2.2.2.2.2.2.2.2.2.2.2.2.2.1
