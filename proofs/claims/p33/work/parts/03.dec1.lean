theorem z_dk {c : ByteArray} {l : List (Nat × Instr × Nat)} (h : (l.all fun e => decide (decode c e.1 = .ok e.2)) = true) (i : Nat) {p : Nat} {q : Instr × Nat} (e : l[i]? = some (p, q)) : decode c p = .ok q := of_decide_eq_true (List.all_eq_true.mp h (p, q) (List.mem_of_getElem? e))
theorem tdX0_init_0 : (([(0, .aload_n 0, 1), (1, .invokespecial 3, 3), (4, .aload_n 0, 1), (5, .new 9, 3), (8, .dup, 1), (9, .sipush 200, 3), (12, .invokespecial 11, 3), (15, .putfield 14, 3), (18, .aload_n 0, 1), (19, .new 9, 3), (22, .dup, 1), (23, .sipush 200, 3), (26, .invokespecial 11, 3), (29, .putfield 20, 3), (32, .aload_n 0, 1), (33, .new 9, 3), (36, .dup, 1), (37, .sipush 200, 3), (40, .invokespecial 11, 3), (43, .putfield 23, 3), (46, .aload_n 0, 1), (47, .new 9, 3), (50, .dup, 1), (51, .sipush 200, 3)] : List (Nat × Instr × Nat)).all fun e => decide (decode cX0_init e.1 = .ok e.2)) = true := by decide +kernel
theorem dX0_init_0 : decode cX0_init 0 = .ok (.aload_n 0, 1) := z_dk tdX0_init_0 0 rfl
theorem dX0_init_1 : decode cX0_init 1 = .ok (.invokespecial 3, 3) := z_dk tdX0_init_0 1 rfl
theorem dX0_init_4 : decode cX0_init 4 = .ok (.aload_n 0, 1) := z_dk tdX0_init_0 2 rfl
theorem dX0_init_5 : decode cX0_init 5 = .ok (.new 9, 3) := z_dk tdX0_init_0 3 rfl
theorem dX0_init_8 : decode cX0_init 8 = .ok (.dup, 1) := z_dk tdX0_init_0 4 rfl
theorem dX0_init_9 : decode cX0_init 9 = .ok (.sipush 200, 3) := z_dk tdX0_init_0 5 rfl
theorem dX0_init_12 : decode cX0_init 12 = .ok (.invokespecial 11, 3) := z_dk tdX0_init_0 6 rfl
theorem dX0_init_15 : decode cX0_init 15 = .ok (.putfield 14, 3) := z_dk tdX0_init_0 7 rfl
theorem dX0_init_18 : decode cX0_init 18 = .ok (.aload_n 0, 1) := z_dk tdX0_init_0 8 rfl
theorem dX0_init_19 : decode cX0_init 19 = .ok (.new 9, 3) := z_dk tdX0_init_0 9 rfl
theorem dX0_init_22 : decode cX0_init 22 = .ok (.dup, 1) := z_dk tdX0_init_0 10 rfl
theorem dX0_init_23 : decode cX0_init 23 = .ok (.sipush 200, 3) := z_dk tdX0_init_0 11 rfl
theorem dX0_init_26 : decode cX0_init 26 = .ok (.invokespecial 11, 3) := z_dk tdX0_init_0 12 rfl
theorem dX0_init_29 : decode cX0_init 29 = .ok (.putfield 20, 3) := z_dk tdX0_init_0 13 rfl
theorem dX0_init_32 : decode cX0_init 32 = .ok (.aload_n 0, 1) := z_dk tdX0_init_0 14 rfl
theorem dX0_init_33 : decode cX0_init 33 = .ok (.new 9, 3) := z_dk tdX0_init_0 15 rfl
theorem dX0_init_36 : decode cX0_init 36 = .ok (.dup, 1) := z_dk tdX0_init_0 16 rfl
theorem dX0_init_37 : decode cX0_init 37 = .ok (.sipush 200, 3) := z_dk tdX0_init_0 17 rfl
theorem dX0_init_40 : decode cX0_init 40 = .ok (.invokespecial 11, 3) := z_dk tdX0_init_0 18 rfl
theorem dX0_init_43 : decode cX0_init 43 = .ok (.putfield 23, 3) := z_dk tdX0_init_0 19 rfl
theorem dX0_init_46 : decode cX0_init 46 = .ok (.aload_n 0, 1) := z_dk tdX0_init_0 20 rfl
theorem dX0_init_47 : decode cX0_init 47 = .ok (.new 9, 3) := z_dk tdX0_init_0 21 rfl
theorem dX0_init_50 : decode cX0_init 50 = .ok (.dup, 1) := z_dk tdX0_init_0 22 rfl
theorem dX0_init_51 : decode cX0_init 51 = .ok (.sipush 200, 3) := z_dk tdX0_init_0 23 rfl
theorem tdX0_init_54 : (([(54, .invokespecial 11, 3), (57, .putfield 26, 3), (60, .aload_n 0, 1), (61, .new 9, 3), (64, .dup, 1), (65, .sipush 200, 3), (68, .invokespecial 11, 3), (71, .putfield 29, 3), (74, .aload_n 0, 1), (75, .new 9, 3), (78, .dup, 1), (79, .sipush 200, 3), (82, .invokespecial 11, 3), (85, .putfield 32, 3), (88, .aload_n 0, 1), (89, .new 9, 3), (92, .dup, 1), (93, .sipush 200, 3), (96, .invokespecial 11, 3), (99, .putfield 35, 3), (102, .aload_n 0, 1), (103, .new 9, 3), (106, .dup, 1), (107, .sipush 200, 3)] : List (Nat × Instr × Nat)).all fun e => decide (decode cX0_init e.1 = .ok e.2)) = true := by decide +kernel
theorem dX0_init_54 : decode cX0_init 54 = .ok (.invokespecial 11, 3) := z_dk tdX0_init_54 0 rfl
theorem dX0_init_57 : decode cX0_init 57 = .ok (.putfield 26, 3) := z_dk tdX0_init_54 1 rfl
theorem dX0_init_60 : decode cX0_init 60 = .ok (.aload_n 0, 1) := z_dk tdX0_init_54 2 rfl
theorem dX0_init_61 : decode cX0_init 61 = .ok (.new 9, 3) := z_dk tdX0_init_54 3 rfl
theorem dX0_init_64 : decode cX0_init 64 = .ok (.dup, 1) := z_dk tdX0_init_54 4 rfl
theorem dX0_init_65 : decode cX0_init 65 = .ok (.sipush 200, 3) := z_dk tdX0_init_54 5 rfl
theorem dX0_init_68 : decode cX0_init 68 = .ok (.invokespecial 11, 3) := z_dk tdX0_init_54 6 rfl
theorem dX0_init_71 : decode cX0_init 71 = .ok (.putfield 29, 3) := z_dk tdX0_init_54 7 rfl
theorem dX0_init_74 : decode cX0_init 74 = .ok (.aload_n 0, 1) := z_dk tdX0_init_54 8 rfl
theorem dX0_init_75 : decode cX0_init 75 = .ok (.new 9, 3) := z_dk tdX0_init_54 9 rfl
theorem dX0_init_78 : decode cX0_init 78 = .ok (.dup, 1) := z_dk tdX0_init_54 10 rfl
theorem dX0_init_79 : decode cX0_init 79 = .ok (.sipush 200, 3) := z_dk tdX0_init_54 11 rfl
theorem dX0_init_82 : decode cX0_init 82 = .ok (.invokespecial 11, 3) := z_dk tdX0_init_54 12 rfl
theorem dX0_init_85 : decode cX0_init 85 = .ok (.putfield 32, 3) := z_dk tdX0_init_54 13 rfl
theorem dX0_init_88 : decode cX0_init 88 = .ok (.aload_n 0, 1) := z_dk tdX0_init_54 14 rfl
theorem dX0_init_89 : decode cX0_init 89 = .ok (.new 9, 3) := z_dk tdX0_init_54 15 rfl
theorem dX0_init_92 : decode cX0_init 92 = .ok (.dup, 1) := z_dk tdX0_init_54 16 rfl
theorem dX0_init_93 : decode cX0_init 93 = .ok (.sipush 200, 3) := z_dk tdX0_init_54 17 rfl
theorem dX0_init_96 : decode cX0_init 96 = .ok (.invokespecial 11, 3) := z_dk tdX0_init_54 18 rfl
theorem dX0_init_99 : decode cX0_init 99 = .ok (.putfield 35, 3) := z_dk tdX0_init_54 19 rfl
theorem dX0_init_102 : decode cX0_init 102 = .ok (.aload_n 0, 1) := z_dk tdX0_init_54 20 rfl
theorem dX0_init_103 : decode cX0_init 103 = .ok (.new 9, 3) := z_dk tdX0_init_54 21 rfl
theorem dX0_init_106 : decode cX0_init 106 = .ok (.dup, 1) := z_dk tdX0_init_54 22 rfl
theorem dX0_init_107 : decode cX0_init 107 = .ok (.sipush 200, 3) := z_dk tdX0_init_54 23 rfl
theorem tdX0_init_110 : (([(110, .invokespecial 11, 3), (113, .putfield 38, 3), (116, .aload_n 0, 1), (117, .aload_n 1, 1), (118, .putfield 41, 3), (121, .return_, 1)] : List (Nat × Instr × Nat)).all fun e => decide (decode cX0_init e.1 = .ok e.2)) = true := by decide +kernel
theorem dX0_init_110 : decode cX0_init 110 = .ok (.invokespecial 11, 3) := z_dk tdX0_init_110 0 rfl
theorem dX0_init_113 : decode cX0_init 113 = .ok (.putfield 38, 3) := z_dk tdX0_init_110 1 rfl
theorem dX0_init_116 : decode cX0_init 116 = .ok (.aload_n 0, 1) := z_dk tdX0_init_110 2 rfl
theorem dX0_init_117 : decode cX0_init 117 = .ok (.aload_n 1, 1) := z_dk tdX0_init_110 3 rfl
theorem dX0_init_118 : decode cX0_init 118 = .ok (.putfield 41, 3) := z_dk tdX0_init_110 4 rfl
theorem dX0_init_121 : decode cX0_init 121 = .ok (.return_, 1) := z_dk tdX0_init_110 5 rfl
theorem tdX0_clear_0 : (([(0, .aload_n 0, 1), (1, .iconst 0, 1), (2, .putfield 45, 3), (5, .return_, 1)] : List (Nat × Instr × Nat)).all fun e => decide (decode cX0_clear e.1 = .ok e.2)) = true := by decide +kernel
theorem dX0_clear_0 : decode cX0_clear 0 = .ok (.aload_n 0, 1) := z_dk tdX0_clear_0 0 rfl
theorem dX0_clear_1 : decode cX0_clear 1 = .ok (.iconst 0, 1) := z_dk tdX0_clear_0 1 rfl
theorem dX0_clear_2 : decode cX0_clear 2 = .ok (.putfield 45, 3) := z_dk tdX0_clear_0 2 rfl
theorem dX0_clear_5 : decode cX0_clear 5 = .ok (.return_, 1) := z_dk tdX0_clear_0 3 rfl
theorem tdX0_letters_0 : (([(0, .iload_n 2, 1), (1, .ifCond .ne 14, 3), (4, .aload_n 0, 1), (5, .getfield 35, 3), (8, .iload_n 1, 1), (9, .invokevirtual 49, 3), (12, .goto 11, 3), (15, .aload_n 0, 1), (16, .getfield 38, 3), (19, .iload_n 1, 1), (20, .invokevirtual 49, 3), (23, .ireturn, 1)] : List (Nat × Instr × Nat)).all fun e => decide (decode cX0_letters e.1 = .ok e.2)) = true := by decide +kernel
theorem dX0_letters_0 : decode cX0_letters 0 = .ok (.iload_n 2, 1) := z_dk tdX0_letters_0 0 rfl
theorem dX0_letters_1 : decode cX0_letters 1 = .ok (.ifCond .ne 14, 3) := z_dk tdX0_letters_0 1 rfl
theorem dX0_letters_4 : decode cX0_letters 4 = .ok (.aload_n 0, 1) := z_dk tdX0_letters_0 2 rfl
theorem dX0_letters_5 : decode cX0_letters 5 = .ok (.getfield 35, 3) := z_dk tdX0_letters_0 3 rfl
theorem dX0_letters_8 : decode cX0_letters 8 = .ok (.iload_n 1, 1) := z_dk tdX0_letters_0 4 rfl
theorem dX0_letters_9 : decode cX0_letters 9 = .ok (.invokevirtual 49, 3) := z_dk tdX0_letters_0 5 rfl
theorem dX0_letters_12 : decode cX0_letters 12 = .ok (.goto 11, 3) := z_dk tdX0_letters_0 6 rfl
theorem dX0_letters_15 : decode cX0_letters 15 = .ok (.aload_n 0, 1) := z_dk tdX0_letters_0 7 rfl
theorem dX0_letters_16 : decode cX0_letters 16 = .ok (.getfield 38, 3) := z_dk tdX0_letters_0 8 rfl
theorem dX0_letters_19 : decode cX0_letters 19 = .ok (.iload_n 1, 1) := z_dk tdX0_letters_0 9 rfl
theorem dX0_letters_20 : decode cX0_letters 20 = .ok (.invokevirtual 49, 3) := z_dk tdX0_letters_0 10 rfl
theorem dX0_letters_23 : decode cX0_letters 23 = .ok (.ireturn, 1) := z_dk tdX0_letters_0 11 rfl
theorem tdX0_padAhead_0 : (([(0, .aload_n 0, 1), (1, .getfield 26, 3), (4, .iload_n 1, 1), (5, .invokevirtual 49, 3), (8, .iconst 2, 1), (9, .idiv, 1), (10, .aload_n 0, 1), (11, .getfield 29, 3), (14, .iload_n 1, 1), (15, .invokevirtual 49, 3), (18, .isub, 1), (19, .ireturn, 1)] : List (Nat × Instr × Nat)).all fun e => decide (decode cX0_padAhead e.1 = .ok e.2)) = true := by decide +kernel
theorem dX0_padAhead_0 : decode cX0_padAhead 0 = .ok (.aload_n 0, 1) := z_dk tdX0_padAhead_0 0 rfl
theorem dX0_padAhead_1 : decode cX0_padAhead 1 = .ok (.getfield 26, 3) := z_dk tdX0_padAhead_0 1 rfl
theorem dX0_padAhead_4 : decode cX0_padAhead 4 = .ok (.iload_n 1, 1) := z_dk tdX0_padAhead_0 2 rfl
theorem dX0_padAhead_5 : decode cX0_padAhead 5 = .ok (.invokevirtual 49, 3) := z_dk tdX0_padAhead_0 3 rfl
theorem dX0_padAhead_8 : decode cX0_padAhead 8 = .ok (.iconst 2, 1) := z_dk tdX0_padAhead_0 4 rfl
theorem dX0_padAhead_9 : decode cX0_padAhead 9 = .ok (.idiv, 1) := z_dk tdX0_padAhead_0 5 rfl
theorem dX0_padAhead_10 : decode cX0_padAhead 10 = .ok (.aload_n 0, 1) := z_dk tdX0_padAhead_0 6 rfl
theorem dX0_padAhead_11 : decode cX0_padAhead 11 = .ok (.getfield 29, 3) := z_dk tdX0_padAhead_0 7 rfl
theorem dX0_padAhead_14 : decode cX0_padAhead 14 = .ok (.iload_n 1, 1) := z_dk tdX0_padAhead_0 8 rfl
theorem dX0_padAhead_15 : decode cX0_padAhead 15 = .ok (.invokevirtual 49, 3) := z_dk tdX0_padAhead_0 9 rfl
theorem dX0_padAhead_18 : decode cX0_padAhead 18 = .ok (.isub, 1) := z_dk tdX0_padAhead_0 10 rfl
theorem dX0_padAhead_19 : decode cX0_padAhead 19 = .ok (.ireturn, 1) := z_dk tdX0_padAhead_0 11 rfl
theorem tdX0_padBehind_0 : (([(0, .aload_n 0, 1), (1, .getfield 26, 3), (4, .iload_n 1, 1), (5, .invokevirtual 49, 3), (8, .aload_n 0, 1), (9, .getfield 26, 3), (12, .iload_n 1, 1), (13, .invokevirtual 49, 3), (16, .iconst 2, 1), (17, .idiv, 1), (18, .isub, 1), (19, .aload_n 0, 1), (20, .getfield 32, 3), (23, .iload_n 1, 1), (24, .invokevirtual 49, 3), (27, .isub, 1), (28, .ireturn, 1)] : List (Nat × Instr × Nat)).all fun e => decide (decode cX0_padBehind e.1 = .ok e.2)) = true := by decide +kernel
theorem dX0_padBehind_0 : decode cX0_padBehind 0 = .ok (.aload_n 0, 1) := z_dk tdX0_padBehind_0 0 rfl
theorem dX0_padBehind_1 : decode cX0_padBehind 1 = .ok (.getfield 26, 3) := z_dk tdX0_padBehind_0 1 rfl
theorem dX0_padBehind_4 : decode cX0_padBehind 4 = .ok (.iload_n 1, 1) := z_dk tdX0_padBehind_0 2 rfl
theorem dX0_padBehind_5 : decode cX0_padBehind 5 = .ok (.invokevirtual 49, 3) := z_dk tdX0_padBehind_0 3 rfl
theorem dX0_padBehind_8 : decode cX0_padBehind 8 = .ok (.aload_n 0, 1) := z_dk tdX0_padBehind_0 4 rfl
theorem dX0_padBehind_9 : decode cX0_padBehind 9 = .ok (.getfield 26, 3) := z_dk tdX0_padBehind_0 5 rfl
theorem dX0_padBehind_12 : decode cX0_padBehind 12 = .ok (.iload_n 1, 1) := z_dk tdX0_padBehind_0 6 rfl
theorem dX0_padBehind_13 : decode cX0_padBehind 13 = .ok (.invokevirtual 49, 3) := z_dk tdX0_padBehind_0 7 rfl
theorem dX0_padBehind_16 : decode cX0_padBehind 16 = .ok (.iconst 2, 1) := z_dk tdX0_padBehind_0 8 rfl
theorem dX0_padBehind_17 : decode cX0_padBehind 17 = .ok (.idiv, 1) := z_dk tdX0_padBehind_0 9 rfl
theorem dX0_padBehind_18 : decode cX0_padBehind 18 = .ok (.isub, 1) := z_dk tdX0_padBehind_0 10 rfl
theorem dX0_padBehind_19 : decode cX0_padBehind 19 = .ok (.aload_n 0, 1) := z_dk tdX0_padBehind_0 11 rfl
theorem dX0_padBehind_20 : decode cX0_padBehind 20 = .ok (.getfield 32, 3) := z_dk tdX0_padBehind_0 12 rfl
theorem dX0_padBehind_23 : decode cX0_padBehind 23 = .ok (.iload_n 1, 1) := z_dk tdX0_padBehind_0 13 rfl
theorem dX0_padBehind_24 : decode cX0_padBehind 24 = .ok (.invokevirtual 49, 3) := z_dk tdX0_padBehind_0 14 rfl
theorem dX0_padBehind_27 : decode cX0_padBehind 27 = .ok (.isub, 1) := z_dk tdX0_padBehind_0 15 rfl
theorem dX0_padBehind_28 : decode cX0_padBehind 28 = .ok (.ireturn, 1) := z_dk tdX0_padBehind_0 16 rfl
theorem tdX0_gather_0 : (([(0, .iload_n 1, 1), (1, .istore_n 3, 1), (2, .iload_n 3, 1), (3, .iload_n 2, 1), (4, .if_icmp .gt 247, 3), (7, .aload_n 0, 1), (8, .getfield 41, 3), (11, .getfield 53, 3), (14, .iload_n 3, 1), (15, .invokevirtual 49, 3), (18, .bipush 7, 2), (20, .if_icmp .eq 6, 3), (23, .goto 222, 3), (26, .iload_n 3, 1), (27, .iload_n 1, 1), (28, .if_icmp .eq 30, 3), (31, .aload_n 0, 1), (32, .getfield 41, 3), (35, .getfield 58, 3), (38, .iload_n 3, 1), (39, .iconst 1, 1), (40, .isub, 1), (41, .invokevirtual 49, 3), (44, .aload_n 0, 1)] : List (Nat × Instr × Nat)).all fun e => decide (decode cX0_gather e.1 = .ok e.2)) = true := by decide +kernel
theorem dX0_gather_0 : decode cX0_gather 0 = .ok (.iload_n 1, 1) := z_dk tdX0_gather_0 0 rfl
theorem dX0_gather_1 : decode cX0_gather 1 = .ok (.istore_n 3, 1) := z_dk tdX0_gather_0 1 rfl
theorem dX0_gather_2 : decode cX0_gather 2 = .ok (.iload_n 3, 1) := z_dk tdX0_gather_0 2 rfl
theorem dX0_gather_3 : decode cX0_gather 3 = .ok (.iload_n 2, 1) := z_dk tdX0_gather_0 3 rfl
theorem dX0_gather_4 : decode cX0_gather 4 = .ok (.if_icmp .gt 247, 3) := z_dk tdX0_gather_0 4 rfl
theorem dX0_gather_7 : decode cX0_gather 7 = .ok (.aload_n 0, 1) := z_dk tdX0_gather_0 5 rfl
theorem dX0_gather_8 : decode cX0_gather 8 = .ok (.getfield 41, 3) := z_dk tdX0_gather_0 6 rfl
theorem dX0_gather_11 : decode cX0_gather 11 = .ok (.getfield 53, 3) := z_dk tdX0_gather_0 7 rfl
theorem dX0_gather_14 : decode cX0_gather 14 = .ok (.iload_n 3, 1) := z_dk tdX0_gather_0 8 rfl
theorem dX0_gather_15 : decode cX0_gather 15 = .ok (.invokevirtual 49, 3) := z_dk tdX0_gather_0 9 rfl
theorem dX0_gather_18 : decode cX0_gather 18 = .ok (.bipush 7, 2) := z_dk tdX0_gather_0 10 rfl
theorem dX0_gather_20 : decode cX0_gather 20 = .ok (.if_icmp .eq 6, 3) := z_dk tdX0_gather_0 11 rfl
theorem dX0_gather_23 : decode cX0_gather 23 = .ok (.goto 222, 3) := z_dk tdX0_gather_0 12 rfl
theorem dX0_gather_26 : decode cX0_gather 26 = .ok (.iload_n 3, 1) := z_dk tdX0_gather_0 13 rfl
theorem dX0_gather_27 : decode cX0_gather 27 = .ok (.iload_n 1, 1) := z_dk tdX0_gather_0 14 rfl
theorem dX0_gather_28 : decode cX0_gather 28 = .ok (.if_icmp .eq 30, 3) := z_dk tdX0_gather_0 15 rfl
theorem dX0_gather_31 : decode cX0_gather 31 = .ok (.aload_n 0, 1) := z_dk tdX0_gather_0 16 rfl
theorem dX0_gather_32 : decode cX0_gather 32 = .ok (.getfield 41, 3) := z_dk tdX0_gather_0 17 rfl
theorem dX0_gather_35 : decode cX0_gather 35 = .ok (.getfield 58, 3) := z_dk tdX0_gather_0 18 rfl
theorem dX0_gather_38 : decode cX0_gather 38 = .ok (.iload_n 3, 1) := z_dk tdX0_gather_0 19 rfl
theorem dX0_gather_39 : decode cX0_gather 39 = .ok (.iconst 1, 1) := z_dk tdX0_gather_0 20 rfl
theorem dX0_gather_40 : decode cX0_gather 40 = .ok (.isub, 1) := z_dk tdX0_gather_0 21 rfl
theorem dX0_gather_41 : decode cX0_gather 41 = .ok (.invokevirtual 49, 3) := z_dk tdX0_gather_0 22 rfl
theorem dX0_gather_44 : decode cX0_gather 44 = .ok (.aload_n 0, 1) := z_dk tdX0_gather_0 23 rfl
theorem tdX0_gather_45 : (([(45, .getfield 41, 3), (48, .getfield 58, 3), (51, .iload_n 3, 1), (52, .invokevirtual 49, 3), (55, .if_icmp .eq 61, 3), (58, .aload_n 0, 1), (59, .getfield 14, 3), (62, .aload_n 0, 1), (63, .getfield 45, 3), (66, .iload_n 3, 1), (67, .invokevirtual 61, 3), (70, .aload_n 0, 1), (71, .getfield 23, 3), (74, .aload_n 0, 1), (75, .getfield 45, 3), (78, .iconst 0, 1), (79, .invokevirtual 61, 3), (82, .aload_n 0, 1), (83, .getfield 35, 3), (86, .aload_n 0, 1), (87, .getfield 45, 3), (90, .iconst 0, 1), (91, .invokevirtual 61, 3), (94, .aload_n 0, 1)] : List (Nat × Instr × Nat)).all fun e => decide (decode cX0_gather e.1 = .ok e.2)) = true := by decide +kernel
theorem dX0_gather_45 : decode cX0_gather 45 = .ok (.getfield 41, 3) := z_dk tdX0_gather_45 0 rfl
theorem dX0_gather_48 : decode cX0_gather 48 = .ok (.getfield 58, 3) := z_dk tdX0_gather_45 1 rfl
theorem dX0_gather_51 : decode cX0_gather 51 = .ok (.iload_n 3, 1) := z_dk tdX0_gather_45 2 rfl
theorem dX0_gather_52 : decode cX0_gather 52 = .ok (.invokevirtual 49, 3) := z_dk tdX0_gather_45 3 rfl
theorem dX0_gather_55 : decode cX0_gather 55 = .ok (.if_icmp .eq 61, 3) := z_dk tdX0_gather_45 4 rfl
theorem dX0_gather_58 : decode cX0_gather 58 = .ok (.aload_n 0, 1) := z_dk tdX0_gather_45 5 rfl
theorem dX0_gather_59 : decode cX0_gather 59 = .ok (.getfield 14, 3) := z_dk tdX0_gather_45 6 rfl
theorem dX0_gather_62 : decode cX0_gather 62 = .ok (.aload_n 0, 1) := z_dk tdX0_gather_45 7 rfl
theorem dX0_gather_63 : decode cX0_gather 63 = .ok (.getfield 45, 3) := z_dk tdX0_gather_45 8 rfl
theorem dX0_gather_66 : decode cX0_gather 66 = .ok (.iload_n 3, 1) := z_dk tdX0_gather_45 9 rfl
theorem dX0_gather_67 : decode cX0_gather 67 = .ok (.invokevirtual 61, 3) := z_dk tdX0_gather_45 10 rfl
theorem dX0_gather_70 : decode cX0_gather 70 = .ok (.aload_n 0, 1) := z_dk tdX0_gather_45 11 rfl
theorem dX0_gather_71 : decode cX0_gather 71 = .ok (.getfield 23, 3) := z_dk tdX0_gather_45 12 rfl
theorem dX0_gather_74 : decode cX0_gather 74 = .ok (.aload_n 0, 1) := z_dk tdX0_gather_45 13 rfl
theorem dX0_gather_75 : decode cX0_gather 75 = .ok (.getfield 45, 3) := z_dk tdX0_gather_45 14 rfl
theorem dX0_gather_78 : decode cX0_gather 78 = .ok (.iconst 0, 1) := z_dk tdX0_gather_45 15 rfl
theorem dX0_gather_79 : decode cX0_gather 79 = .ok (.invokevirtual 61, 3) := z_dk tdX0_gather_45 16 rfl
theorem dX0_gather_82 : decode cX0_gather 82 = .ok (.aload_n 0, 1) := z_dk tdX0_gather_45 17 rfl
theorem dX0_gather_83 : decode cX0_gather 83 = .ok (.getfield 35, 3) := z_dk tdX0_gather_45 18 rfl
theorem dX0_gather_86 : decode cX0_gather 86 = .ok (.aload_n 0, 1) := z_dk tdX0_gather_45 19 rfl
theorem dX0_gather_87 : decode cX0_gather 87 = .ok (.getfield 45, 3) := z_dk tdX0_gather_45 20 rfl
theorem dX0_gather_90 : decode cX0_gather 90 = .ok (.iconst 0, 1) := z_dk tdX0_gather_45 21 rfl
theorem dX0_gather_91 : decode cX0_gather 91 = .ok (.invokevirtual 61, 3) := z_dk tdX0_gather_45 22 rfl
theorem dX0_gather_94 : decode cX0_gather 94 = .ok (.aload_n 0, 1) := z_dk tdX0_gather_45 23 rfl
theorem tdX0_gather_95 : (([(95, .getfield 38, 3), (98, .aload_n 0, 1), (99, .getfield 45, 3), (102, .iconst 0, 1), (103, .invokevirtual 61, 3), (106, .aload_n 0, 1), (107, .dup, 1), (108, .getfield 45, 3), (111, .iconst 1, 1), (112, .iadd, 1), (113, .putfield 45, 3), (116, .aload_n 0, 1), (117, .getfield 45, 3), (120, .iconst 1, 1), (121, .isub, 1), (122, .istore 4, 2), (124, .aload_n 0, 1), (125, .getfield 20, 3), (128, .iload 4, 2), (130, .iload_n 3, 1), (131, .invokevirtual 61, 3), (134, .aload_n 0, 1), (135, .getfield 23, 3), (138, .iload 4, 2)] : List (Nat × Instr × Nat)).all fun e => decide (decode cX0_gather e.1 = .ok e.2)) = true := by decide +kernel
theorem dX0_gather_95 : decode cX0_gather 95 = .ok (.getfield 38, 3) := z_dk tdX0_gather_95 0 rfl
theorem dX0_gather_98 : decode cX0_gather 98 = .ok (.aload_n 0, 1) := z_dk tdX0_gather_95 1 rfl
theorem dX0_gather_99 : decode cX0_gather 99 = .ok (.getfield 45, 3) := z_dk tdX0_gather_95 2 rfl
theorem dX0_gather_102 : decode cX0_gather 102 = .ok (.iconst 0, 1) := z_dk tdX0_gather_95 3 rfl
theorem dX0_gather_103 : decode cX0_gather 103 = .ok (.invokevirtual 61, 3) := z_dk tdX0_gather_95 4 rfl
theorem dX0_gather_106 : decode cX0_gather 106 = .ok (.aload_n 0, 1) := z_dk tdX0_gather_95 5 rfl
theorem dX0_gather_107 : decode cX0_gather 107 = .ok (.dup, 1) := z_dk tdX0_gather_95 6 rfl
theorem dX0_gather_108 : decode cX0_gather 108 = .ok (.getfield 45, 3) := z_dk tdX0_gather_95 7 rfl
theorem dX0_gather_111 : decode cX0_gather 111 = .ok (.iconst 1, 1) := z_dk tdX0_gather_95 8 rfl
theorem dX0_gather_112 : decode cX0_gather 112 = .ok (.iadd, 1) := z_dk tdX0_gather_95 9 rfl
theorem dX0_gather_113 : decode cX0_gather 113 = .ok (.putfield 45, 3) := z_dk tdX0_gather_95 10 rfl
theorem dX0_gather_116 : decode cX0_gather 116 = .ok (.aload_n 0, 1) := z_dk tdX0_gather_95 11 rfl
theorem dX0_gather_117 : decode cX0_gather 117 = .ok (.getfield 45, 3) := z_dk tdX0_gather_95 12 rfl
theorem dX0_gather_120 : decode cX0_gather 120 = .ok (.iconst 1, 1) := z_dk tdX0_gather_95 13 rfl
theorem dX0_gather_121 : decode cX0_gather 121 = .ok (.isub, 1) := z_dk tdX0_gather_95 14 rfl
theorem dX0_gather_122 : decode cX0_gather 122 = .ok (.istore 4, 2) := z_dk tdX0_gather_95 15 rfl
theorem dX0_gather_124 : decode cX0_gather 124 = .ok (.aload_n 0, 1) := z_dk tdX0_gather_95 16 rfl
theorem dX0_gather_125 : decode cX0_gather 125 = .ok (.getfield 20, 3) := z_dk tdX0_gather_95 17 rfl
theorem dX0_gather_128 : decode cX0_gather 128 = .ok (.iload 4, 2) := z_dk tdX0_gather_95 18 rfl
theorem dX0_gather_130 : decode cX0_gather 130 = .ok (.iload_n 3, 1) := z_dk tdX0_gather_95 19 rfl
theorem dX0_gather_131 : decode cX0_gather 131 = .ok (.invokevirtual 61, 3) := z_dk tdX0_gather_95 20 rfl
theorem dX0_gather_134 : decode cX0_gather 134 = .ok (.aload_n 0, 1) := z_dk tdX0_gather_95 21 rfl
theorem dX0_gather_135 : decode cX0_gather 135 = .ok (.getfield 23, 3) := z_dk tdX0_gather_95 22 rfl
theorem dX0_gather_138 : decode cX0_gather 138 = .ok (.iload 4, 2) := z_dk tdX0_gather_95 23 rfl
theorem tdX0_gather_140 : (([(140, .aload_n 0, 1), (141, .getfield 41, 3), (144, .getfield 65, 3), (147, .iload_n 3, 1), (148, .invokevirtual 49, 3), (151, .invokevirtual 68, 3), (154, .aload_n 0, 1), (155, .getfield 35, 3), (158, .iload 4, 2), (160, .aload_n 0, 1), (161, .getfield 41, 3), (164, .getfield 71, 3), (167, .iload_n 3, 1), (168, .invokevirtual 49, 3), (171, .invokevirtual 68, 3), (174, .aload_n 0, 1), (175, .getfield 38, 3), (178, .iload 4, 2), (180, .aload_n 0, 1), (181, .getfield 41, 3), (184, .getfield 72, 3), (187, .iload_n 3, 1), (188, .invokevirtual 49, 3), (191, .invokevirtual 68, 3)] : List (Nat × Instr × Nat)).all fun e => decide (decode cX0_gather e.1 = .ok e.2)) = true := by decide +kernel
theorem dX0_gather_140 : decode cX0_gather 140 = .ok (.aload_n 0, 1) := z_dk tdX0_gather_140 0 rfl
theorem dX0_gather_141 : decode cX0_gather 141 = .ok (.getfield 41, 3) := z_dk tdX0_gather_140 1 rfl
theorem dX0_gather_144 : decode cX0_gather 144 = .ok (.getfield 65, 3) := z_dk tdX0_gather_140 2 rfl
theorem dX0_gather_147 : decode cX0_gather 147 = .ok (.iload_n 3, 1) := z_dk tdX0_gather_140 3 rfl
theorem dX0_gather_148 : decode cX0_gather 148 = .ok (.invokevirtual 49, 3) := z_dk tdX0_gather_140 4 rfl
theorem dX0_gather_151 : decode cX0_gather 151 = .ok (.invokevirtual 68, 3) := z_dk tdX0_gather_140 5 rfl
theorem dX0_gather_154 : decode cX0_gather 154 = .ok (.aload_n 0, 1) := z_dk tdX0_gather_140 6 rfl
theorem dX0_gather_155 : decode cX0_gather 155 = .ok (.getfield 35, 3) := z_dk tdX0_gather_140 7 rfl
theorem dX0_gather_158 : decode cX0_gather 158 = .ok (.iload 4, 2) := z_dk tdX0_gather_140 8 rfl
theorem dX0_gather_160 : decode cX0_gather 160 = .ok (.aload_n 0, 1) := z_dk tdX0_gather_140 9 rfl
theorem dX0_gather_161 : decode cX0_gather 161 = .ok (.getfield 41, 3) := z_dk tdX0_gather_140 10 rfl
theorem dX0_gather_164 : decode cX0_gather 164 = .ok (.getfield 71, 3) := z_dk tdX0_gather_140 11 rfl
theorem dX0_gather_167 : decode cX0_gather 167 = .ok (.iload_n 3, 1) := z_dk tdX0_gather_140 12 rfl
theorem dX0_gather_168 : decode cX0_gather 168 = .ok (.invokevirtual 49, 3) := z_dk tdX0_gather_140 13 rfl
theorem dX0_gather_171 : decode cX0_gather 171 = .ok (.invokevirtual 68, 3) := z_dk tdX0_gather_140 14 rfl
theorem dX0_gather_174 : decode cX0_gather 174 = .ok (.aload_n 0, 1) := z_dk tdX0_gather_140 15 rfl
theorem dX0_gather_175 : decode cX0_gather 175 = .ok (.getfield 38, 3) := z_dk tdX0_gather_140 16 rfl
theorem dX0_gather_178 : decode cX0_gather 178 = .ok (.iload 4, 2) := z_dk tdX0_gather_140 17 rfl
theorem dX0_gather_180 : decode cX0_gather 180 = .ok (.aload_n 0, 1) := z_dk tdX0_gather_140 18 rfl
theorem dX0_gather_181 : decode cX0_gather 181 = .ok (.getfield 41, 3) := z_dk tdX0_gather_140 19 rfl
theorem dX0_gather_184 : decode cX0_gather 184 = .ok (.getfield 72, 3) := z_dk tdX0_gather_140 20 rfl
theorem dX0_gather_187 : decode cX0_gather 187 = .ok (.iload_n 3, 1) := z_dk tdX0_gather_140 21 rfl
theorem dX0_gather_188 : decode cX0_gather 188 = .ok (.invokevirtual 49, 3) := z_dk tdX0_gather_140 22 rfl
theorem dX0_gather_191 : decode cX0_gather 191 = .ok (.invokevirtual 68, 3) := z_dk tdX0_gather_140 23 rfl
theorem tdX0_gather_194 : (([(194, .bipush 6, 2), (196, .aload_n 0, 1), (197, .getfield 35, 3), (200, .iload 4, 2), (202, .invokevirtual 49, 3), (205, .aload_n 0, 1), (206, .getfield 38, 3), (209, .iload 4, 2), (211, .invokevirtual 49, 3), (214, .invokestatic 73, 3), (217, .imul, 1), (218, .istore 5, 2), (220, .aload_n 0, 1), (221, .getfield 26, 3), (224, .iload 4, 2), (226, .iconst 0, 1), (227, .iload 5, 2), (229, .aload_n 0, 1), (230, .getfield 23, 3), (233, .iload 4, 2), (235, .invokevirtual 49, 3), (238, .isub, 1), (239, .invokestatic 73, 3), (242, .invokevirtual 61, 3)] : List (Nat × Instr × Nat)).all fun e => decide (decode cX0_gather e.1 = .ok e.2)) = true := by decide +kernel
theorem dX0_gather_194 : decode cX0_gather 194 = .ok (.bipush 6, 2) := z_dk tdX0_gather_194 0 rfl
theorem dX0_gather_196 : decode cX0_gather 196 = .ok (.aload_n 0, 1) := z_dk tdX0_gather_194 1 rfl
theorem dX0_gather_197 : decode cX0_gather 197 = .ok (.getfield 35, 3) := z_dk tdX0_gather_194 2 rfl
theorem dX0_gather_200 : decode cX0_gather 200 = .ok (.iload 4, 2) := z_dk tdX0_gather_194 3 rfl
theorem dX0_gather_202 : decode cX0_gather 202 = .ok (.invokevirtual 49, 3) := z_dk tdX0_gather_194 4 rfl
theorem dX0_gather_205 : decode cX0_gather 205 = .ok (.aload_n 0, 1) := z_dk tdX0_gather_194 5 rfl
theorem dX0_gather_206 : decode cX0_gather 206 = .ok (.getfield 38, 3) := z_dk tdX0_gather_194 6 rfl
theorem dX0_gather_209 : decode cX0_gather 209 = .ok (.iload 4, 2) := z_dk tdX0_gather_194 7 rfl
theorem dX0_gather_211 : decode cX0_gather 211 = .ok (.invokevirtual 49, 3) := z_dk tdX0_gather_194 8 rfl
theorem dX0_gather_214 : decode cX0_gather 214 = .ok (.invokestatic 73, 3) := z_dk tdX0_gather_194 9 rfl
theorem dX0_gather_217 : decode cX0_gather 217 = .ok (.imul, 1) := z_dk tdX0_gather_194 10 rfl
theorem dX0_gather_218 : decode cX0_gather 218 = .ok (.istore 5, 2) := z_dk tdX0_gather_194 11 rfl
theorem dX0_gather_220 : decode cX0_gather 220 = .ok (.aload_n 0, 1) := z_dk tdX0_gather_194 12 rfl
theorem dX0_gather_221 : decode cX0_gather 221 = .ok (.getfield 26, 3) := z_dk tdX0_gather_194 13 rfl
theorem dX0_gather_224 : decode cX0_gather 224 = .ok (.iload 4, 2) := z_dk tdX0_gather_194 14 rfl
theorem dX0_gather_226 : decode cX0_gather 226 = .ok (.iconst 0, 1) := z_dk tdX0_gather_194 15 rfl
theorem dX0_gather_227 : decode cX0_gather 227 = .ok (.iload 5, 2) := z_dk tdX0_gather_194 16 rfl
theorem dX0_gather_229 : decode cX0_gather 229 = .ok (.aload_n 0, 1) := z_dk tdX0_gather_194 17 rfl
theorem dX0_gather_230 : decode cX0_gather 230 = .ok (.getfield 23, 3) := z_dk tdX0_gather_194 18 rfl
theorem dX0_gather_233 : decode cX0_gather 233 = .ok (.iload 4, 2) := z_dk tdX0_gather_194 19 rfl
theorem dX0_gather_235 : decode cX0_gather 235 = .ok (.invokevirtual 49, 3) := z_dk tdX0_gather_194 20 rfl
theorem dX0_gather_238 : decode cX0_gather 238 = .ok (.isub, 1) := z_dk tdX0_gather_194 21 rfl
theorem dX0_gather_239 : decode cX0_gather 239 = .ok (.invokestatic 73, 3) := z_dk tdX0_gather_194 22 rfl
theorem dX0_gather_242 : decode cX0_gather 242 = .ok (.invokevirtual 61, 3) := z_dk tdX0_gather_194 23 rfl
theorem tdX0_gather_245 : (([(245, .iinc 3 1, 3), (248, .goto (-246), 3), (251, .return_, 1)] : List (Nat × Instr × Nat)).all fun e => decide (decode cX0_gather e.1 = .ok e.2)) = true := by decide +kernel
theorem dX0_gather_245 : decode cX0_gather 245 = .ok (.iinc 3 1, 3) := z_dk tdX0_gather_245 0 rfl
theorem dX0_gather_248 : decode cX0_gather 248 = .ok (.goto (-246), 3) := z_dk tdX0_gather_245 1 rfl
theorem dX0_gather_251 : decode cX0_gather 251 = .ok (.return_, 1) := z_dk tdX0_gather_245 2 rfl
theorem tdX0_hang_0 : (([(0, .iconst 0, 1), (1, .istore 5, 2), (3, .iload_n 2, 1), (4, .istore 6, 2), (6, .iload_n 1, 1), (7, .istore 7, 2), (9, .iload 7, 2), (11, .aload_n 0, 1), (12, .getfield 45, 3), (15, .if_icmp .ge 286, 3), (18, .aload_n 0, 1), (19, .getfield 20, 3), (22, .iload 7, 2), (24, .invokevirtual 49, 3), (27, .iconst 1, 1), (28, .iadd, 1), (29, .istore 8, 2), (31, .aload_n 0, 1), (32, .getfield 26, 3), (35, .iload 7, 2), (37, .invokevirtual 49, 3), (40, .istore 9, 2), (42, .aload_n 0, 1), (43, .getfield 14, 3)] : List (Nat × Instr × Nat)).all fun e => decide (decode cX0_hang e.1 = .ok e.2)) = true := by decide +kernel
theorem dX0_hang_0 : decode cX0_hang 0 = .ok (.iconst 0, 1) := z_dk tdX0_hang_0 0 rfl
theorem dX0_hang_1 : decode cX0_hang 1 = .ok (.istore 5, 2) := z_dk tdX0_hang_0 1 rfl
theorem dX0_hang_3 : decode cX0_hang 3 = .ok (.iload_n 2, 1) := z_dk tdX0_hang_0 2 rfl
theorem dX0_hang_4 : decode cX0_hang 4 = .ok (.istore 6, 2) := z_dk tdX0_hang_0 3 rfl
theorem dX0_hang_6 : decode cX0_hang 6 = .ok (.iload_n 1, 1) := z_dk tdX0_hang_0 4 rfl
theorem dX0_hang_7 : decode cX0_hang 7 = .ok (.istore 7, 2) := z_dk tdX0_hang_0 5 rfl
theorem dX0_hang_9 : decode cX0_hang 9 = .ok (.iload 7, 2) := z_dk tdX0_hang_0 6 rfl
theorem dX0_hang_11 : decode cX0_hang 11 = .ok (.aload_n 0, 1) := z_dk tdX0_hang_0 7 rfl
theorem dX0_hang_12 : decode cX0_hang 12 = .ok (.getfield 45, 3) := z_dk tdX0_hang_0 8 rfl
theorem dX0_hang_15 : decode cX0_hang 15 = .ok (.if_icmp .ge 286, 3) := z_dk tdX0_hang_0 9 rfl
theorem dX0_hang_18 : decode cX0_hang 18 = .ok (.aload_n 0, 1) := z_dk tdX0_hang_0 10 rfl
theorem dX0_hang_19 : decode cX0_hang 19 = .ok (.getfield 20, 3) := z_dk tdX0_hang_0 11 rfl
theorem dX0_hang_22 : decode cX0_hang 22 = .ok (.iload 7, 2) := z_dk tdX0_hang_0 12 rfl
theorem dX0_hang_24 : decode cX0_hang 24 = .ok (.invokevirtual 49, 3) := z_dk tdX0_hang_0 13 rfl
theorem dX0_hang_27 : decode cX0_hang 27 = .ok (.iconst 1, 1) := z_dk tdX0_hang_0 14 rfl
theorem dX0_hang_28 : decode cX0_hang 28 = .ok (.iadd, 1) := z_dk tdX0_hang_0 15 rfl
theorem dX0_hang_29 : decode cX0_hang 29 = .ok (.istore 8, 2) := z_dk tdX0_hang_0 16 rfl
theorem dX0_hang_31 : decode cX0_hang 31 = .ok (.aload_n 0, 1) := z_dk tdX0_hang_0 17 rfl
theorem dX0_hang_32 : decode cX0_hang 32 = .ok (.getfield 26, 3) := z_dk tdX0_hang_0 18 rfl
theorem dX0_hang_35 : decode cX0_hang 35 = .ok (.iload 7, 2) := z_dk tdX0_hang_0 19 rfl
theorem dX0_hang_37 : decode cX0_hang 37 = .ok (.invokevirtual 49, 3) := z_dk tdX0_hang_0 20 rfl
theorem dX0_hang_40 : decode cX0_hang 40 = .ok (.istore 9, 2) := z_dk tdX0_hang_0 21 rfl
theorem dX0_hang_42 : decode cX0_hang 42 = .ok (.aload_n 0, 1) := z_dk tdX0_hang_0 22 rfl
theorem dX0_hang_43 : decode cX0_hang 43 = .ok (.getfield 14, 3) := z_dk tdX0_hang_0 23 rfl
theorem tdX0_hang_46 : (([(46, .iload 7, 2), (48, .invokevirtual 49, 3), (51, .iload 6, 2), (53, .if_icmp .le 33, 3), (56, .aload_n 0, 1), (57, .getfield 41, 3), (60, .getfield 53, 3), (63, .aload_n 0, 1), (64, .getfield 14, 3), (67, .iload 7, 2), (69, .invokevirtual 49, 3), (72, .iconst 1, 1), (73, .isub, 1), (74, .invokevirtual 49, 3), (77, .iload 4, 2), (79, .iconst 1, 1), (80, .invokestatic 79, 3), (83, .goto 4, 3), (86, .iconst 0, 1), (87, .istore 10, 2), (89, .iload 8, 2), (91, .iload_n 3, 1), (92, .if_icmp .gt 24, 3), (95, .aload_n 0, 1)] : List (Nat × Instr × Nat)).all fun e => decide (decode cX0_hang e.1 = .ok e.2)) = true := by decide +kernel
theorem dX0_hang_46 : decode cX0_hang 46 = .ok (.iload 7, 2) := z_dk tdX0_hang_46 0 rfl
theorem dX0_hang_48 : decode cX0_hang 48 = .ok (.invokevirtual 49, 3) := z_dk tdX0_hang_46 1 rfl
theorem dX0_hang_51 : decode cX0_hang 51 = .ok (.iload 6, 2) := z_dk tdX0_hang_46 2 rfl
theorem dX0_hang_53 : decode cX0_hang 53 = .ok (.if_icmp .le 33, 3) := z_dk tdX0_hang_46 3 rfl
theorem dX0_hang_56 : decode cX0_hang 56 = .ok (.aload_n 0, 1) := z_dk tdX0_hang_46 4 rfl
theorem dX0_hang_57 : decode cX0_hang 57 = .ok (.getfield 41, 3) := z_dk tdX0_hang_46 5 rfl
theorem dX0_hang_60 : decode cX0_hang 60 = .ok (.getfield 53, 3) := z_dk tdX0_hang_46 6 rfl
theorem dX0_hang_63 : decode cX0_hang 63 = .ok (.aload_n 0, 1) := z_dk tdX0_hang_46 7 rfl
theorem dX0_hang_64 : decode cX0_hang 64 = .ok (.getfield 14, 3) := z_dk tdX0_hang_46 8 rfl
theorem dX0_hang_67 : decode cX0_hang 67 = .ok (.iload 7, 2) := z_dk tdX0_hang_46 9 rfl
theorem dX0_hang_69 : decode cX0_hang 69 = .ok (.invokevirtual 49, 3) := z_dk tdX0_hang_46 10 rfl
theorem dX0_hang_72 : decode cX0_hang 72 = .ok (.iconst 1, 1) := z_dk tdX0_hang_46 11 rfl
theorem dX0_hang_73 : decode cX0_hang 73 = .ok (.isub, 1) := z_dk tdX0_hang_46 12 rfl
theorem dX0_hang_74 : decode cX0_hang 74 = .ok (.invokevirtual 49, 3) := z_dk tdX0_hang_46 13 rfl
theorem dX0_hang_77 : decode cX0_hang 77 = .ok (.iload 4, 2) := z_dk tdX0_hang_46 14 rfl
theorem dX0_hang_79 : decode cX0_hang 79 = .ok (.iconst 1, 1) := z_dk tdX0_hang_46 15 rfl
theorem dX0_hang_80 : decode cX0_hang 80 = .ok (.invokestatic 79, 3) := z_dk tdX0_hang_46 16 rfl
theorem dX0_hang_83 : decode cX0_hang 83 = .ok (.goto 4, 3) := z_dk tdX0_hang_46 17 rfl
theorem dX0_hang_86 : decode cX0_hang 86 = .ok (.iconst 0, 1) := z_dk tdX0_hang_46 18 rfl
theorem dX0_hang_87 : decode cX0_hang 87 = .ok (.istore 10, 2) := z_dk tdX0_hang_46 19 rfl
theorem dX0_hang_89 : decode cX0_hang 89 = .ok (.iload 8, 2) := z_dk tdX0_hang_46 20 rfl
theorem dX0_hang_91 : decode cX0_hang 91 = .ok (.iload_n 3, 1) := z_dk tdX0_hang_46 21 rfl
theorem dX0_hang_92 : decode cX0_hang 92 = .ok (.if_icmp .gt 24, 3) := z_dk tdX0_hang_46 22 rfl
theorem dX0_hang_95 : decode cX0_hang 95 = .ok (.aload_n 0, 1) := z_dk tdX0_hang_46 23 rfl
theorem tdX0_hang_96 : (([(96, .getfield 41, 3), (99, .getfield 53, 3), (102, .iload 8, 2), (104, .invokevirtual 49, 3), (107, .iload 4, 2), (109, .iconst 0, 1), (110, .invokestatic 79, 3), (113, .goto 4, 3), (116, .iconst 0, 1), (117, .istore 11, 2), (119, .iload 9, 2), (121, .ifCond .le 54, 3), (124, .iload 7, 2), (126, .iload_n 1, 1), (127, .if_icmp .le 48, 3), (130, .aload_n 0, 1), (131, .getfield 20, 3), (134, .iload 7, 2), (136, .iconst 1, 1), (137, .isub, 1), (138, .invokevirtual 49, 3), (141, .iconst 2, 1), (142, .iadd, 1), (143, .aload_n 0, 1)] : List (Nat × Instr × Nat)).all fun e => decide (decode cX0_hang e.1 = .ok e.2)) = true := by decide +kernel
theorem dX0_hang_96 : decode cX0_hang 96 = .ok (.getfield 41, 3) := z_dk tdX0_hang_96 0 rfl
theorem dX0_hang_99 : decode cX0_hang 99 = .ok (.getfield 53, 3) := z_dk tdX0_hang_96 1 rfl
theorem dX0_hang_102 : decode cX0_hang 102 = .ok (.iload 8, 2) := z_dk tdX0_hang_96 2 rfl
theorem dX0_hang_104 : decode cX0_hang 104 = .ok (.invokevirtual 49, 3) := z_dk tdX0_hang_96 3 rfl
theorem dX0_hang_107 : decode cX0_hang 107 = .ok (.iload 4, 2) := z_dk tdX0_hang_96 4 rfl
theorem dX0_hang_109 : decode cX0_hang 109 = .ok (.iconst 0, 1) := z_dk tdX0_hang_96 5 rfl
theorem dX0_hang_110 : decode cX0_hang 110 = .ok (.invokestatic 79, 3) := z_dk tdX0_hang_96 6 rfl
theorem dX0_hang_113 : decode cX0_hang 113 = .ok (.goto 4, 3) := z_dk tdX0_hang_96 7 rfl
theorem dX0_hang_116 : decode cX0_hang 116 = .ok (.iconst 0, 1) := z_dk tdX0_hang_96 8 rfl
theorem dX0_hang_117 : decode cX0_hang 117 = .ok (.istore 11, 2) := z_dk tdX0_hang_96 9 rfl
theorem dX0_hang_119 : decode cX0_hang 119 = .ok (.iload 9, 2) := z_dk tdX0_hang_96 10 rfl
theorem dX0_hang_121 : decode cX0_hang 121 = .ok (.ifCond .le 54, 3) := z_dk tdX0_hang_96 11 rfl
theorem dX0_hang_124 : decode cX0_hang 124 = .ok (.iload 7, 2) := z_dk tdX0_hang_96 12 rfl
theorem dX0_hang_126 : decode cX0_hang 126 = .ok (.iload_n 1, 1) := z_dk tdX0_hang_96 13 rfl
theorem dX0_hang_127 : decode cX0_hang 127 = .ok (.if_icmp .le 48, 3) := z_dk tdX0_hang_96 14 rfl
theorem dX0_hang_130 : decode cX0_hang 130 = .ok (.aload_n 0, 1) := z_dk tdX0_hang_96 15 rfl
theorem dX0_hang_131 : decode cX0_hang 131 = .ok (.getfield 20, 3) := z_dk tdX0_hang_96 16 rfl
theorem dX0_hang_134 : decode cX0_hang 134 = .ok (.iload 7, 2) := z_dk tdX0_hang_96 17 rfl
theorem dX0_hang_136 : decode cX0_hang 136 = .ok (.iconst 1, 1) := z_dk tdX0_hang_96 18 rfl
theorem dX0_hang_137 : decode cX0_hang 137 = .ok (.isub, 1) := z_dk tdX0_hang_96 19 rfl
theorem dX0_hang_138 : decode cX0_hang 138 = .ok (.invokevirtual 49, 3) := z_dk tdX0_hang_96 20 rfl
theorem dX0_hang_141 : decode cX0_hang 141 = .ok (.iconst 2, 1) := z_dk tdX0_hang_96 21 rfl
theorem dX0_hang_142 : decode cX0_hang 142 = .ok (.iadd, 1) := z_dk tdX0_hang_96 22 rfl
theorem dX0_hang_143 : decode cX0_hang 143 = .ok (.aload_n 0, 1) := z_dk tdX0_hang_96 23 rfl
theorem tdX0_hang_144 : (([(144, .getfield 14, 3), (147, .iload 7, 2), (149, .invokevirtual 49, 3), (152, .if_icmp .ne 23, 3), (155, .aload_n 0, 1), (156, .getfield 26, 3), (159, .iload 7, 2), (161, .iconst 1, 1), (162, .isub, 1), (163, .invokevirtual 49, 3), (166, .ifCond .le 9, 3), (169, .iload 10, 2), (171, .iconst 2, 1), (172, .idiv, 1), (173, .istore 10, 2), (175, .iload 9, 2), (177, .ifCond .le 52, 3), (180, .iload 7, 2), (182, .iconst 1, 1), (183, .iadd, 1), (184, .aload_n 0, 1), (185, .getfield 45, 3), (188, .if_icmp .ge 41, 3), (191, .aload_n 0, 1)] : List (Nat × Instr × Nat)).all fun e => decide (decode cX0_hang e.1 = .ok e.2)) = true := by decide +kernel
theorem dX0_hang_144 : decode cX0_hang 144 = .ok (.getfield 14, 3) := z_dk tdX0_hang_144 0 rfl
theorem dX0_hang_147 : decode cX0_hang 147 = .ok (.iload 7, 2) := z_dk tdX0_hang_144 1 rfl
theorem dX0_hang_149 : decode cX0_hang 149 = .ok (.invokevirtual 49, 3) := z_dk tdX0_hang_144 2 rfl
theorem dX0_hang_152 : decode cX0_hang 152 = .ok (.if_icmp .ne 23, 3) := z_dk tdX0_hang_144 3 rfl
theorem dX0_hang_155 : decode cX0_hang 155 = .ok (.aload_n 0, 1) := z_dk tdX0_hang_144 4 rfl
theorem dX0_hang_156 : decode cX0_hang 156 = .ok (.getfield 26, 3) := z_dk tdX0_hang_144 5 rfl
theorem dX0_hang_159 : decode cX0_hang 159 = .ok (.iload 7, 2) := z_dk tdX0_hang_144 6 rfl
theorem dX0_hang_161 : decode cX0_hang 161 = .ok (.iconst 1, 1) := z_dk tdX0_hang_144 7 rfl
theorem dX0_hang_162 : decode cX0_hang 162 = .ok (.isub, 1) := z_dk tdX0_hang_144 8 rfl
theorem dX0_hang_163 : decode cX0_hang 163 = .ok (.invokevirtual 49, 3) := z_dk tdX0_hang_144 9 rfl
theorem dX0_hang_166 : decode cX0_hang 166 = .ok (.ifCond .le 9, 3) := z_dk tdX0_hang_144 10 rfl
theorem dX0_hang_169 : decode cX0_hang 169 = .ok (.iload 10, 2) := z_dk tdX0_hang_144 11 rfl
theorem dX0_hang_171 : decode cX0_hang 171 = .ok (.iconst 2, 1) := z_dk tdX0_hang_144 12 rfl
theorem dX0_hang_172 : decode cX0_hang 172 = .ok (.idiv, 1) := z_dk tdX0_hang_144 13 rfl
theorem dX0_hang_173 : decode cX0_hang 173 = .ok (.istore 10, 2) := z_dk tdX0_hang_144 14 rfl
theorem dX0_hang_175 : decode cX0_hang 175 = .ok (.iload 9, 2) := z_dk tdX0_hang_144 15 rfl
theorem dX0_hang_177 : decode cX0_hang 177 = .ok (.ifCond .le 52, 3) := z_dk tdX0_hang_144 16 rfl
theorem dX0_hang_180 : decode cX0_hang 180 = .ok (.iload 7, 2) := z_dk tdX0_hang_144 17 rfl
theorem dX0_hang_182 : decode cX0_hang 182 = .ok (.iconst 1, 1) := z_dk tdX0_hang_144 18 rfl
theorem dX0_hang_183 : decode cX0_hang 183 = .ok (.iadd, 1) := z_dk tdX0_hang_144 19 rfl
theorem dX0_hang_184 : decode cX0_hang 184 = .ok (.aload_n 0, 1) := z_dk tdX0_hang_144 20 rfl
theorem dX0_hang_185 : decode cX0_hang 185 = .ok (.getfield 45, 3) := z_dk tdX0_hang_144 21 rfl
theorem dX0_hang_188 : decode cX0_hang 188 = .ok (.if_icmp .ge 41, 3) := z_dk tdX0_hang_144 22 rfl
theorem dX0_hang_191 : decode cX0_hang 191 = .ok (.aload_n 0, 1) := z_dk tdX0_hang_144 23 rfl
theorem tdX0_hang_192 : (([(192, .getfield 14, 3), (195, .iload 7, 2), (197, .iconst 1, 1), (198, .iadd, 1), (199, .invokevirtual 49, 3), (202, .iload 8, 2), (204, .iconst 1, 1), (205, .iadd, 1), (206, .if_icmp .ne 23, 3), (209, .aload_n 0, 1), (210, .getfield 26, 3), (213, .iload 7, 2), (215, .iconst 1, 1), (216, .iadd, 1), (217, .invokevirtual 49, 3), (220, .ifCond .le 9, 3), (223, .iload 11, 2), (225, .iconst 2, 1), (226, .idiv, 1), (227, .istore 11, 2), (229, .aload_n 0, 1), (230, .getfield 29, 3), (233, .iload 7, 2), (235, .iload 9, 2)] : List (Nat × Instr × Nat)).all fun e => decide (decode cX0_hang e.1 = .ok e.2)) = true := by decide +kernel
theorem dX0_hang_192 : decode cX0_hang 192 = .ok (.getfield 14, 3) := z_dk tdX0_hang_192 0 rfl
theorem dX0_hang_195 : decode cX0_hang 195 = .ok (.iload 7, 2) := z_dk tdX0_hang_192 1 rfl
theorem dX0_hang_197 : decode cX0_hang 197 = .ok (.iconst 1, 1) := z_dk tdX0_hang_192 2 rfl
theorem dX0_hang_198 : decode cX0_hang 198 = .ok (.iadd, 1) := z_dk tdX0_hang_192 3 rfl
theorem dX0_hang_199 : decode cX0_hang 199 = .ok (.invokevirtual 49, 3) := z_dk tdX0_hang_192 4 rfl
theorem dX0_hang_202 : decode cX0_hang 202 = .ok (.iload 8, 2) := z_dk tdX0_hang_192 5 rfl
theorem dX0_hang_204 : decode cX0_hang 204 = .ok (.iconst 1, 1) := z_dk tdX0_hang_192 6 rfl
theorem dX0_hang_205 : decode cX0_hang 205 = .ok (.iadd, 1) := z_dk tdX0_hang_192 7 rfl
theorem dX0_hang_206 : decode cX0_hang 206 = .ok (.if_icmp .ne 23, 3) := z_dk tdX0_hang_192 8 rfl
theorem dX0_hang_209 : decode cX0_hang 209 = .ok (.aload_n 0, 1) := z_dk tdX0_hang_192 9 rfl
theorem dX0_hang_210 : decode cX0_hang 210 = .ok (.getfield 26, 3) := z_dk tdX0_hang_192 10 rfl
theorem dX0_hang_213 : decode cX0_hang 213 = .ok (.iload 7, 2) := z_dk tdX0_hang_192 11 rfl
theorem dX0_hang_215 : decode cX0_hang 215 = .ok (.iconst 1, 1) := z_dk tdX0_hang_192 12 rfl
theorem dX0_hang_216 : decode cX0_hang 216 = .ok (.iadd, 1) := z_dk tdX0_hang_192 13 rfl
theorem dX0_hang_217 : decode cX0_hang 217 = .ok (.invokevirtual 49, 3) := z_dk tdX0_hang_192 14 rfl
theorem dX0_hang_220 : decode cX0_hang 220 = .ok (.ifCond .le 9, 3) := z_dk tdX0_hang_192 15 rfl
theorem dX0_hang_223 : decode cX0_hang 223 = .ok (.iload 11, 2) := z_dk tdX0_hang_192 16 rfl
theorem dX0_hang_225 : decode cX0_hang 225 = .ok (.iconst 2, 1) := z_dk tdX0_hang_192 17 rfl
theorem dX0_hang_226 : decode cX0_hang 226 = .ok (.idiv, 1) := z_dk tdX0_hang_192 18 rfl
theorem dX0_hang_227 : decode cX0_hang 227 = .ok (.istore 11, 2) := z_dk tdX0_hang_192 19 rfl
theorem dX0_hang_229 : decode cX0_hang 229 = .ok (.aload_n 0, 1) := z_dk tdX0_hang_192 20 rfl
theorem dX0_hang_230 : decode cX0_hang 230 = .ok (.getfield 29, 3) := z_dk tdX0_hang_192 21 rfl
theorem dX0_hang_233 : decode cX0_hang 233 = .ok (.iload 7, 2) := z_dk tdX0_hang_192 22 rfl
theorem dX0_hang_235 : decode cX0_hang 235 = .ok (.iload 9, 2) := z_dk tdX0_hang_192 23 rfl
theorem tdX0_hang_237 : (([(237, .iconst 2, 1), (238, .idiv, 1), (239, .iload 10, 2), (241, .invokestatic 83, 3), (244, .invokevirtual 61, 3), (247, .aload_n 0, 1), (248, .getfield 32, 3), (251, .iload 7, 2), (253, .iload 9, 2), (255, .iload 9, 2), (257, .iconst 2, 1), (258, .idiv, 1), (259, .isub, 1), (260, .iload 11, 2), (262, .invokestatic 83, 3), (265, .invokevirtual 61, 3), (268, .iload 5, 2), (270, .iload 9, 2), (272, .aload_n 0, 1), (273, .getfield 29, 3), (276, .iload 7, 2), (278, .invokevirtual 49, 3), (281, .isub, 1), (282, .aload_n 0, 1)] : List (Nat × Instr × Nat)).all fun e => decide (decode cX0_hang e.1 = .ok e.2)) = true := by decide +kernel
theorem dX0_hang_237 : decode cX0_hang 237 = .ok (.iconst 2, 1) := z_dk tdX0_hang_237 0 rfl
theorem dX0_hang_238 : decode cX0_hang 238 = .ok (.idiv, 1) := z_dk tdX0_hang_237 1 rfl
theorem dX0_hang_239 : decode cX0_hang 239 = .ok (.iload 10, 2) := z_dk tdX0_hang_237 2 rfl
theorem dX0_hang_241 : decode cX0_hang 241 = .ok (.invokestatic 83, 3) := z_dk tdX0_hang_237 3 rfl
theorem dX0_hang_244 : decode cX0_hang 244 = .ok (.invokevirtual 61, 3) := z_dk tdX0_hang_237 4 rfl
theorem dX0_hang_247 : decode cX0_hang 247 = .ok (.aload_n 0, 1) := z_dk tdX0_hang_237 5 rfl
theorem dX0_hang_248 : decode cX0_hang 248 = .ok (.getfield 32, 3) := z_dk tdX0_hang_237 6 rfl
theorem dX0_hang_251 : decode cX0_hang 251 = .ok (.iload 7, 2) := z_dk tdX0_hang_237 7 rfl
theorem dX0_hang_253 : decode cX0_hang 253 = .ok (.iload 9, 2) := z_dk tdX0_hang_237 8 rfl
theorem dX0_hang_255 : decode cX0_hang 255 = .ok (.iload 9, 2) := z_dk tdX0_hang_237 9 rfl
theorem dX0_hang_257 : decode cX0_hang 257 = .ok (.iconst 2, 1) := z_dk tdX0_hang_237 10 rfl
theorem dX0_hang_258 : decode cX0_hang 258 = .ok (.idiv, 1) := z_dk tdX0_hang_237 11 rfl
theorem dX0_hang_259 : decode cX0_hang 259 = .ok (.isub, 1) := z_dk tdX0_hang_237 12 rfl
theorem dX0_hang_260 : decode cX0_hang 260 = .ok (.iload 11, 2) := z_dk tdX0_hang_237 13 rfl
theorem dX0_hang_262 : decode cX0_hang 262 = .ok (.invokestatic 83, 3) := z_dk tdX0_hang_237 14 rfl
theorem dX0_hang_265 : decode cX0_hang 265 = .ok (.invokevirtual 61, 3) := z_dk tdX0_hang_237 15 rfl
theorem dX0_hang_268 : decode cX0_hang 268 = .ok (.iload 5, 2) := z_dk tdX0_hang_237 16 rfl
theorem dX0_hang_270 : decode cX0_hang 270 = .ok (.iload 9, 2) := z_dk tdX0_hang_237 17 rfl
theorem dX0_hang_272 : decode cX0_hang 272 = .ok (.aload_n 0, 1) := z_dk tdX0_hang_237 18 rfl
theorem dX0_hang_273 : decode cX0_hang 273 = .ok (.getfield 29, 3) := z_dk tdX0_hang_237 19 rfl
theorem dX0_hang_276 : decode cX0_hang 276 = .ok (.iload 7, 2) := z_dk tdX0_hang_237 20 rfl
theorem dX0_hang_278 : decode cX0_hang 278 = .ok (.invokevirtual 49, 3) := z_dk tdX0_hang_237 21 rfl
theorem dX0_hang_281 : decode cX0_hang 281 = .ok (.isub, 1) := z_dk tdX0_hang_237 22 rfl
theorem dX0_hang_282 : decode cX0_hang 282 = .ok (.aload_n 0, 1) := z_dk tdX0_hang_237 23 rfl
theorem tdX0_hang_283 : (([(283, .getfield 32, 3), (286, .iload 7, 2), (288, .invokevirtual 49, 3), (291, .isub, 1), (292, .iadd, 1), (293, .istore 5, 2), (295, .iinc 7 1, 3), (298, .goto (-289), 3), (301, .iload 5, 2), (303, .ireturn, 1)] : List (Nat × Instr × Nat)).all fun e => decide (decode cX0_hang e.1 = .ok e.2)) = true := by decide +kernel
theorem dX0_hang_283 : decode cX0_hang 283 = .ok (.getfield 32, 3) := z_dk tdX0_hang_283 0 rfl
theorem dX0_hang_286 : decode cX0_hang 286 = .ok (.iload 7, 2) := z_dk tdX0_hang_283 1 rfl
theorem dX0_hang_288 : decode cX0_hang 288 = .ok (.invokevirtual 49, 3) := z_dk tdX0_hang_283 2 rfl
theorem dX0_hang_291 : decode cX0_hang 291 = .ok (.isub, 1) := z_dk tdX0_hang_283 3 rfl
theorem dX0_hang_292 : decode cX0_hang 292 = .ok (.iadd, 1) := z_dk tdX0_hang_283 4 rfl
theorem dX0_hang_293 : decode cX0_hang 293 = .ok (.istore 5, 2) := z_dk tdX0_hang_283 5 rfl
theorem dX0_hang_295 : decode cX0_hang 295 = .ok (.iinc 7 1, 3) := z_dk tdX0_hang_283 6 rfl
theorem dX0_hang_298 : decode cX0_hang 298 = .ok (.goto (-289), 3) := z_dk tdX0_hang_283 7 rfl
theorem dX0_hang_301 : decode cX0_hang 301 = .ok (.iload 5, 2) := z_dk tdX0_hang_283 8 rfl
theorem dX0_hang_303 : decode cX0_hang 303 = .ok (.ireturn, 1) := z_dk tdX0_hang_283 9 rfl
theorem tdX0_room_0 : (([(0, .iload_n 0, 1), (1, .tableswitch 69 0 6 #[43, 43, 43, 47, 58, 47, 45], 43), (44, .iload_n 1, 1), (45, .ireturn, 1), (46, .iconst 4, 1), (47, .ireturn, 1), (48, .iload_n 2, 1), (49, .ifCond .eq 8, 3), (52, .bipush 6, 2), (54, .goto 4, 3), (57, .iconst 0, 1), (58, .ireturn, 1), (59, .iload_n 2, 1), (60, .ifCond .eq 7, 3), (63, .iconst 0, 1), (64, .goto 5, 3), (67, .bipush 6, 2), (69, .ireturn, 1), (70, .iconst 0, 1), (71, .ireturn, 1)] : List (Nat × Instr × Nat)).all fun e => decide (decode cX0_room e.1 = .ok e.2)) = true := by decide +kernel
theorem dX0_room_0 : decode cX0_room 0 = .ok (.iload_n 0, 1) := z_dk tdX0_room_0 0 rfl
theorem dX0_room_1 : decode cX0_room 1 = .ok (.tableswitch 69 0 6 #[43, 43, 43, 47, 58, 47, 45], 43) := z_dk tdX0_room_0 1 rfl
theorem dX0_room_44 : decode cX0_room 44 = .ok (.iload_n 1, 1) := z_dk tdX0_room_0 2 rfl
theorem dX0_room_45 : decode cX0_room 45 = .ok (.ireturn, 1) := z_dk tdX0_room_0 3 rfl
theorem dX0_room_46 : decode cX0_room 46 = .ok (.iconst 4, 1) := z_dk tdX0_room_0 4 rfl
theorem dX0_room_47 : decode cX0_room 47 = .ok (.ireturn, 1) := z_dk tdX0_room_0 5 rfl
theorem dX0_room_48 : decode cX0_room 48 = .ok (.iload_n 2, 1) := z_dk tdX0_room_0 6 rfl
theorem dX0_room_49 : decode cX0_room 49 = .ok (.ifCond .eq 8, 3) := z_dk tdX0_room_0 7 rfl
theorem dX0_room_52 : decode cX0_room 52 = .ok (.bipush 6, 2) := z_dk tdX0_room_0 8 rfl
theorem dX0_room_54 : decode cX0_room 54 = .ok (.goto 4, 3) := z_dk tdX0_room_0 9 rfl
theorem dX0_room_57 : decode cX0_room 57 = .ok (.iconst 0, 1) := z_dk tdX0_room_0 10 rfl
theorem dX0_room_58 : decode cX0_room 58 = .ok (.ireturn, 1) := z_dk tdX0_room_0 11 rfl
theorem dX0_room_59 : decode cX0_room 59 = .ok (.iload_n 2, 1) := z_dk tdX0_room_0 12 rfl
theorem dX0_room_60 : decode cX0_room 60 = .ok (.ifCond .eq 7, 3) := z_dk tdX0_room_0 13 rfl
theorem dX0_room_63 : decode cX0_room 63 = .ok (.iconst 0, 1) := z_dk tdX0_room_0 14 rfl
theorem dX0_room_64 : decode cX0_room 64 = .ok (.goto 5, 3) := z_dk tdX0_room_0 15 rfl
theorem dX0_room_67 : decode cX0_room 67 = .ok (.bipush 6, 2) := z_dk tdX0_room_0 16 rfl
theorem dX0_room_69 : decode cX0_room 69 = .ok (.ireturn, 1) := z_dk tdX0_room_0 17 rfl
theorem dX0_room_70 : decode cX0_room 70 = .ok (.iconst 0, 1) := z_dk tdX0_room_0 18 rfl
theorem dX0_room_71 : decode cX0_room 71 = .ok (.ireturn, 1) := z_dk tdX0_room_0 19 rfl
theorem tdX1_init_0 : (([(0, .aload_n 0, 1), (1, .invokespecial 3, 3), (4, .aload_n 0, 1), (5, .new 9, 3), (8, .dup, 1), (9, .sipush 200, 3), (12, .invokespecial 11, 3), (15, .putfield 14, 3), (18, .aload_n 0, 1), (19, .new 20, 3), (22, .dup, 1), (23, .sipush 201, 3), (26, .invokespecial 22, 3), (29, .putfield 23, 3), (32, .aload_n 0, 1), (33, .new 9, 3), (36, .dup, 1), (37, .sipush 201, 3), (40, .invokespecial 11, 3), (43, .putfield 27, 3), (46, .aload_n 0, 1), (47, .new 9, 3), (50, .dup, 1), (51, .sipush 201, 3)] : List (Nat × Instr × Nat)).all fun e => decide (decode cX1_init e.1 = .ok e.2)) = true := by decide +kernel
theorem dX1_init_0 : decode cX1_init 0 = .ok (.aload_n 0, 1) := z_dk tdX1_init_0 0 rfl
theorem dX1_init_1 : decode cX1_init 1 = .ok (.invokespecial 3, 3) := z_dk tdX1_init_0 1 rfl
theorem dX1_init_4 : decode cX1_init 4 = .ok (.aload_n 0, 1) := z_dk tdX1_init_0 2 rfl
theorem dX1_init_5 : decode cX1_init 5 = .ok (.new 9, 3) := z_dk tdX1_init_0 3 rfl
theorem dX1_init_8 : decode cX1_init 8 = .ok (.dup, 1) := z_dk tdX1_init_0 4 rfl
theorem dX1_init_9 : decode cX1_init 9 = .ok (.sipush 200, 3) := z_dk tdX1_init_0 5 rfl
theorem dX1_init_12 : decode cX1_init 12 = .ok (.invokespecial 11, 3) := z_dk tdX1_init_0 6 rfl
theorem dX1_init_15 : decode cX1_init 15 = .ok (.putfield 14, 3) := z_dk tdX1_init_0 7 rfl
theorem dX1_init_18 : decode cX1_init 18 = .ok (.aload_n 0, 1) := z_dk tdX1_init_0 8 rfl
theorem dX1_init_19 : decode cX1_init 19 = .ok (.new 20, 3) := z_dk tdX1_init_0 9 rfl
theorem dX1_init_22 : decode cX1_init 22 = .ok (.dup, 1) := z_dk tdX1_init_0 10 rfl
theorem dX1_init_23 : decode cX1_init 23 = .ok (.sipush 201, 3) := z_dk tdX1_init_0 11 rfl
theorem dX1_init_26 : decode cX1_init 26 = .ok (.invokespecial 22, 3) := z_dk tdX1_init_0 12 rfl
theorem dX1_init_29 : decode cX1_init 29 = .ok (.putfield 23, 3) := z_dk tdX1_init_0 13 rfl
theorem dX1_init_32 : decode cX1_init 32 = .ok (.aload_n 0, 1) := z_dk tdX1_init_0 14 rfl
theorem dX1_init_33 : decode cX1_init 33 = .ok (.new 9, 3) := z_dk tdX1_init_0 15 rfl
theorem dX1_init_36 : decode cX1_init 36 = .ok (.dup, 1) := z_dk tdX1_init_0 16 rfl
theorem dX1_init_37 : decode cX1_init 37 = .ok (.sipush 201, 3) := z_dk tdX1_init_0 17 rfl
theorem dX1_init_40 : decode cX1_init 40 = .ok (.invokespecial 11, 3) := z_dk tdX1_init_0 18 rfl
theorem dX1_init_43 : decode cX1_init 43 = .ok (.putfield 27, 3) := z_dk tdX1_init_0 19 rfl
theorem dX1_init_46 : decode cX1_init 46 = .ok (.aload_n 0, 1) := z_dk tdX1_init_0 20 rfl
theorem dX1_init_47 : decode cX1_init 47 = .ok (.new 9, 3) := z_dk tdX1_init_0 21 rfl
theorem dX1_init_50 : decode cX1_init 50 = .ok (.dup, 1) := z_dk tdX1_init_0 22 rfl
theorem dX1_init_51 : decode cX1_init 51 = .ok (.sipush 201, 3) := z_dk tdX1_init_0 23 rfl
theorem tdX1_init_54 : (([(54, .invokespecial 11, 3), (57, .putfield 30, 3), (60, .aload_n 0, 1), (61, .aload_n 1, 1), (62, .putfield 33, 3), (65, .aload_n 0, 1), (66, .aload_n 2, 1), (67, .putfield 37, 3), (70, .return_, 1)] : List (Nat × Instr × Nat)).all fun e => decide (decode cX1_init e.1 = .ok e.2)) = true := by decide +kernel
theorem dX1_init_54 : decode cX1_init 54 = .ok (.invokespecial 11, 3) := z_dk tdX1_init_54 0 rfl
theorem dX1_init_57 : decode cX1_init 57 = .ok (.putfield 30, 3) := z_dk tdX1_init_54 1 rfl
theorem dX1_init_60 : decode cX1_init 60 = .ok (.aload_n 0, 1) := z_dk tdX1_init_54 2 rfl
theorem dX1_init_61 : decode cX1_init 61 = .ok (.aload_n 1, 1) := z_dk tdX1_init_54 3 rfl
theorem dX1_init_62 : decode cX1_init 62 = .ok (.putfield 33, 3) := z_dk tdX1_init_54 4 rfl
theorem dX1_init_65 : decode cX1_init 65 = .ok (.aload_n 0, 1) := z_dk tdX1_init_54 5 rfl
theorem dX1_init_66 : decode cX1_init 66 = .ok (.aload_n 2, 1) := z_dk tdX1_init_54 6 rfl
theorem dX1_init_67 : decode cX1_init 67 = .ok (.putfield 37, 3) := z_dk tdX1_init_54 7 rfl
theorem dX1_init_70 : decode cX1_init 70 = .ok (.return_, 1) := z_dk tdX1_init_54 8 rfl
theorem tdX1_go_0 : (([(0, .iload_n 2, 1), (1, .iconst 1, 1), (2, .if_icmp .ne 8, 3), (5, .aload_n 0, 1), (6, .iload_n 1, 1), (7, .invokevirtual 41, 3), (10, .aload_n 0, 1), (11, .iconst 0, 1), (12, .putfield 44, 3), (15, .iconst 0, 1), (16, .istore_n 3, 1), (17, .iload_n 3, 1), (18, .aload_n 0, 1), (19, .getfield 33, 3), (22, .getfield 48, 3), (25, .if_icmp .ge 57, 3), (28, .aload_n 0, 1), (29, .getfield 30, 3), (32, .aload_n 0, 1), (33, .getfield 44, 3), (36, .iload_n 3, 1), (37, .invokevirtual 51, 3), (40, .aload_n 0, 1), (41, .dup, 1)] : List (Nat × Instr × Nat)).all fun e => decide (decode cX1_go e.1 = .ok e.2)) = true := by decide +kernel
theorem dX1_go_0 : decode cX1_go 0 = .ok (.iload_n 2, 1) := z_dk tdX1_go_0 0 rfl
theorem dX1_go_1 : decode cX1_go 1 = .ok (.iconst 1, 1) := z_dk tdX1_go_0 1 rfl
theorem dX1_go_2 : decode cX1_go 2 = .ok (.if_icmp .ne 8, 3) := z_dk tdX1_go_0 2 rfl
theorem dX1_go_5 : decode cX1_go 5 = .ok (.aload_n 0, 1) := z_dk tdX1_go_0 3 rfl
theorem dX1_go_6 : decode cX1_go 6 = .ok (.iload_n 1, 1) := z_dk tdX1_go_0 4 rfl
theorem dX1_go_7 : decode cX1_go 7 = .ok (.invokevirtual 41, 3) := z_dk tdX1_go_0 5 rfl
theorem dX1_go_10 : decode cX1_go 10 = .ok (.aload_n 0, 1) := z_dk tdX1_go_0 6 rfl
theorem dX1_go_11 : decode cX1_go 11 = .ok (.iconst 0, 1) := z_dk tdX1_go_0 7 rfl
theorem dX1_go_12 : decode cX1_go 12 = .ok (.putfield 44, 3) := z_dk tdX1_go_0 8 rfl
theorem dX1_go_15 : decode cX1_go 15 = .ok (.iconst 0, 1) := z_dk tdX1_go_0 9 rfl
theorem dX1_go_16 : decode cX1_go 16 = .ok (.istore_n 3, 1) := z_dk tdX1_go_0 10 rfl
theorem dX1_go_17 : decode cX1_go 17 = .ok (.iload_n 3, 1) := z_dk tdX1_go_0 11 rfl
theorem dX1_go_18 : decode cX1_go 18 = .ok (.aload_n 0, 1) := z_dk tdX1_go_0 12 rfl
theorem dX1_go_19 : decode cX1_go 19 = .ok (.getfield 33, 3) := z_dk tdX1_go_0 13 rfl
theorem dX1_go_22 : decode cX1_go 22 = .ok (.getfield 48, 3) := z_dk tdX1_go_0 14 rfl
theorem dX1_go_25 : decode cX1_go 25 = .ok (.if_icmp .ge 57, 3) := z_dk tdX1_go_0 15 rfl
theorem dX1_go_28 : decode cX1_go 28 = .ok (.aload_n 0, 1) := z_dk tdX1_go_0 16 rfl
theorem dX1_go_29 : decode cX1_go 29 = .ok (.getfield 30, 3) := z_dk tdX1_go_0 17 rfl
theorem dX1_go_32 : decode cX1_go 32 = .ok (.aload_n 0, 1) := z_dk tdX1_go_0 18 rfl
theorem dX1_go_33 : decode cX1_go 33 = .ok (.getfield 44, 3) := z_dk tdX1_go_0 19 rfl
theorem dX1_go_36 : decode cX1_go 36 = .ok (.iload_n 3, 1) := z_dk tdX1_go_0 20 rfl
theorem dX1_go_37 : decode cX1_go 37 = .ok (.invokevirtual 51, 3) := z_dk tdX1_go_0 21 rfl
theorem dX1_go_40 : decode cX1_go 40 = .ok (.aload_n 0, 1) := z_dk tdX1_go_0 22 rfl
theorem dX1_go_41 : decode cX1_go 41 = .ok (.dup, 1) := z_dk tdX1_go_0 23 rfl
theorem tdX1_go_42 : (([(42, .getfield 44, 3), (45, .iconst 1, 1), (46, .iadd, 1), (47, .putfield 44, 3), (50, .iload_n 3, 1), (51, .iconst 1, 1), (52, .iload_n 2, 1), (53, .iconst 1, 1), (54, .if_icmp .ne 14, 3), (57, .aload_n 0, 1), (58, .getfield 14, 3), (61, .iload_n 3, 1), (62, .invokevirtual 55, 3), (65, .goto 9, 3), (68, .aload_n 0, 1), (69, .iload_n 3, 1), (70, .iload_n 1, 1), (71, .invokevirtual 59, 3), (74, .invokestatic 63, 3), (77, .iadd, 1), (78, .istore_n 3, 1), (79, .goto (-62), 3), (82, .aload_n 0, 1), (83, .getfield 30, 3)] : List (Nat × Instr × Nat)).all fun e => decide (decode cX1_go e.1 = .ok e.2)) = true := by decide +kernel
theorem dX1_go_42 : decode cX1_go 42 = .ok (.getfield 44, 3) := z_dk tdX1_go_42 0 rfl
theorem dX1_go_45 : decode cX1_go 45 = .ok (.iconst 1, 1) := z_dk tdX1_go_42 1 rfl
theorem dX1_go_46 : decode cX1_go 46 = .ok (.iadd, 1) := z_dk tdX1_go_42 2 rfl
theorem dX1_go_47 : decode cX1_go 47 = .ok (.putfield 44, 3) := z_dk tdX1_go_42 3 rfl
theorem dX1_go_50 : decode cX1_go 50 = .ok (.iload_n 3, 1) := z_dk tdX1_go_42 4 rfl
theorem dX1_go_51 : decode cX1_go 51 = .ok (.iconst 1, 1) := z_dk tdX1_go_42 5 rfl
theorem dX1_go_52 : decode cX1_go 52 = .ok (.iload_n 2, 1) := z_dk tdX1_go_42 6 rfl
theorem dX1_go_53 : decode cX1_go 53 = .ok (.iconst 1, 1) := z_dk tdX1_go_42 7 rfl
theorem dX1_go_54 : decode cX1_go 54 = .ok (.if_icmp .ne 14, 3) := z_dk tdX1_go_42 8 rfl
theorem dX1_go_57 : decode cX1_go 57 = .ok (.aload_n 0, 1) := z_dk tdX1_go_42 9 rfl
theorem dX1_go_58 : decode cX1_go 58 = .ok (.getfield 14, 3) := z_dk tdX1_go_42 10 rfl
theorem dX1_go_61 : decode cX1_go 61 = .ok (.iload_n 3, 1) := z_dk tdX1_go_42 11 rfl
theorem dX1_go_62 : decode cX1_go 62 = .ok (.invokevirtual 55, 3) := z_dk tdX1_go_42 12 rfl
theorem dX1_go_65 : decode cX1_go 65 = .ok (.goto 9, 3) := z_dk tdX1_go_42 13 rfl
theorem dX1_go_68 : decode cX1_go 68 = .ok (.aload_n 0, 1) := z_dk tdX1_go_42 14 rfl
theorem dX1_go_69 : decode cX1_go 69 = .ok (.iload_n 3, 1) := z_dk tdX1_go_42 15 rfl
theorem dX1_go_70 : decode cX1_go 70 = .ok (.iload_n 1, 1) := z_dk tdX1_go_42 16 rfl
theorem dX1_go_71 : decode cX1_go 71 = .ok (.invokevirtual 59, 3) := z_dk tdX1_go_42 17 rfl
theorem dX1_go_74 : decode cX1_go 74 = .ok (.invokestatic 63, 3) := z_dk tdX1_go_42 18 rfl
theorem dX1_go_77 : decode cX1_go 77 = .ok (.iadd, 1) := z_dk tdX1_go_42 19 rfl
theorem dX1_go_78 : decode cX1_go 78 = .ok (.istore_n 3, 1) := z_dk tdX1_go_42 20 rfl
theorem dX1_go_79 : decode cX1_go 79 = .ok (.goto (-62), 3) := z_dk tdX1_go_42 21 rfl
theorem dX1_go_82 : decode cX1_go 82 = .ok (.aload_n 0, 1) := z_dk tdX1_go_42 22 rfl
theorem dX1_go_83 : decode cX1_go 83 = .ok (.getfield 30, 3) := z_dk tdX1_go_42 23 rfl
theorem tdX1_go_86 : (([(86, .aload_n 0, 1), (87, .getfield 44, 3), (90, .aload_n 0, 1), (91, .getfield 33, 3), (94, .getfield 48, 3), (97, .invokevirtual 51, 3), (100, .return_, 1)] : List (Nat × Instr × Nat)).all fun e => decide (decode cX1_go e.1 = .ok e.2)) = true := by decide +kernel
theorem dX1_go_86 : decode cX1_go 86 = .ok (.aload_n 0, 1) := z_dk tdX1_go_86 0 rfl
theorem dX1_go_87 : decode cX1_go 87 = .ok (.getfield 44, 3) := z_dk tdX1_go_86 1 rfl
theorem dX1_go_90 : decode cX1_go 90 = .ok (.aload_n 0, 1) := z_dk tdX1_go_86 2 rfl
theorem dX1_go_91 : decode cX1_go 91 = .ok (.getfield 33, 3) := z_dk tdX1_go_86 3 rfl
theorem dX1_go_94 : decode cX1_go 94 = .ok (.getfield 48, 3) := z_dk tdX1_go_86 4 rfl
theorem dX1_go_97 : decode cX1_go 97 = .ok (.invokevirtual 51, 3) := z_dk tdX1_go_86 5 rfl
theorem dX1_go_100 : decode cX1_go 100 = .ok (.return_, 1) := z_dk tdX1_go_86 6 rfl
theorem tdX1_asMany_0 : (([(0, .iconst 1, 1), (1, .istore_n 3, 1), (2, .iconst 0, 1), (3, .istore 4, 2), (5, .iload_n 1, 1), (6, .istore 5, 2), (8, .iload 5, 2), (10, .aload_n 0, 1), (11, .getfield 33, 3), (14, .getfield 48, 3), (17, .if_icmp .ge 61, 3), (20, .aload_n 0, 1), (21, .getfield 33, 3), (24, .iload_n 1, 1), (25, .iload 5, 2), (27, .invokevirtual 68, 3), (30, .iload_n 2, 1), (31, .if_icmp .gt 47, 3), (34, .aload_n 0, 1), (35, .getfield 37, 3), (38, .iload_n 1, 1), (39, .iload 5, 2), (41, .invokevirtual 71, 3), (44, .iload_n 2, 1)] : List (Nat × Instr × Nat)).all fun e => decide (decode cX1_asMany e.1 = .ok e.2)) = true := by decide +kernel
theorem dX1_asMany_0 : decode cX1_asMany 0 = .ok (.iconst 1, 1) := z_dk tdX1_asMany_0 0 rfl
theorem dX1_asMany_1 : decode cX1_asMany 1 = .ok (.istore_n 3, 1) := z_dk tdX1_asMany_0 1 rfl
theorem dX1_asMany_2 : decode cX1_asMany 2 = .ok (.iconst 0, 1) := z_dk tdX1_asMany_0 2 rfl
theorem dX1_asMany_3 : decode cX1_asMany 3 = .ok (.istore 4, 2) := z_dk tdX1_asMany_0 3 rfl
theorem dX1_asMany_5 : decode cX1_asMany 5 = .ok (.iload_n 1, 1) := z_dk tdX1_asMany_0 4 rfl
theorem dX1_asMany_6 : decode cX1_asMany 6 = .ok (.istore 5, 2) := z_dk tdX1_asMany_0 5 rfl
theorem dX1_asMany_8 : decode cX1_asMany 8 = .ok (.iload 5, 2) := z_dk tdX1_asMany_0 6 rfl
theorem dX1_asMany_10 : decode cX1_asMany 10 = .ok (.aload_n 0, 1) := z_dk tdX1_asMany_0 7 rfl
theorem dX1_asMany_11 : decode cX1_asMany 11 = .ok (.getfield 33, 3) := z_dk tdX1_asMany_0 8 rfl
theorem dX1_asMany_14 : decode cX1_asMany 14 = .ok (.getfield 48, 3) := z_dk tdX1_asMany_0 9 rfl
theorem dX1_asMany_17 : decode cX1_asMany 17 = .ok (.if_icmp .ge 61, 3) := z_dk tdX1_asMany_0 10 rfl
theorem dX1_asMany_20 : decode cX1_asMany 20 = .ok (.aload_n 0, 1) := z_dk tdX1_asMany_0 11 rfl
theorem dX1_asMany_21 : decode cX1_asMany 21 = .ok (.getfield 33, 3) := z_dk tdX1_asMany_0 12 rfl
theorem dX1_asMany_24 : decode cX1_asMany 24 = .ok (.iload_n 1, 1) := z_dk tdX1_asMany_0 13 rfl
theorem dX1_asMany_25 : decode cX1_asMany 25 = .ok (.iload 5, 2) := z_dk tdX1_asMany_0 14 rfl
theorem dX1_asMany_27 : decode cX1_asMany 27 = .ok (.invokevirtual 68, 3) := z_dk tdX1_asMany_0 15 rfl
theorem dX1_asMany_30 : decode cX1_asMany 30 = .ok (.iload_n 2, 1) := z_dk tdX1_asMany_0 16 rfl
theorem dX1_asMany_31 : decode cX1_asMany 31 = .ok (.if_icmp .gt 47, 3) := z_dk tdX1_asMany_0 17 rfl
theorem dX1_asMany_34 : decode cX1_asMany 34 = .ok (.aload_n 0, 1) := z_dk tdX1_asMany_0 18 rfl
theorem dX1_asMany_35 : decode cX1_asMany 35 = .ok (.getfield 37, 3) := z_dk tdX1_asMany_0 19 rfl
theorem dX1_asMany_38 : decode cX1_asMany 38 = .ok (.iload_n 1, 1) := z_dk tdX1_asMany_0 20 rfl
theorem dX1_asMany_39 : decode cX1_asMany 39 = .ok (.iload 5, 2) := z_dk tdX1_asMany_0 21 rfl
theorem dX1_asMany_41 : decode cX1_asMany 41 = .ok (.invokevirtual 71, 3) := z_dk tdX1_asMany_0 22 rfl
theorem dX1_asMany_44 : decode cX1_asMany 44 = .ok (.iload_n 2, 1) := z_dk tdX1_asMany_0 23 rfl
theorem tdX1_asMany_45 : (([(45, .if_icmp .gt 27, 3), (48, .iload 5, 2), (50, .iload_n 1, 1), (51, .isub, 1), (52, .iconst 1, 1), (53, .iadd, 1), (54, .istore_n 3, 1), (55, .aload_n 0, 1), (56, .iload 5, 2), (58, .invokevirtual 76, 3), (61, .ifCond .eq 7, 3), (64, .iload_n 3, 1), (65, .goto 5, 3), (68, .iload 4, 2), (70, .istore 4, 2), (72, .iinc 5 1, 3), (75, .goto (-67), 3), (78, .iload 4, 2), (80, .ifCond .le 8, 3), (83, .iload 4, 2), (85, .goto 4, 3), (88, .iload_n 3, 1), (89, .ireturn, 1)] : List (Nat × Instr × Nat)).all fun e => decide (decode cX1_asMany e.1 = .ok e.2)) = true := by decide +kernel
theorem dX1_asMany_45 : decode cX1_asMany 45 = .ok (.if_icmp .gt 27, 3) := z_dk tdX1_asMany_45 0 rfl
theorem dX1_asMany_48 : decode cX1_asMany 48 = .ok (.iload 5, 2) := z_dk tdX1_asMany_45 1 rfl
theorem dX1_asMany_50 : decode cX1_asMany 50 = .ok (.iload_n 1, 1) := z_dk tdX1_asMany_45 2 rfl
theorem dX1_asMany_51 : decode cX1_asMany 51 = .ok (.isub, 1) := z_dk tdX1_asMany_45 3 rfl
theorem dX1_asMany_52 : decode cX1_asMany 52 = .ok (.iconst 1, 1) := z_dk tdX1_asMany_45 4 rfl
theorem dX1_asMany_53 : decode cX1_asMany 53 = .ok (.iadd, 1) := z_dk tdX1_asMany_45 5 rfl
theorem dX1_asMany_54 : decode cX1_asMany 54 = .ok (.istore_n 3, 1) := z_dk tdX1_asMany_45 6 rfl
theorem dX1_asMany_55 : decode cX1_asMany 55 = .ok (.aload_n 0, 1) := z_dk tdX1_asMany_45 7 rfl
theorem dX1_asMany_56 : decode cX1_asMany 56 = .ok (.iload 5, 2) := z_dk tdX1_asMany_45 8 rfl
theorem dX1_asMany_58 : decode cX1_asMany 58 = .ok (.invokevirtual 76, 3) := z_dk tdX1_asMany_45 9 rfl
theorem dX1_asMany_61 : decode cX1_asMany 61 = .ok (.ifCond .eq 7, 3) := z_dk tdX1_asMany_45 10 rfl
theorem dX1_asMany_64 : decode cX1_asMany 64 = .ok (.iload_n 3, 1) := z_dk tdX1_asMany_45 11 rfl
theorem dX1_asMany_65 : decode cX1_asMany 65 = .ok (.goto 5, 3) := z_dk tdX1_asMany_45 12 rfl
theorem dX1_asMany_68 : decode cX1_asMany 68 = .ok (.iload 4, 2) := z_dk tdX1_asMany_45 13 rfl
theorem dX1_asMany_70 : decode cX1_asMany 70 = .ok (.istore 4, 2) := z_dk tdX1_asMany_45 14 rfl
theorem dX1_asMany_72 : decode cX1_asMany 72 = .ok (.iinc 5 1, 3) := z_dk tdX1_asMany_45 15 rfl
theorem dX1_asMany_75 : decode cX1_asMany 75 = .ok (.goto (-67), 3) := z_dk tdX1_asMany_45 16 rfl
theorem dX1_asMany_78 : decode cX1_asMany 78 = .ok (.iload 4, 2) := z_dk tdX1_asMany_45 17 rfl
theorem dX1_asMany_80 : decode cX1_asMany 80 = .ok (.ifCond .le 8, 3) := z_dk tdX1_asMany_45 18 rfl
theorem dX1_asMany_83 : decode cX1_asMany 83 = .ok (.iload 4, 2) := z_dk tdX1_asMany_45 19 rfl
theorem dX1_asMany_85 : decode cX1_asMany 85 = .ok (.goto 4, 3) := z_dk tdX1_asMany_45 20 rfl
theorem dX1_asMany_88 : decode cX1_asMany 88 = .ok (.iload_n 3, 1) := z_dk tdX1_asMany_45 21 rfl
theorem dX1_asMany_89 : decode cX1_asMany 89 = .ok (.ireturn, 1) := z_dk tdX1_asMany_45 22 rfl
theorem tdX1_closesLine_0 : (([(0, .iload_n 1, 1), (1, .aload_n 0, 1), (2, .getfield 33, 3), (5, .getfield 48, 3), (8, .iconst 1, 1), (9, .isub, 1), (10, .if_icmp .eq 18, 3), (13, .aload_n 0, 1), (14, .getfield 33, 3), (17, .getfield 80, 3), (20, .iload_n 1, 1), (21, .invokevirtual 55, 3), (24, .iconst 1, 1), (25, .if_icmp .ne 7, 3), (28, .iconst 1, 1), (29, .goto 4, 3), (32, .iconst 0, 1), (33, .ireturn, 1)] : List (Nat × Instr × Nat)).all fun e => decide (decode cX1_closesLine e.1 = .ok e.2)) = true := by decide +kernel
theorem dX1_closesLine_0 : decode cX1_closesLine 0 = .ok (.iload_n 1, 1) := z_dk tdX1_closesLine_0 0 rfl
theorem dX1_closesLine_1 : decode cX1_closesLine 1 = .ok (.aload_n 0, 1) := z_dk tdX1_closesLine_0 1 rfl
theorem dX1_closesLine_2 : decode cX1_closesLine 2 = .ok (.getfield 33, 3) := z_dk tdX1_closesLine_0 2 rfl
theorem dX1_closesLine_5 : decode cX1_closesLine 5 = .ok (.getfield 48, 3) := z_dk tdX1_closesLine_0 3 rfl
theorem dX1_closesLine_8 : decode cX1_closesLine 8 = .ok (.iconst 1, 1) := z_dk tdX1_closesLine_0 4 rfl
theorem dX1_closesLine_9 : decode cX1_closesLine 9 = .ok (.isub, 1) := z_dk tdX1_closesLine_0 5 rfl
theorem dX1_closesLine_10 : decode cX1_closesLine 10 = .ok (.if_icmp .eq 18, 3) := z_dk tdX1_closesLine_0 6 rfl
theorem dX1_closesLine_13 : decode cX1_closesLine 13 = .ok (.aload_n 0, 1) := z_dk tdX1_closesLine_0 7 rfl
theorem dX1_closesLine_14 : decode cX1_closesLine 14 = .ok (.getfield 33, 3) := z_dk tdX1_closesLine_0 8 rfl
theorem dX1_closesLine_17 : decode cX1_closesLine 17 = .ok (.getfield 80, 3) := z_dk tdX1_closesLine_0 9 rfl
theorem dX1_closesLine_20 : decode cX1_closesLine 20 = .ok (.iload_n 1, 1) := z_dk tdX1_closesLine_0 10 rfl
theorem dX1_closesLine_21 : decode cX1_closesLine 21 = .ok (.invokevirtual 55, 3) := z_dk tdX1_closesLine_0 11 rfl
theorem dX1_closesLine_24 : decode cX1_closesLine 24 = .ok (.iconst 1, 1) := z_dk tdX1_closesLine_0 12 rfl
theorem dX1_closesLine_25 : decode cX1_closesLine 25 = .ok (.if_icmp .ne 7, 3) := z_dk tdX1_closesLine_0 13 rfl
theorem dX1_closesLine_28 : decode cX1_closesLine 28 = .ok (.iconst 1, 1) := z_dk tdX1_closesLine_0 14 rfl
theorem dX1_closesLine_29 : decode cX1_closesLine 29 = .ok (.goto 4, 3) := z_dk tdX1_closesLine_0 15 rfl
theorem dX1_closesLine_32 : decode cX1_closesLine 32 = .ok (.iconst 0, 1) := z_dk tdX1_closesLine_0 16 rfl
theorem dX1_closesLine_33 : decode cX1_closesLine 33 = .ok (.ireturn, 1) := z_dk tdX1_closesLine_0 17 rfl
theorem tdX1_chooseBest_0 : (([(0, .aload_n 0, 1), (1, .getfield 23, 3), (4, .aload_n 0, 1), (5, .getfield 33, 3), (8, .getfield 48, 3), (11, .lconst 0, 1), (12, .invokevirtual 83, 3), (15, .aload_n 0, 1), (16, .getfield 33, 3), (19, .getfield 48, 3), (22, .iconst 1, 1), (23, .isub, 1), (24, .istore_n 2, 1), (25, .iload_n 2, 1), (26, .ifCond .lt 152, 3), (29, .ldc2_w 86, 3), (32, .lstore_n 3, 1), (33, .iload_n 2, 1), (34, .istore 5, 2), (36, .iload 5, 2), (38, .aload_n 0, 1), (39, .getfield 33, 3), (42, .getfield 48, 3), (45, .if_icmp .ge 118, 3)] : List (Nat × Instr × Nat)).all fun e => decide (decode cX1_chooseBest e.1 = .ok e.2)) = true := by decide +kernel
theorem dX1_chooseBest_0 : decode cX1_chooseBest 0 = .ok (.aload_n 0, 1) := z_dk tdX1_chooseBest_0 0 rfl
theorem dX1_chooseBest_1 : decode cX1_chooseBest 1 = .ok (.getfield 23, 3) := z_dk tdX1_chooseBest_0 1 rfl
theorem dX1_chooseBest_4 : decode cX1_chooseBest 4 = .ok (.aload_n 0, 1) := z_dk tdX1_chooseBest_0 2 rfl
theorem dX1_chooseBest_5 : decode cX1_chooseBest 5 = .ok (.getfield 33, 3) := z_dk tdX1_chooseBest_0 3 rfl
theorem dX1_chooseBest_8 : decode cX1_chooseBest 8 = .ok (.getfield 48, 3) := z_dk tdX1_chooseBest_0 4 rfl
theorem dX1_chooseBest_11 : decode cX1_chooseBest 11 = .ok (.lconst 0, 1) := z_dk tdX1_chooseBest_0 5 rfl
theorem dX1_chooseBest_12 : decode cX1_chooseBest 12 = .ok (.invokevirtual 83, 3) := z_dk tdX1_chooseBest_0 6 rfl
theorem dX1_chooseBest_15 : decode cX1_chooseBest 15 = .ok (.aload_n 0, 1) := z_dk tdX1_chooseBest_0 7 rfl
theorem dX1_chooseBest_16 : decode cX1_chooseBest 16 = .ok (.getfield 33, 3) := z_dk tdX1_chooseBest_0 8 rfl
theorem dX1_chooseBest_19 : decode cX1_chooseBest 19 = .ok (.getfield 48, 3) := z_dk tdX1_chooseBest_0 9 rfl
theorem dX1_chooseBest_22 : decode cX1_chooseBest 22 = .ok (.iconst 1, 1) := z_dk tdX1_chooseBest_0 10 rfl
theorem dX1_chooseBest_23 : decode cX1_chooseBest 23 = .ok (.isub, 1) := z_dk tdX1_chooseBest_0 11 rfl
theorem dX1_chooseBest_24 : decode cX1_chooseBest 24 = .ok (.istore_n 2, 1) := z_dk tdX1_chooseBest_0 12 rfl
theorem dX1_chooseBest_25 : decode cX1_chooseBest 25 = .ok (.iload_n 2, 1) := z_dk tdX1_chooseBest_0 13 rfl
theorem dX1_chooseBest_26 : decode cX1_chooseBest 26 = .ok (.ifCond .lt 152, 3) := z_dk tdX1_chooseBest_0 14 rfl
theorem dX1_chooseBest_29 : decode cX1_chooseBest 29 = .ok (.ldc2_w 86, 3) := z_dk tdX1_chooseBest_0 15 rfl
theorem dX1_chooseBest_32 : decode cX1_chooseBest 32 = .ok (.lstore_n 3, 1) := z_dk tdX1_chooseBest_0 16 rfl
theorem dX1_chooseBest_33 : decode cX1_chooseBest 33 = .ok (.iload_n 2, 1) := z_dk tdX1_chooseBest_0 17 rfl
theorem dX1_chooseBest_34 : decode cX1_chooseBest 34 = .ok (.istore 5, 2) := z_dk tdX1_chooseBest_0 18 rfl
theorem dX1_chooseBest_36 : decode cX1_chooseBest 36 = .ok (.iload 5, 2) := z_dk tdX1_chooseBest_0 19 rfl
theorem dX1_chooseBest_38 : decode cX1_chooseBest 38 = .ok (.aload_n 0, 1) := z_dk tdX1_chooseBest_0 20 rfl
theorem dX1_chooseBest_39 : decode cX1_chooseBest 39 = .ok (.getfield 33, 3) := z_dk tdX1_chooseBest_0 21 rfl
theorem dX1_chooseBest_42 : decode cX1_chooseBest 42 = .ok (.getfield 48, 3) := z_dk tdX1_chooseBest_0 22 rfl
theorem dX1_chooseBest_45 : decode cX1_chooseBest 45 = .ok (.if_icmp .ge 118, 3) := z_dk tdX1_chooseBest_0 23 rfl
theorem tdX1_chooseBest_48 : (([(48, .ldc2_w 88, 3), (51, .aload_n 0, 1), (52, .getfield 33, 3), (55, .iload_n 2, 1), (56, .iload 5, 2), (58, .invokevirtual 68, 3), (61, .iload_n 1, 1), (62, .isub, 1), (63, .i2l, 1), (64, .lmul, 1), (65, .lload_n 3, 1), (66, .lcmp, 1), (67, .ifCond .lt 6, 3), (70, .goto 93, 3), (73, .aload_n 0, 1), (74, .iload 5, 2), (76, .invokevirtual 76, 3), (79, .ifCond .eq 78, 3), (82, .aload_n 0, 1), (83, .getfield 37, 3), (86, .iload_n 2, 1), (87, .iload 5, 2), (89, .invokevirtual 71, 3), (92, .iload_n 1, 1)] : List (Nat × Instr × Nat)).all fun e => decide (decode cX1_chooseBest e.1 = .ok e.2)) = true := by decide +kernel
theorem dX1_chooseBest_48 : decode cX1_chooseBest 48 = .ok (.ldc2_w 88, 3) := z_dk tdX1_chooseBest_48 0 rfl
theorem dX1_chooseBest_51 : decode cX1_chooseBest 51 = .ok (.aload_n 0, 1) := z_dk tdX1_chooseBest_48 1 rfl
theorem dX1_chooseBest_52 : decode cX1_chooseBest 52 = .ok (.getfield 33, 3) := z_dk tdX1_chooseBest_48 2 rfl
theorem dX1_chooseBest_55 : decode cX1_chooseBest 55 = .ok (.iload_n 2, 1) := z_dk tdX1_chooseBest_48 3 rfl
theorem dX1_chooseBest_56 : decode cX1_chooseBest 56 = .ok (.iload 5, 2) := z_dk tdX1_chooseBest_48 4 rfl
theorem dX1_chooseBest_58 : decode cX1_chooseBest 58 = .ok (.invokevirtual 68, 3) := z_dk tdX1_chooseBest_48 5 rfl
theorem dX1_chooseBest_61 : decode cX1_chooseBest 61 = .ok (.iload_n 1, 1) := z_dk tdX1_chooseBest_48 6 rfl
theorem dX1_chooseBest_62 : decode cX1_chooseBest 62 = .ok (.isub, 1) := z_dk tdX1_chooseBest_48 7 rfl
theorem dX1_chooseBest_63 : decode cX1_chooseBest 63 = .ok (.i2l, 1) := z_dk tdX1_chooseBest_48 8 rfl
theorem dX1_chooseBest_64 : decode cX1_chooseBest 64 = .ok (.lmul, 1) := z_dk tdX1_chooseBest_48 9 rfl
theorem dX1_chooseBest_65 : decode cX1_chooseBest 65 = .ok (.lload_n 3, 1) := z_dk tdX1_chooseBest_48 10 rfl
theorem dX1_chooseBest_66 : decode cX1_chooseBest 66 = .ok (.lcmp, 1) := z_dk tdX1_chooseBest_48 11 rfl
theorem dX1_chooseBest_67 : decode cX1_chooseBest 67 = .ok (.ifCond .lt 6, 3) := z_dk tdX1_chooseBest_48 12 rfl
theorem dX1_chooseBest_70 : decode cX1_chooseBest 70 = .ok (.goto 93, 3) := z_dk tdX1_chooseBest_48 13 rfl
theorem dX1_chooseBest_73 : decode cX1_chooseBest 73 = .ok (.aload_n 0, 1) := z_dk tdX1_chooseBest_48 14 rfl
theorem dX1_chooseBest_74 : decode cX1_chooseBest 74 = .ok (.iload 5, 2) := z_dk tdX1_chooseBest_48 15 rfl
theorem dX1_chooseBest_76 : decode cX1_chooseBest 76 = .ok (.invokevirtual 76, 3) := z_dk tdX1_chooseBest_48 16 rfl
theorem dX1_chooseBest_79 : decode cX1_chooseBest 79 = .ok (.ifCond .eq 78, 3) := z_dk tdX1_chooseBest_48 17 rfl
theorem dX1_chooseBest_82 : decode cX1_chooseBest 82 = .ok (.aload_n 0, 1) := z_dk tdX1_chooseBest_48 18 rfl
theorem dX1_chooseBest_83 : decode cX1_chooseBest 83 = .ok (.getfield 37, 3) := z_dk tdX1_chooseBest_48 19 rfl
theorem dX1_chooseBest_86 : decode cX1_chooseBest 86 = .ok (.iload_n 2, 1) := z_dk tdX1_chooseBest_48 20 rfl
theorem dX1_chooseBest_87 : decode cX1_chooseBest 87 = .ok (.iload 5, 2) := z_dk tdX1_chooseBest_48 21 rfl
theorem dX1_chooseBest_89 : decode cX1_chooseBest 89 = .ok (.invokevirtual 71, 3) := z_dk tdX1_chooseBest_48 22 rfl
theorem dX1_chooseBest_92 : decode cX1_chooseBest 92 = .ok (.iload_n 1, 1) := z_dk tdX1_chooseBest_48 23 rfl
theorem tdX1_chooseBest_93 : (([(93, .iload 5, 2), (95, .aload_n 0, 1), (96, .getfield 33, 3), (99, .getfield 48, 3), (102, .iconst 1, 1), (103, .isub, 1), (104, .if_icmp .ne 7, 3), (107, .iconst 1, 1), (108, .goto 4, 3), (111, .iconst 0, 1), (112, .invokestatic 90, 3), (115, .lstore 6, 2), (117, .lload 6, 2), (119, .aload_n 0, 1), (120, .getfield 23, 3), (123, .iload 5, 2), (125, .iconst 1, 1), (126, .iadd, 1), (127, .invokevirtual 94, 3), (130, .ladd, 1), (131, .lstore 6, 2), (133, .lload 6, 2), (135, .lload_n 3, 1), (136, .lcmp, 1)] : List (Nat × Instr × Nat)).all fun e => decide (decode cX1_chooseBest e.1 = .ok e.2)) = true := by decide +kernel
theorem dX1_chooseBest_93 : decode cX1_chooseBest 93 = .ok (.iload 5, 2) := z_dk tdX1_chooseBest_93 0 rfl
theorem dX1_chooseBest_95 : decode cX1_chooseBest 95 = .ok (.aload_n 0, 1) := z_dk tdX1_chooseBest_93 1 rfl
theorem dX1_chooseBest_96 : decode cX1_chooseBest 96 = .ok (.getfield 33, 3) := z_dk tdX1_chooseBest_93 2 rfl
theorem dX1_chooseBest_99 : decode cX1_chooseBest 99 = .ok (.getfield 48, 3) := z_dk tdX1_chooseBest_93 3 rfl
theorem dX1_chooseBest_102 : decode cX1_chooseBest 102 = .ok (.iconst 1, 1) := z_dk tdX1_chooseBest_93 4 rfl
theorem dX1_chooseBest_103 : decode cX1_chooseBest 103 = .ok (.isub, 1) := z_dk tdX1_chooseBest_93 5 rfl
theorem dX1_chooseBest_104 : decode cX1_chooseBest 104 = .ok (.if_icmp .ne 7, 3) := z_dk tdX1_chooseBest_93 6 rfl
theorem dX1_chooseBest_107 : decode cX1_chooseBest 107 = .ok (.iconst 1, 1) := z_dk tdX1_chooseBest_93 7 rfl
theorem dX1_chooseBest_108 : decode cX1_chooseBest 108 = .ok (.goto 4, 3) := z_dk tdX1_chooseBest_93 8 rfl
theorem dX1_chooseBest_111 : decode cX1_chooseBest 111 = .ok (.iconst 0, 1) := z_dk tdX1_chooseBest_93 9 rfl
theorem dX1_chooseBest_112 : decode cX1_chooseBest 112 = .ok (.invokestatic 90, 3) := z_dk tdX1_chooseBest_93 10 rfl
theorem dX1_chooseBest_115 : decode cX1_chooseBest 115 = .ok (.lstore 6, 2) := z_dk tdX1_chooseBest_93 11 rfl
theorem dX1_chooseBest_117 : decode cX1_chooseBest 117 = .ok (.lload 6, 2) := z_dk tdX1_chooseBest_93 12 rfl
theorem dX1_chooseBest_119 : decode cX1_chooseBest 119 = .ok (.aload_n 0, 1) := z_dk tdX1_chooseBest_93 13 rfl
theorem dX1_chooseBest_120 : decode cX1_chooseBest 120 = .ok (.getfield 23, 3) := z_dk tdX1_chooseBest_93 14 rfl
theorem dX1_chooseBest_123 : decode cX1_chooseBest 123 = .ok (.iload 5, 2) := z_dk tdX1_chooseBest_93 15 rfl
theorem dX1_chooseBest_125 : decode cX1_chooseBest 125 = .ok (.iconst 1, 1) := z_dk tdX1_chooseBest_93 16 rfl
theorem dX1_chooseBest_126 : decode cX1_chooseBest 126 = .ok (.iadd, 1) := z_dk tdX1_chooseBest_93 17 rfl
theorem dX1_chooseBest_127 : decode cX1_chooseBest 127 = .ok (.invokevirtual 94, 3) := z_dk tdX1_chooseBest_93 18 rfl
theorem dX1_chooseBest_130 : decode cX1_chooseBest 130 = .ok (.ladd, 1) := z_dk tdX1_chooseBest_93 19 rfl
theorem dX1_chooseBest_131 : decode cX1_chooseBest 131 = .ok (.lstore 6, 2) := z_dk tdX1_chooseBest_93 20 rfl
theorem dX1_chooseBest_133 : decode cX1_chooseBest 133 = .ok (.lload 6, 2) := z_dk tdX1_chooseBest_93 21 rfl
theorem dX1_chooseBest_135 : decode cX1_chooseBest 135 = .ok (.lload_n 3, 1) := z_dk tdX1_chooseBest_93 22 rfl
theorem dX1_chooseBest_136 : decode cX1_chooseBest 136 = .ok (.lcmp, 1) := z_dk tdX1_chooseBest_93 23 rfl
theorem tdX1_chooseBest_137 : (([(137, .ifCond .ge 20, 3), (140, .lload 6, 2), (142, .lstore_n 3, 1), (143, .aload_n 0, 1), (144, .getfield 14, 3), (147, .iload_n 2, 1), (148, .iload 5, 2), (150, .iload_n 2, 1), (151, .isub, 1), (152, .iconst 1, 1), (153, .iadd, 1), (154, .invokevirtual 51, 3), (157, .iinc 5 1, 3), (160, .goto (-124), 3), (163, .aload_n 0, 1), (164, .getfield 23, 3), (167, .iload_n 2, 1), (168, .lload_n 3, 1), (169, .invokevirtual 83, 3), (172, .iinc 2 (-1), 3), (175, .goto (-150), 3), (178, .return_, 1)] : List (Nat × Instr × Nat)).all fun e => decide (decode cX1_chooseBest e.1 = .ok e.2)) = true := by decide +kernel
theorem dX1_chooseBest_137 : decode cX1_chooseBest 137 = .ok (.ifCond .ge 20, 3) := z_dk tdX1_chooseBest_137 0 rfl
theorem dX1_chooseBest_140 : decode cX1_chooseBest 140 = .ok (.lload 6, 2) := z_dk tdX1_chooseBest_137 1 rfl
theorem dX1_chooseBest_142 : decode cX1_chooseBest 142 = .ok (.lstore_n 3, 1) := z_dk tdX1_chooseBest_137 2 rfl
theorem dX1_chooseBest_143 : decode cX1_chooseBest 143 = .ok (.aload_n 0, 1) := z_dk tdX1_chooseBest_137 3 rfl
theorem dX1_chooseBest_144 : decode cX1_chooseBest 144 = .ok (.getfield 14, 3) := z_dk tdX1_chooseBest_137 4 rfl
theorem dX1_chooseBest_147 : decode cX1_chooseBest 147 = .ok (.iload_n 2, 1) := z_dk tdX1_chooseBest_137 5 rfl
theorem dX1_chooseBest_148 : decode cX1_chooseBest 148 = .ok (.iload 5, 2) := z_dk tdX1_chooseBest_137 6 rfl
theorem dX1_chooseBest_150 : decode cX1_chooseBest 150 = .ok (.iload_n 2, 1) := z_dk tdX1_chooseBest_137 7 rfl
theorem dX1_chooseBest_151 : decode cX1_chooseBest 151 = .ok (.isub, 1) := z_dk tdX1_chooseBest_137 8 rfl
theorem dX1_chooseBest_152 : decode cX1_chooseBest 152 = .ok (.iconst 1, 1) := z_dk tdX1_chooseBest_137 9 rfl
theorem dX1_chooseBest_153 : decode cX1_chooseBest 153 = .ok (.iadd, 1) := z_dk tdX1_chooseBest_137 10 rfl
theorem dX1_chooseBest_154 : decode cX1_chooseBest 154 = .ok (.invokevirtual 51, 3) := z_dk tdX1_chooseBest_137 11 rfl
theorem dX1_chooseBest_157 : decode cX1_chooseBest 157 = .ok (.iinc 5 1, 3) := z_dk tdX1_chooseBest_137 12 rfl
theorem dX1_chooseBest_160 : decode cX1_chooseBest 160 = .ok (.goto (-124), 3) := z_dk tdX1_chooseBest_137 13 rfl
theorem dX1_chooseBest_163 : decode cX1_chooseBest 163 = .ok (.aload_n 0, 1) := z_dk tdX1_chooseBest_137 14 rfl
theorem dX1_chooseBest_164 : decode cX1_chooseBest 164 = .ok (.getfield 23, 3) := z_dk tdX1_chooseBest_137 15 rfl
theorem dX1_chooseBest_167 : decode cX1_chooseBest 167 = .ok (.iload_n 2, 1) := z_dk tdX1_chooseBest_137 16 rfl
theorem dX1_chooseBest_168 : decode cX1_chooseBest 168 = .ok (.lload_n 3, 1) := z_dk tdX1_chooseBest_137 17 rfl
theorem dX1_chooseBest_169 : decode cX1_chooseBest 169 = .ok (.invokevirtual 83, 3) := z_dk tdX1_chooseBest_137 18 rfl
theorem dX1_chooseBest_172 : decode cX1_chooseBest 172 = .ok (.iinc 2 (-1), 3) := z_dk tdX1_chooseBest_137 19 rfl
theorem dX1_chooseBest_175 : decode cX1_chooseBest 175 = .ok (.goto (-150), 3) := z_dk tdX1_chooseBest_137 20 rfl
theorem dX1_chooseBest_178 : decode cX1_chooseBest 178 = .ok (.return_, 1) := z_dk tdX1_chooseBest_137 21 rfl
theorem tdX1_fewest_0 : (([(0, .aload_n 0, 1), (1, .getfield 27, 3), (4, .aload_n 0, 1), (5, .getfield 33, 3), (8, .getfield 48, 3), (11, .iconst 0, 1), (12, .invokevirtual 51, 3), (15, .aload_n 0, 1), (16, .getfield 33, 3), (19, .getfield 48, 3), (22, .iconst 1, 1), (23, .isub, 1), (24, .istore_n 3, 1), (25, .iload_n 3, 1), (26, .ifCond .lt 124, 3), (29, .sipush 201, 3), (32, .istore 4, 2), (34, .iload_n 3, 1), (35, .istore 5, 2), (37, .iload 5, 2), (39, .aload_n 0, 1), (40, .getfield 33, 3), (43, .getfield 48, 3), (46, .if_icmp .ge 88, 3)] : List (Nat × Instr × Nat)).all fun e => decide (decode cX1_fewest e.1 = .ok e.2)) = true := by decide +kernel
theorem dX1_fewest_0 : decode cX1_fewest 0 = .ok (.aload_n 0, 1) := z_dk tdX1_fewest_0 0 rfl
theorem dX1_fewest_1 : decode cX1_fewest 1 = .ok (.getfield 27, 3) := z_dk tdX1_fewest_0 1 rfl
theorem dX1_fewest_4 : decode cX1_fewest 4 = .ok (.aload_n 0, 1) := z_dk tdX1_fewest_0 2 rfl
theorem dX1_fewest_5 : decode cX1_fewest 5 = .ok (.getfield 33, 3) := z_dk tdX1_fewest_0 3 rfl
theorem dX1_fewest_8 : decode cX1_fewest 8 = .ok (.getfield 48, 3) := z_dk tdX1_fewest_0 4 rfl
theorem dX1_fewest_11 : decode cX1_fewest 11 = .ok (.iconst 0, 1) := z_dk tdX1_fewest_0 5 rfl
theorem dX1_fewest_12 : decode cX1_fewest 12 = .ok (.invokevirtual 51, 3) := z_dk tdX1_fewest_0 6 rfl
theorem dX1_fewest_15 : decode cX1_fewest 15 = .ok (.aload_n 0, 1) := z_dk tdX1_fewest_0 7 rfl
theorem dX1_fewest_16 : decode cX1_fewest 16 = .ok (.getfield 33, 3) := z_dk tdX1_fewest_0 8 rfl
theorem dX1_fewest_19 : decode cX1_fewest 19 = .ok (.getfield 48, 3) := z_dk tdX1_fewest_0 9 rfl
theorem dX1_fewest_22 : decode cX1_fewest 22 = .ok (.iconst 1, 1) := z_dk tdX1_fewest_0 10 rfl
theorem dX1_fewest_23 : decode cX1_fewest 23 = .ok (.isub, 1) := z_dk tdX1_fewest_0 11 rfl
theorem dX1_fewest_24 : decode cX1_fewest 24 = .ok (.istore_n 3, 1) := z_dk tdX1_fewest_0 12 rfl
theorem dX1_fewest_25 : decode cX1_fewest 25 = .ok (.iload_n 3, 1) := z_dk tdX1_fewest_0 13 rfl
theorem dX1_fewest_26 : decode cX1_fewest 26 = .ok (.ifCond .lt 124, 3) := z_dk tdX1_fewest_0 14 rfl
theorem dX1_fewest_29 : decode cX1_fewest 29 = .ok (.sipush 201, 3) := z_dk tdX1_fewest_0 15 rfl
theorem dX1_fewest_32 : decode cX1_fewest 32 = .ok (.istore 4, 2) := z_dk tdX1_fewest_0 16 rfl
theorem dX1_fewest_34 : decode cX1_fewest 34 = .ok (.iload_n 3, 1) := z_dk tdX1_fewest_0 17 rfl
theorem dX1_fewest_35 : decode cX1_fewest 35 = .ok (.istore 5, 2) := z_dk tdX1_fewest_0 18 rfl
theorem dX1_fewest_37 : decode cX1_fewest 37 = .ok (.iload 5, 2) := z_dk tdX1_fewest_0 19 rfl
theorem dX1_fewest_39 : decode cX1_fewest 39 = .ok (.aload_n 0, 1) := z_dk tdX1_fewest_0 20 rfl
theorem dX1_fewest_40 : decode cX1_fewest 40 = .ok (.getfield 33, 3) := z_dk tdX1_fewest_0 21 rfl
theorem dX1_fewest_43 : decode cX1_fewest 43 = .ok (.getfield 48, 3) := z_dk tdX1_fewest_0 22 rfl
theorem dX1_fewest_46 : decode cX1_fewest 46 = .ok (.if_icmp .ge 88, 3) := z_dk tdX1_fewest_0 23 rfl
theorem tdX1_fewest_49 : (([(49, .aload_n 0, 1), (50, .getfield 33, 3), (53, .iload_n 3, 1), (54, .iload 5, 2), (56, .invokevirtual 68, 3), (59, .iload_n 1, 1), (60, .if_icmp .gt 74, 3), (63, .aload_n 0, 1), (64, .getfield 27, 3), (67, .iload 5, 2), (69, .iconst 1, 1), (70, .iadd, 1), (71, .invokevirtual 55, 3), (74, .iconst 1, 1), (75, .iadd, 1), (76, .istore 6, 2), (78, .iload 6, 2), (80, .iload 4, 2), (82, .if_icmp .ge 20, 3), (85, .iload_n 2, 1), (86, .ifCond .eq 12, 3), (89, .aload_n 0, 1), (90, .iload 5, 2), (92, .invokevirtual 76, 3)] : List (Nat × Instr × Nat)).all fun e => decide (decode cX1_fewest e.1 = .ok e.2)) = true := by decide +kernel
theorem dX1_fewest_49 : decode cX1_fewest 49 = .ok (.aload_n 0, 1) := z_dk tdX1_fewest_49 0 rfl
theorem dX1_fewest_50 : decode cX1_fewest 50 = .ok (.getfield 33, 3) := z_dk tdX1_fewest_49 1 rfl
theorem dX1_fewest_53 : decode cX1_fewest 53 = .ok (.iload_n 3, 1) := z_dk tdX1_fewest_49 2 rfl
theorem dX1_fewest_54 : decode cX1_fewest 54 = .ok (.iload 5, 2) := z_dk tdX1_fewest_49 3 rfl
theorem dX1_fewest_56 : decode cX1_fewest 56 = .ok (.invokevirtual 68, 3) := z_dk tdX1_fewest_49 4 rfl
theorem dX1_fewest_59 : decode cX1_fewest 59 = .ok (.iload_n 1, 1) := z_dk tdX1_fewest_49 5 rfl
theorem dX1_fewest_60 : decode cX1_fewest 60 = .ok (.if_icmp .gt 74, 3) := z_dk tdX1_fewest_49 6 rfl
theorem dX1_fewest_63 : decode cX1_fewest 63 = .ok (.aload_n 0, 1) := z_dk tdX1_fewest_49 7 rfl
theorem dX1_fewest_64 : decode cX1_fewest 64 = .ok (.getfield 27, 3) := z_dk tdX1_fewest_49 8 rfl
theorem dX1_fewest_67 : decode cX1_fewest 67 = .ok (.iload 5, 2) := z_dk tdX1_fewest_49 9 rfl
theorem dX1_fewest_69 : decode cX1_fewest 69 = .ok (.iconst 1, 1) := z_dk tdX1_fewest_49 10 rfl
theorem dX1_fewest_70 : decode cX1_fewest 70 = .ok (.iadd, 1) := z_dk tdX1_fewest_49 11 rfl
theorem dX1_fewest_71 : decode cX1_fewest 71 = .ok (.invokevirtual 55, 3) := z_dk tdX1_fewest_49 12 rfl
theorem dX1_fewest_74 : decode cX1_fewest 74 = .ok (.iconst 1, 1) := z_dk tdX1_fewest_49 13 rfl
theorem dX1_fewest_75 : decode cX1_fewest 75 = .ok (.iadd, 1) := z_dk tdX1_fewest_49 14 rfl
theorem dX1_fewest_76 : decode cX1_fewest 76 = .ok (.istore 6, 2) := z_dk tdX1_fewest_49 15 rfl
theorem dX1_fewest_78 : decode cX1_fewest 78 = .ok (.iload 6, 2) := z_dk tdX1_fewest_49 16 rfl
theorem dX1_fewest_80 : decode cX1_fewest 80 = .ok (.iload 4, 2) := z_dk tdX1_fewest_49 17 rfl
theorem dX1_fewest_82 : decode cX1_fewest 82 = .ok (.if_icmp .ge 20, 3) := z_dk tdX1_fewest_49 18 rfl
theorem dX1_fewest_85 : decode cX1_fewest 85 = .ok (.iload_n 2, 1) := z_dk tdX1_fewest_49 19 rfl
theorem dX1_fewest_86 : decode cX1_fewest 86 = .ok (.ifCond .eq 12, 3) := z_dk tdX1_fewest_49 20 rfl
theorem dX1_fewest_89 : decode cX1_fewest 89 = .ok (.aload_n 0, 1) := z_dk tdX1_fewest_49 21 rfl
theorem dX1_fewest_90 : decode cX1_fewest 90 = .ok (.iload 5, 2) := z_dk tdX1_fewest_49 22 rfl
theorem dX1_fewest_92 : decode cX1_fewest 92 = .ok (.invokevirtual 76, 3) := z_dk tdX1_fewest_49 23 rfl
theorem tdX1_fewest_95 : (([(95, .ifCond .eq 7, 3), (98, .iconst 1, 1), (99, .goto 4, 3), (102, .iconst 0, 1), (103, .istore 7, 2), (105, .iload 7, 2), (107, .ifCond .eq 21, 3), (110, .aload_n 0, 1), (111, .getfield 37, 3), (114, .iload_n 3, 1), (115, .iload 5, 2), (117, .invokevirtual 71, 3), (120, .iload_n 1, 1), (121, .if_icmp .gt 7, 3), (124, .iload 6, 2), (126, .istore 4, 2), (128, .iinc 5 1, 3), (131, .goto (-94), 3), (134, .aload_n 0, 1), (135, .getfield 27, 3), (138, .iload_n 3, 1), (139, .iload 4, 2), (141, .invokevirtual 51, 3), (144, .iinc 3 (-1), 3)] : List (Nat × Instr × Nat)).all fun e => decide (decode cX1_fewest e.1 = .ok e.2)) = true := by decide +kernel
theorem dX1_fewest_95 : decode cX1_fewest 95 = .ok (.ifCond .eq 7, 3) := z_dk tdX1_fewest_95 0 rfl
theorem dX1_fewest_98 : decode cX1_fewest 98 = .ok (.iconst 1, 1) := z_dk tdX1_fewest_95 1 rfl
theorem dX1_fewest_99 : decode cX1_fewest 99 = .ok (.goto 4, 3) := z_dk tdX1_fewest_95 2 rfl
theorem dX1_fewest_102 : decode cX1_fewest 102 = .ok (.iconst 0, 1) := z_dk tdX1_fewest_95 3 rfl
theorem dX1_fewest_103 : decode cX1_fewest 103 = .ok (.istore 7, 2) := z_dk tdX1_fewest_95 4 rfl
theorem dX1_fewest_105 : decode cX1_fewest 105 = .ok (.iload 7, 2) := z_dk tdX1_fewest_95 5 rfl
theorem dX1_fewest_107 : decode cX1_fewest 107 = .ok (.ifCond .eq 21, 3) := z_dk tdX1_fewest_95 6 rfl
theorem dX1_fewest_110 : decode cX1_fewest 110 = .ok (.aload_n 0, 1) := z_dk tdX1_fewest_95 7 rfl
theorem dX1_fewest_111 : decode cX1_fewest 111 = .ok (.getfield 37, 3) := z_dk tdX1_fewest_95 8 rfl
theorem dX1_fewest_114 : decode cX1_fewest 114 = .ok (.iload_n 3, 1) := z_dk tdX1_fewest_95 9 rfl
theorem dX1_fewest_115 : decode cX1_fewest 115 = .ok (.iload 5, 2) := z_dk tdX1_fewest_95 10 rfl
theorem dX1_fewest_117 : decode cX1_fewest 117 = .ok (.invokevirtual 71, 3) := z_dk tdX1_fewest_95 11 rfl
theorem dX1_fewest_120 : decode cX1_fewest 120 = .ok (.iload_n 1, 1) := z_dk tdX1_fewest_95 12 rfl
theorem dX1_fewest_121 : decode cX1_fewest 121 = .ok (.if_icmp .gt 7, 3) := z_dk tdX1_fewest_95 13 rfl
theorem dX1_fewest_124 : decode cX1_fewest 124 = .ok (.iload 6, 2) := z_dk tdX1_fewest_95 14 rfl
theorem dX1_fewest_126 : decode cX1_fewest 126 = .ok (.istore 4, 2) := z_dk tdX1_fewest_95 15 rfl
theorem dX1_fewest_128 : decode cX1_fewest 128 = .ok (.iinc 5 1, 3) := z_dk tdX1_fewest_95 16 rfl
theorem dX1_fewest_131 : decode cX1_fewest 131 = .ok (.goto (-94), 3) := z_dk tdX1_fewest_95 17 rfl
theorem dX1_fewest_134 : decode cX1_fewest 134 = .ok (.aload_n 0, 1) := z_dk tdX1_fewest_95 18 rfl
theorem dX1_fewest_135 : decode cX1_fewest 135 = .ok (.getfield 27, 3) := z_dk tdX1_fewest_95 19 rfl
theorem dX1_fewest_138 : decode cX1_fewest 138 = .ok (.iload_n 3, 1) := z_dk tdX1_fewest_95 20 rfl
theorem dX1_fewest_139 : decode cX1_fewest 139 = .ok (.iload 4, 2) := z_dk tdX1_fewest_95 21 rfl
theorem dX1_fewest_141 : decode cX1_fewest 141 = .ok (.invokevirtual 51, 3) := z_dk tdX1_fewest_95 22 rfl
theorem dX1_fewest_144 : decode cX1_fewest 144 = .ok (.iinc 3 (-1), 3) := z_dk tdX1_fewest_95 23 rfl
theorem tdX1_fewest_147 : (([(147, .goto (-122), 3), (150, .aload_n 0, 1), (151, .getfield 27, 3), (154, .iconst 0, 1), (155, .invokevirtual 55, 3), (158, .ireturn, 1)] : List (Nat × Instr × Nat)).all fun e => decide (decode cX1_fewest e.1 = .ok e.2)) = true := by decide +kernel
theorem dX1_fewest_147 : decode cX1_fewest 147 = .ok (.goto (-122), 3) := z_dk tdX1_fewest_147 0 rfl
theorem dX1_fewest_150 : decode cX1_fewest 150 = .ok (.aload_n 0, 1) := z_dk tdX1_fewest_147 1 rfl
theorem dX1_fewest_151 : decode cX1_fewest 151 = .ok (.getfield 27, 3) := z_dk tdX1_fewest_147 2 rfl
theorem dX1_fewest_154 : decode cX1_fewest 154 = .ok (.iconst 0, 1) := z_dk tdX1_fewest_147 3 rfl
theorem dX1_fewest_155 : decode cX1_fewest 155 = .ok (.invokevirtual 55, 3) := z_dk tdX1_fewest_147 4 rfl
theorem dX1_fewest_158 : decode cX1_fewest 158 = .ok (.ireturn, 1) := z_dk tdX1_fewest_147 5 rfl
theorem tdX1_costFor_0 : (([(0, .iload_n 1, 1), (1, .iload_n 0, 1), (2, .isub, 1), (3, .i2l, 1), (4, .lstore_n 3, 1), (5, .lload_n 3, 1), (6, .lconst 0, 1), (7, .lcmp, 1), (8, .ifCond .ge 10, 3), (11, .ldc2_w 88, 3), (14, .lload_n 3, 1), (15, .lneg, 1), (16, .lmul, 1), (17, .lreturn, 1), (18, .iload_n 2, 1), (19, .ifCond .eq 7, 3), (22, .lconst 0, 1), (23, .goto 6, 3), (26, .lload_n 3, 1), (27, .lload_n 3, 1), (28, .lmul, 1), (29, .lreturn, 1)] : List (Nat × Instr × Nat)).all fun e => decide (decode cX1_costFor e.1 = .ok e.2)) = true := by decide +kernel
theorem dX1_costFor_0 : decode cX1_costFor 0 = .ok (.iload_n 1, 1) := z_dk tdX1_costFor_0 0 rfl
theorem dX1_costFor_1 : decode cX1_costFor 1 = .ok (.iload_n 0, 1) := z_dk tdX1_costFor_0 1 rfl
theorem dX1_costFor_2 : decode cX1_costFor 2 = .ok (.isub, 1) := z_dk tdX1_costFor_0 2 rfl
theorem dX1_costFor_3 : decode cX1_costFor 3 = .ok (.i2l, 1) := z_dk tdX1_costFor_0 3 rfl
theorem dX1_costFor_4 : decode cX1_costFor 4 = .ok (.lstore_n 3, 1) := z_dk tdX1_costFor_0 4 rfl
theorem dX1_costFor_5 : decode cX1_costFor 5 = .ok (.lload_n 3, 1) := z_dk tdX1_costFor_0 5 rfl
theorem dX1_costFor_6 : decode cX1_costFor 6 = .ok (.lconst 0, 1) := z_dk tdX1_costFor_0 6 rfl
theorem dX1_costFor_7 : decode cX1_costFor 7 = .ok (.lcmp, 1) := z_dk tdX1_costFor_0 7 rfl
theorem dX1_costFor_8 : decode cX1_costFor 8 = .ok (.ifCond .ge 10, 3) := z_dk tdX1_costFor_0 8 rfl
theorem dX1_costFor_11 : decode cX1_costFor 11 = .ok (.ldc2_w 88, 3) := z_dk tdX1_costFor_0 9 rfl
theorem dX1_costFor_14 : decode cX1_costFor 14 = .ok (.lload_n 3, 1) := z_dk tdX1_costFor_0 10 rfl
theorem dX1_costFor_15 : decode cX1_costFor 15 = .ok (.lneg, 1) := z_dk tdX1_costFor_0 11 rfl
theorem dX1_costFor_16 : decode cX1_costFor 16 = .ok (.lmul, 1) := z_dk tdX1_costFor_0 12 rfl
theorem dX1_costFor_17 : decode cX1_costFor 17 = .ok (.lreturn, 1) := z_dk tdX1_costFor_0 13 rfl
theorem dX1_costFor_18 : decode cX1_costFor 18 = .ok (.iload_n 2, 1) := z_dk tdX1_costFor_0 14 rfl
theorem dX1_costFor_19 : decode cX1_costFor 19 = .ok (.ifCond .eq 7, 3) := z_dk tdX1_costFor_0 15 rfl
theorem dX1_costFor_22 : decode cX1_costFor 22 = .ok (.lconst 0, 1) := z_dk tdX1_costFor_0 16 rfl
theorem dX1_costFor_23 : decode cX1_costFor 23 = .ok (.goto 6, 3) := z_dk tdX1_costFor_0 17 rfl
theorem dX1_costFor_26 : decode cX1_costFor 26 = .ok (.lload_n 3, 1) := z_dk tdX1_costFor_0 18 rfl
theorem dX1_costFor_27 : decode cX1_costFor 27 = .ok (.lload_n 3, 1) := z_dk tdX1_costFor_0 19 rfl
theorem dX1_costFor_28 : decode cX1_costFor 28 = .ok (.lmul, 1) := z_dk tdX1_costFor_0 20 rfl
theorem dX1_costFor_29 : decode cX1_costFor 29 = .ok (.lreturn, 1) := z_dk tdX1_costFor_0 21 rfl
theorem tdX1_longOfLine_0 : (([(0, .aload_n 0, 1), (1, .getfield 37, 3), (4, .aload_n 0, 1), (5, .getfield 30, 3), (8, .iload_n 1, 1), (9, .invokevirtual 55, 3), (12, .aload_n 0, 1), (13, .getfield 30, 3), (16, .iload_n 1, 1), (17, .iconst 1, 1), (18, .iadd, 1), (19, .invokevirtual 55, 3), (22, .iconst 1, 1), (23, .isub, 1), (24, .invokevirtual 71, 3), (27, .ireturn, 1)] : List (Nat × Instr × Nat)).all fun e => decide (decode cX1_longOfLine e.1 = .ok e.2)) = true := by decide +kernel
theorem dX1_longOfLine_0 : decode cX1_longOfLine 0 = .ok (.aload_n 0, 1) := z_dk tdX1_longOfLine_0 0 rfl
theorem dX1_longOfLine_1 : decode cX1_longOfLine 1 = .ok (.getfield 37, 3) := z_dk tdX1_longOfLine_0 1 rfl
theorem dX1_longOfLine_4 : decode cX1_longOfLine 4 = .ok (.aload_n 0, 1) := z_dk tdX1_longOfLine_0 2 rfl
theorem dX1_longOfLine_5 : decode cX1_longOfLine 5 = .ok (.getfield 30, 3) := z_dk tdX1_longOfLine_0 3 rfl
theorem dX1_longOfLine_8 : decode cX1_longOfLine 8 = .ok (.iload_n 1, 1) := z_dk tdX1_longOfLine_0 4 rfl
theorem dX1_longOfLine_9 : decode cX1_longOfLine 9 = .ok (.invokevirtual 55, 3) := z_dk tdX1_longOfLine_0 5 rfl
theorem dX1_longOfLine_12 : decode cX1_longOfLine 12 = .ok (.aload_n 0, 1) := z_dk tdX1_longOfLine_0 6 rfl
theorem dX1_longOfLine_13 : decode cX1_longOfLine 13 = .ok (.getfield 30, 3) := z_dk tdX1_longOfLine_0 7 rfl
theorem dX1_longOfLine_16 : decode cX1_longOfLine 16 = .ok (.iload_n 1, 1) := z_dk tdX1_longOfLine_0 8 rfl
theorem dX1_longOfLine_17 : decode cX1_longOfLine 17 = .ok (.iconst 1, 1) := z_dk tdX1_longOfLine_0 9 rfl
theorem dX1_longOfLine_18 : decode cX1_longOfLine 18 = .ok (.iadd, 1) := z_dk tdX1_longOfLine_0 10 rfl
theorem dX1_longOfLine_19 : decode cX1_longOfLine 19 = .ok (.invokevirtual 55, 3) := z_dk tdX1_longOfLine_0 11 rfl
theorem dX1_longOfLine_22 : decode cX1_longOfLine 22 = .ok (.iconst 1, 1) := z_dk tdX1_longOfLine_0 12 rfl
theorem dX1_longOfLine_23 : decode cX1_longOfLine 23 = .ok (.isub, 1) := z_dk tdX1_longOfLine_0 13 rfl
theorem dX1_longOfLine_24 : decode cX1_longOfLine 24 = .ok (.invokevirtual 71, 3) := z_dk tdX1_longOfLine_0 14 rfl
theorem dX1_longOfLine_27 : decode cX1_longOfLine 27 = .ok (.ireturn, 1) := z_dk tdX1_longOfLine_0 15 rfl
theorem tdX1_costs_0 : (([(0, .lconst 0, 1), (1, .lstore_n 2, 1), (2, .iconst 0, 1), (3, .istore 4, 2), (5, .iload 4, 2), (7, .aload_n 0, 1), (8, .getfield 44, 3), (11, .if_icmp .ge 38, 3), (14, .lload_n 2, 1), (15, .aload_n 0, 1), (16, .iload 4, 2), (18, .invokevirtual 97, 3), (21, .iload_n 1, 1), (22, .iload 4, 2), (24, .aload_n 0, 1), (25, .getfield 44, 3), (28, .iconst 1, 1), (29, .isub, 1), (30, .if_icmp .ne 7, 3), (33, .iconst 1, 1), (34, .goto 4, 3), (37, .iconst 0, 1), (38, .invokestatic 90, 3), (41, .ladd, 1)] : List (Nat × Instr × Nat)).all fun e => decide (decode cX1_costs e.1 = .ok e.2)) = true := by decide +kernel
theorem dX1_costs_0 : decode cX1_costs 0 = .ok (.lconst 0, 1) := z_dk tdX1_costs_0 0 rfl
theorem dX1_costs_1 : decode cX1_costs 1 = .ok (.lstore_n 2, 1) := z_dk tdX1_costs_0 1 rfl
theorem dX1_costs_2 : decode cX1_costs 2 = .ok (.iconst 0, 1) := z_dk tdX1_costs_0 2 rfl
theorem dX1_costs_3 : decode cX1_costs 3 = .ok (.istore 4, 2) := z_dk tdX1_costs_0 3 rfl
theorem dX1_costs_5 : decode cX1_costs 5 = .ok (.iload 4, 2) := z_dk tdX1_costs_0 4 rfl
theorem dX1_costs_7 : decode cX1_costs 7 = .ok (.aload_n 0, 1) := z_dk tdX1_costs_0 5 rfl
theorem dX1_costs_8 : decode cX1_costs 8 = .ok (.getfield 44, 3) := z_dk tdX1_costs_0 6 rfl
theorem dX1_costs_11 : decode cX1_costs 11 = .ok (.if_icmp .ge 38, 3) := z_dk tdX1_costs_0 7 rfl
theorem dX1_costs_14 : decode cX1_costs 14 = .ok (.lload_n 2, 1) := z_dk tdX1_costs_0 8 rfl
theorem dX1_costs_15 : decode cX1_costs 15 = .ok (.aload_n 0, 1) := z_dk tdX1_costs_0 9 rfl
theorem dX1_costs_16 : decode cX1_costs 16 = .ok (.iload 4, 2) := z_dk tdX1_costs_0 10 rfl
theorem dX1_costs_18 : decode cX1_costs 18 = .ok (.invokevirtual 97, 3) := z_dk tdX1_costs_0 11 rfl
theorem dX1_costs_21 : decode cX1_costs 21 = .ok (.iload_n 1, 1) := z_dk tdX1_costs_0 12 rfl
theorem dX1_costs_22 : decode cX1_costs 22 = .ok (.iload 4, 2) := z_dk tdX1_costs_0 13 rfl
theorem dX1_costs_24 : decode cX1_costs 24 = .ok (.aload_n 0, 1) := z_dk tdX1_costs_0 14 rfl
theorem dX1_costs_25 : decode cX1_costs 25 = .ok (.getfield 44, 3) := z_dk tdX1_costs_0 15 rfl
theorem dX1_costs_28 : decode cX1_costs 28 = .ok (.iconst 1, 1) := z_dk tdX1_costs_0 16 rfl
theorem dX1_costs_29 : decode cX1_costs 29 = .ok (.isub, 1) := z_dk tdX1_costs_0 17 rfl
theorem dX1_costs_30 : decode cX1_costs 30 = .ok (.if_icmp .ne 7, 3) := z_dk tdX1_costs_0 18 rfl
theorem dX1_costs_33 : decode cX1_costs 33 = .ok (.iconst 1, 1) := z_dk tdX1_costs_0 19 rfl
theorem dX1_costs_34 : decode cX1_costs 34 = .ok (.goto 4, 3) := z_dk tdX1_costs_0 20 rfl
theorem dX1_costs_37 : decode cX1_costs 37 = .ok (.iconst 0, 1) := z_dk tdX1_costs_0 21 rfl
theorem dX1_costs_38 : decode cX1_costs 38 = .ok (.invokestatic 90, 3) := z_dk tdX1_costs_0 22 rfl
theorem dX1_costs_41 : decode cX1_costs 41 = .ok (.ladd, 1) := z_dk tdX1_costs_0 23 rfl
theorem tdX1_costs_42 : (([(42, .lstore_n 2, 1), (43, .iinc 4 1, 3), (46, .goto (-41), 3), (49, .lload_n 2, 1), (50, .lreturn, 1)] : List (Nat × Instr × Nat)).all fun e => decide (decode cX1_costs e.1 = .ok e.2)) = true := by decide +kernel
theorem dX1_costs_42 : decode cX1_costs 42 = .ok (.lstore_n 2, 1) := z_dk tdX1_costs_42 0 rfl
theorem dX1_costs_43 : decode cX1_costs 43 = .ok (.iinc 4 1, 3) := z_dk tdX1_costs_42 1 rfl
theorem dX1_costs_46 : decode cX1_costs 46 = .ok (.goto (-41), 3) := z_dk tdX1_costs_42 2 rfl
theorem dX1_costs_49 : decode cX1_costs 49 = .ok (.lload_n 2, 1) := z_dk tdX1_costs_42 3 rfl
theorem dX1_costs_50 : decode cX1_costs 50 = .ok (.lreturn, 1) := z_dk tdX1_costs_42 4 rfl
theorem tdX1_tooLong_0 : (([(0, .iconst 0, 1), (1, .istore_n 2, 1), (2, .iconst 0, 1), (3, .istore_n 3, 1), (4, .iload_n 3, 1), (5, .aload_n 0, 1), (6, .getfield 44, 3), (9, .if_icmp .ge 26, 3), (12, .iload_n 2, 1), (13, .aload_n 0, 1), (14, .iload_n 3, 1), (15, .invokevirtual 97, 3), (18, .iload_n 1, 1), (19, .if_icmp .le 7, 3), (22, .iconst 1, 1), (23, .goto 4, 3), (26, .iconst 0, 1), (27, .iadd, 1), (28, .istore_n 2, 1), (29, .iinc 3 1, 3), (32, .goto (-28), 3), (35, .iload_n 2, 1), (36, .ireturn, 1)] : List (Nat × Instr × Nat)).all fun e => decide (decode cX1_tooLong e.1 = .ok e.2)) = true := by decide +kernel
theorem dX1_tooLong_0 : decode cX1_tooLong 0 = .ok (.iconst 0, 1) := z_dk tdX1_tooLong_0 0 rfl
theorem dX1_tooLong_1 : decode cX1_tooLong 1 = .ok (.istore_n 2, 1) := z_dk tdX1_tooLong_0 1 rfl
theorem dX1_tooLong_2 : decode cX1_tooLong 2 = .ok (.iconst 0, 1) := z_dk tdX1_tooLong_0 2 rfl
theorem dX1_tooLong_3 : decode cX1_tooLong 3 = .ok (.istore_n 3, 1) := z_dk tdX1_tooLong_0 3 rfl
theorem dX1_tooLong_4 : decode cX1_tooLong 4 = .ok (.iload_n 3, 1) := z_dk tdX1_tooLong_0 4 rfl
theorem dX1_tooLong_5 : decode cX1_tooLong 5 = .ok (.aload_n 0, 1) := z_dk tdX1_tooLong_0 5 rfl
theorem dX1_tooLong_6 : decode cX1_tooLong 6 = .ok (.getfield 44, 3) := z_dk tdX1_tooLong_0 6 rfl
theorem dX1_tooLong_9 : decode cX1_tooLong 9 = .ok (.if_icmp .ge 26, 3) := z_dk tdX1_tooLong_0 7 rfl
theorem dX1_tooLong_12 : decode cX1_tooLong 12 = .ok (.iload_n 2, 1) := z_dk tdX1_tooLong_0 8 rfl
theorem dX1_tooLong_13 : decode cX1_tooLong 13 = .ok (.aload_n 0, 1) := z_dk tdX1_tooLong_0 9 rfl
theorem dX1_tooLong_14 : decode cX1_tooLong 14 = .ok (.iload_n 3, 1) := z_dk tdX1_tooLong_0 10 rfl
theorem dX1_tooLong_15 : decode cX1_tooLong 15 = .ok (.invokevirtual 97, 3) := z_dk tdX1_tooLong_0 11 rfl
theorem dX1_tooLong_18 : decode cX1_tooLong 18 = .ok (.iload_n 1, 1) := z_dk tdX1_tooLong_0 12 rfl
theorem dX1_tooLong_19 : decode cX1_tooLong 19 = .ok (.if_icmp .le 7, 3) := z_dk tdX1_tooLong_0 13 rfl
theorem dX1_tooLong_22 : decode cX1_tooLong 22 = .ok (.iconst 1, 1) := z_dk tdX1_tooLong_0 14 rfl
theorem dX1_tooLong_23 : decode cX1_tooLong 23 = .ok (.goto 4, 3) := z_dk tdX1_tooLong_0 15 rfl
theorem dX1_tooLong_26 : decode cX1_tooLong 26 = .ok (.iconst 0, 1) := z_dk tdX1_tooLong_0 16 rfl
theorem dX1_tooLong_27 : decode cX1_tooLong 27 = .ok (.iadd, 1) := z_dk tdX1_tooLong_0 17 rfl
theorem dX1_tooLong_28 : decode cX1_tooLong 28 = .ok (.istore_n 2, 1) := z_dk tdX1_tooLong_0 18 rfl
theorem dX1_tooLong_29 : decode cX1_tooLong 29 = .ok (.iinc 3 1, 3) := z_dk tdX1_tooLong_0 19 rfl
theorem dX1_tooLong_32 : decode cX1_tooLong 32 = .ok (.goto (-28), 3) := z_dk tdX1_tooLong_0 20 rfl
theorem dX1_tooLong_35 : decode cX1_tooLong 35 = .ok (.iload_n 2, 1) := z_dk tdX1_tooLong_0 21 rfl
theorem dX1_tooLong_36 : decode cX1_tooLong 36 = .ok (.ireturn, 1) := z_dk tdX1_tooLong_0 22 rfl
theorem tdX1_movedFrom_0 : (([(0, .iconst 0, 1), (1, .istore_n 2, 1), (2, .iconst 0, 1), (3, .istore_n 3, 1), (4, .iload_n 3, 1), (5, .aload_n 0, 1), (6, .getfield 44, 3), (9, .if_icmp .ge 69, 3), (12, .aload_n 0, 1), (13, .getfield 30, 3), (16, .iload_n 3, 1), (17, .invokevirtual 55, 3), (20, .istore 4, 2), (22, .iload 4, 2), (24, .aload_n 0, 1), (25, .getfield 30, 3), (28, .iload_n 3, 1), (29, .iconst 1, 1), (30, .iadd, 1), (31, .invokevirtual 55, 3), (34, .if_icmp .ge 38, 3), (37, .iload_n 2, 1), (38, .aload_n 1, 1), (39, .iload 4, 2)] : List (Nat × Instr × Nat)).all fun e => decide (decode cX1_movedFrom e.1 = .ok e.2)) = true := by decide +kernel
theorem dX1_movedFrom_0 : decode cX1_movedFrom 0 = .ok (.iconst 0, 1) := z_dk tdX1_movedFrom_0 0 rfl
theorem dX1_movedFrom_1 : decode cX1_movedFrom 1 = .ok (.istore_n 2, 1) := z_dk tdX1_movedFrom_0 1 rfl
theorem dX1_movedFrom_2 : decode cX1_movedFrom 2 = .ok (.iconst 0, 1) := z_dk tdX1_movedFrom_0 2 rfl
theorem dX1_movedFrom_3 : decode cX1_movedFrom 3 = .ok (.istore_n 3, 1) := z_dk tdX1_movedFrom_0 3 rfl
theorem dX1_movedFrom_4 : decode cX1_movedFrom 4 = .ok (.iload_n 3, 1) := z_dk tdX1_movedFrom_0 4 rfl
theorem dX1_movedFrom_5 : decode cX1_movedFrom 5 = .ok (.aload_n 0, 1) := z_dk tdX1_movedFrom_0 5 rfl
theorem dX1_movedFrom_6 : decode cX1_movedFrom 6 = .ok (.getfield 44, 3) := z_dk tdX1_movedFrom_0 6 rfl
theorem dX1_movedFrom_9 : decode cX1_movedFrom 9 = .ok (.if_icmp .ge 69, 3) := z_dk tdX1_movedFrom_0 7 rfl
theorem dX1_movedFrom_12 : decode cX1_movedFrom 12 = .ok (.aload_n 0, 1) := z_dk tdX1_movedFrom_0 8 rfl
theorem dX1_movedFrom_13 : decode cX1_movedFrom 13 = .ok (.getfield 30, 3) := z_dk tdX1_movedFrom_0 9 rfl
theorem dX1_movedFrom_16 : decode cX1_movedFrom 16 = .ok (.iload_n 3, 1) := z_dk tdX1_movedFrom_0 10 rfl
theorem dX1_movedFrom_17 : decode cX1_movedFrom 17 = .ok (.invokevirtual 55, 3) := z_dk tdX1_movedFrom_0 11 rfl
theorem dX1_movedFrom_20 : decode cX1_movedFrom 20 = .ok (.istore 4, 2) := z_dk tdX1_movedFrom_0 12 rfl
theorem dX1_movedFrom_22 : decode cX1_movedFrom 22 = .ok (.iload 4, 2) := z_dk tdX1_movedFrom_0 13 rfl
theorem dX1_movedFrom_24 : decode cX1_movedFrom 24 = .ok (.aload_n 0, 1) := z_dk tdX1_movedFrom_0 14 rfl
theorem dX1_movedFrom_25 : decode cX1_movedFrom 25 = .ok (.getfield 30, 3) := z_dk tdX1_movedFrom_0 15 rfl
theorem dX1_movedFrom_28 : decode cX1_movedFrom 28 = .ok (.iload_n 3, 1) := z_dk tdX1_movedFrom_0 16 rfl
theorem dX1_movedFrom_29 : decode cX1_movedFrom 29 = .ok (.iconst 1, 1) := z_dk tdX1_movedFrom_0 17 rfl
theorem dX1_movedFrom_30 : decode cX1_movedFrom 30 = .ok (.iadd, 1) := z_dk tdX1_movedFrom_0 18 rfl
theorem dX1_movedFrom_31 : decode cX1_movedFrom 31 = .ok (.invokevirtual 55, 3) := z_dk tdX1_movedFrom_0 19 rfl
theorem dX1_movedFrom_34 : decode cX1_movedFrom 34 = .ok (.if_icmp .ge 38, 3) := z_dk tdX1_movedFrom_0 20 rfl
theorem dX1_movedFrom_37 : decode cX1_movedFrom 37 = .ok (.iload_n 2, 1) := z_dk tdX1_movedFrom_0 21 rfl
theorem dX1_movedFrom_38 : decode cX1_movedFrom 38 = .ok (.aload_n 1, 1) := z_dk tdX1_movedFrom_0 22 rfl
theorem dX1_movedFrom_39 : decode cX1_movedFrom 39 = .ok (.iload 4, 2) := z_dk tdX1_movedFrom_0 23 rfl
theorem tdX1_movedFrom_41 : (([(41, .invokevirtual 55, 3), (44, .iload_n 3, 1), (45, .if_icmp .ne 7, 3), (48, .iconst 0, 1), (49, .goto 15, 3), (52, .aload_n 0, 1), (53, .getfield 33, 3), (56, .getfield 100, 3), (59, .iload 4, 2), (61, .invokevirtual 55, 3), (64, .iadd, 1), (65, .istore_n 2, 1), (66, .iinc 4 1, 3), (69, .goto (-47), 3), (72, .iinc 3 1, 3), (75, .goto (-71), 3), (78, .iload_n 2, 1), (79, .ireturn, 1)] : List (Nat × Instr × Nat)).all fun e => decide (decode cX1_movedFrom e.1 = .ok e.2)) = true := by decide +kernel
theorem dX1_movedFrom_41 : decode cX1_movedFrom 41 = .ok (.invokevirtual 55, 3) := z_dk tdX1_movedFrom_41 0 rfl
theorem dX1_movedFrom_44 : decode cX1_movedFrom 44 = .ok (.iload_n 3, 1) := z_dk tdX1_movedFrom_41 1 rfl
theorem dX1_movedFrom_45 : decode cX1_movedFrom 45 = .ok (.if_icmp .ne 7, 3) := z_dk tdX1_movedFrom_41 2 rfl
theorem dX1_movedFrom_48 : decode cX1_movedFrom 48 = .ok (.iconst 0, 1) := z_dk tdX1_movedFrom_41 3 rfl
theorem dX1_movedFrom_49 : decode cX1_movedFrom 49 = .ok (.goto 15, 3) := z_dk tdX1_movedFrom_41 4 rfl
theorem dX1_movedFrom_52 : decode cX1_movedFrom 52 = .ok (.aload_n 0, 1) := z_dk tdX1_movedFrom_41 5 rfl
theorem dX1_movedFrom_53 : decode cX1_movedFrom 53 = .ok (.getfield 33, 3) := z_dk tdX1_movedFrom_41 6 rfl
theorem dX1_movedFrom_56 : decode cX1_movedFrom 56 = .ok (.getfield 100, 3) := z_dk tdX1_movedFrom_41 7 rfl
theorem dX1_movedFrom_59 : decode cX1_movedFrom 59 = .ok (.iload 4, 2) := z_dk tdX1_movedFrom_41 8 rfl
theorem dX1_movedFrom_61 : decode cX1_movedFrom 61 = .ok (.invokevirtual 55, 3) := z_dk tdX1_movedFrom_41 9 rfl
theorem dX1_movedFrom_64 : decode cX1_movedFrom 64 = .ok (.iadd, 1) := z_dk tdX1_movedFrom_41 10 rfl
theorem dX1_movedFrom_65 : decode cX1_movedFrom 65 = .ok (.istore_n 2, 1) := z_dk tdX1_movedFrom_41 11 rfl
theorem dX1_movedFrom_66 : decode cX1_movedFrom 66 = .ok (.iinc 4 1, 3) := z_dk tdX1_movedFrom_41 12 rfl
theorem dX1_movedFrom_69 : decode cX1_movedFrom 69 = .ok (.goto (-47), 3) := z_dk tdX1_movedFrom_41 13 rfl
theorem dX1_movedFrom_72 : decode cX1_movedFrom 72 = .ok (.iinc 3 1, 3) := z_dk tdX1_movedFrom_41 14 rfl
theorem dX1_movedFrom_75 : decode cX1_movedFrom 75 = .ok (.goto (-71), 3) := z_dk tdX1_movedFrom_41 15 rfl
theorem dX1_movedFrom_78 : decode cX1_movedFrom 78 = .ok (.iload_n 2, 1) := z_dk tdX1_movedFrom_41 16 rfl
theorem dX1_movedFrom_79 : decode cX1_movedFrom 79 = .ok (.ireturn, 1) := z_dk tdX1_movedFrom_41 17 rfl
theorem tdX2_init_0 : (([(0, .aload_n 0, 1), (1, .invokespecial 3, 3), (4, .aload_n 0, 1), (5, .bipush 12, 2), (7, .anewarray 9, 3), (10, .putfield 11, 3), (13, .iconst 0, 1), (14, .istore_n 1, 1), (15, .iload_n 1, 1), (16, .aload_n 0, 1), (17, .getfield 11, 3), (20, .arraylength, 1), (21, .if_icmp .ge 22, 3), (24, .aload_n 0, 1), (25, .getfield 11, 3), (28, .iload_n 1, 1), (29, .new 9, 3), (32, .dup, 1), (33, .invokespecial 17, 3), (36, .aastore, 1), (37, .iinc 1 1, 3), (40, .goto (-25), 3), (43, .return_, 1)] : List (Nat × Instr × Nat)).all fun e => decide (decode cX2_init e.1 = .ok e.2)) = true := by decide +kernel
theorem dX2_init_0 : decode cX2_init 0 = .ok (.aload_n 0, 1) := z_dk tdX2_init_0 0 rfl
theorem dX2_init_1 : decode cX2_init 1 = .ok (.invokespecial 3, 3) := z_dk tdX2_init_0 1 rfl
theorem dX2_init_4 : decode cX2_init 4 = .ok (.aload_n 0, 1) := z_dk tdX2_init_0 2 rfl
theorem dX2_init_5 : decode cX2_init 5 = .ok (.bipush 12, 2) := z_dk tdX2_init_0 3 rfl
theorem dX2_init_7 : decode cX2_init 7 = .ok (.anewarray 9, 3) := z_dk tdX2_init_0 4 rfl
theorem dX2_init_10 : decode cX2_init 10 = .ok (.putfield 11, 3) := z_dk tdX2_init_0 5 rfl
theorem dX2_init_13 : decode cX2_init 13 = .ok (.iconst 0, 1) := z_dk tdX2_init_0 6 rfl
theorem dX2_init_14 : decode cX2_init 14 = .ok (.istore_n 1, 1) := z_dk tdX2_init_0 7 rfl
theorem dX2_init_15 : decode cX2_init 15 = .ok (.iload_n 1, 1) := z_dk tdX2_init_0 8 rfl
theorem dX2_init_16 : decode cX2_init 16 = .ok (.aload_n 0, 1) := z_dk tdX2_init_0 9 rfl
theorem dX2_init_17 : decode cX2_init 17 = .ok (.getfield 11, 3) := z_dk tdX2_init_0 10 rfl
theorem dX2_init_20 : decode cX2_init 20 = .ok (.arraylength, 1) := z_dk tdX2_init_0 11 rfl
theorem dX2_init_21 : decode cX2_init 21 = .ok (.if_icmp .ge 22, 3) := z_dk tdX2_init_0 12 rfl
theorem dX2_init_24 : decode cX2_init 24 = .ok (.aload_n 0, 1) := z_dk tdX2_init_0 13 rfl
theorem dX2_init_25 : decode cX2_init 25 = .ok (.getfield 11, 3) := z_dk tdX2_init_0 14 rfl
theorem dX2_init_28 : decode cX2_init 28 = .ok (.iload_n 1, 1) := z_dk tdX2_init_0 15 rfl
theorem dX2_init_29 : decode cX2_init 29 = .ok (.new 9, 3) := z_dk tdX2_init_0 16 rfl
theorem dX2_init_32 : decode cX2_init 32 = .ok (.dup, 1) := z_dk tdX2_init_0 17 rfl
theorem dX2_init_33 : decode cX2_init 33 = .ok (.invokespecial 17, 3) := z_dk tdX2_init_0 18 rfl
theorem dX2_init_36 : decode cX2_init 36 = .ok (.aastore, 1) := z_dk tdX2_init_0 19 rfl
theorem dX2_init_37 : decode cX2_init 37 = .ok (.iinc 1 1, 3) := z_dk tdX2_init_0 20 rfl
theorem dX2_init_40 : decode cX2_init 40 = .ok (.goto (-25), 3) := z_dk tdX2_init_0 21 rfl
theorem dX2_init_43 : decode cX2_init 43 = .ok (.return_, 1) := z_dk tdX2_init_0 22 rfl
theorem tdX2_place_0 : (([(0, .aload_n 0, 1), (1, .getfield 18, 3), (4, .ifCond .lt 27, 3), (7, .aload_n 0, 1), (8, .getfield 18, 3), (11, .aload_n 0, 1), (12, .getfield 11, 3), (15, .arraylength, 1), (16, .if_icmp .ge 15, 3), (19, .aload_n 0, 1), (20, .getfield 11, 3), (23, .aload_n 0, 1), (24, .getfield 18, 3), (27, .aaload, 1), (28, .goto 4, 3), (31, .aconst_null, 1), (32, .areturn, 1)] : List (Nat × Instr × Nat)).all fun e => decide (decode cX2_place e.1 = .ok e.2)) = true := by decide +kernel
theorem dX2_place_0 : decode cX2_place 0 = .ok (.aload_n 0, 1) := z_dk tdX2_place_0 0 rfl
theorem dX2_place_1 : decode cX2_place 1 = .ok (.getfield 18, 3) := z_dk tdX2_place_0 1 rfl
theorem dX2_place_4 : decode cX2_place 4 = .ok (.ifCond .lt 27, 3) := z_dk tdX2_place_0 2 rfl
theorem dX2_place_7 : decode cX2_place 7 = .ok (.aload_n 0, 1) := z_dk tdX2_place_0 3 rfl
theorem dX2_place_8 : decode cX2_place 8 = .ok (.getfield 18, 3) := z_dk tdX2_place_0 4 rfl
theorem dX2_place_11 : decode cX2_place 11 = .ok (.aload_n 0, 1) := z_dk tdX2_place_0 5 rfl
theorem dX2_place_12 : decode cX2_place 12 = .ok (.getfield 11, 3) := z_dk tdX2_place_0 6 rfl
theorem dX2_place_15 : decode cX2_place 15 = .ok (.arraylength, 1) := z_dk tdX2_place_0 7 rfl
theorem dX2_place_16 : decode cX2_place 16 = .ok (.if_icmp .ge 15, 3) := z_dk tdX2_place_0 8 rfl
theorem dX2_place_19 : decode cX2_place 19 = .ok (.aload_n 0, 1) := z_dk tdX2_place_0 9 rfl
theorem dX2_place_20 : decode cX2_place 20 = .ok (.getfield 11, 3) := z_dk tdX2_place_0 10 rfl
theorem dX2_place_23 : decode cX2_place 23 = .ok (.aload_n 0, 1) := z_dk tdX2_place_0 11 rfl
theorem dX2_place_24 : decode cX2_place 24 = .ok (.getfield 18, 3) := z_dk tdX2_place_0 12 rfl
theorem dX2_place_27 : decode cX2_place 27 = .ok (.aaload, 1) := z_dk tdX2_place_0 13 rfl
theorem dX2_place_28 : decode cX2_place 28 = .ok (.goto 4, 3) := z_dk tdX2_place_0 14 rfl
theorem dX2_place_31 : decode cX2_place 31 = .ok (.aconst_null, 1) := z_dk tdX2_place_0 15 rfl
theorem dX2_place_32 : decode cX2_place 32 = .ok (.areturn, 1) := z_dk tdX2_place_0 16 rfl
theorem tdX2_keep_0 : (([(0, .aload_n 0, 1), (1, .invokevirtual 22, 3), (4, .astore_n 2, 1), (5, .aload_n 2, 1), (6, .ifnull 8, 3), (9, .aload_n 2, 1), (10, .aload_n 1, 1), (11, .invokevirtual 26, 3), (14, .aload_n 0, 1), (15, .aload_n 0, 1), (16, .getfield 18, 3), (19, .iconst 1, 1), (20, .iadd, 1), (21, .bipush 12, 2), (23, .if_icmp .ge 12, 3), (26, .aload_n 0, 1), (27, .getfield 18, 3), (30, .iconst 1, 1), (31, .iadd, 1), (32, .goto 4, 3), (35, .iconst 0, 1), (36, .putfield 18, 3), (39, .aload_n 0, 1), (40, .aload_n 0, 1)] : List (Nat × Instr × Nat)).all fun e => decide (decode cX2_keep e.1 = .ok e.2)) = true := by decide +kernel
theorem dX2_keep_0 : decode cX2_keep 0 = .ok (.aload_n 0, 1) := z_dk tdX2_keep_0 0 rfl
theorem dX2_keep_1 : decode cX2_keep 1 = .ok (.invokevirtual 22, 3) := z_dk tdX2_keep_0 1 rfl
theorem dX2_keep_4 : decode cX2_keep 4 = .ok (.astore_n 2, 1) := z_dk tdX2_keep_0 2 rfl
theorem dX2_keep_5 : decode cX2_keep 5 = .ok (.aload_n 2, 1) := z_dk tdX2_keep_0 3 rfl
theorem dX2_keep_6 : decode cX2_keep 6 = .ok (.ifnull 8, 3) := z_dk tdX2_keep_0 4 rfl
theorem dX2_keep_9 : decode cX2_keep 9 = .ok (.aload_n 2, 1) := z_dk tdX2_keep_0 5 rfl
theorem dX2_keep_10 : decode cX2_keep 10 = .ok (.aload_n 1, 1) := z_dk tdX2_keep_0 6 rfl
theorem dX2_keep_11 : decode cX2_keep 11 = .ok (.invokevirtual 26, 3) := z_dk tdX2_keep_0 7 rfl
theorem dX2_keep_14 : decode cX2_keep 14 = .ok (.aload_n 0, 1) := z_dk tdX2_keep_0 8 rfl
theorem dX2_keep_15 : decode cX2_keep 15 = .ok (.aload_n 0, 1) := z_dk tdX2_keep_0 9 rfl
theorem dX2_keep_16 : decode cX2_keep 16 = .ok (.getfield 18, 3) := z_dk tdX2_keep_0 10 rfl
theorem dX2_keep_19 : decode cX2_keep 19 = .ok (.iconst 1, 1) := z_dk tdX2_keep_0 11 rfl
theorem dX2_keep_20 : decode cX2_keep 20 = .ok (.iadd, 1) := z_dk tdX2_keep_0 12 rfl
theorem dX2_keep_21 : decode cX2_keep 21 = .ok (.bipush 12, 2) := z_dk tdX2_keep_0 13 rfl
theorem dX2_keep_23 : decode cX2_keep 23 = .ok (.if_icmp .ge 12, 3) := z_dk tdX2_keep_0 14 rfl
theorem dX2_keep_26 : decode cX2_keep 26 = .ok (.aload_n 0, 1) := z_dk tdX2_keep_0 15 rfl
theorem dX2_keep_27 : decode cX2_keep 27 = .ok (.getfield 18, 3) := z_dk tdX2_keep_0 16 rfl
theorem dX2_keep_30 : decode cX2_keep 30 = .ok (.iconst 1, 1) := z_dk tdX2_keep_0 17 rfl
theorem dX2_keep_31 : decode cX2_keep 31 = .ok (.iadd, 1) := z_dk tdX2_keep_0 18 rfl
theorem dX2_keep_32 : decode cX2_keep 32 = .ok (.goto 4, 3) := z_dk tdX2_keep_0 19 rfl
theorem dX2_keep_35 : decode cX2_keep 35 = .ok (.iconst 0, 1) := z_dk tdX2_keep_0 20 rfl
theorem dX2_keep_36 : decode cX2_keep 36 = .ok (.putfield 18, 3) := z_dk tdX2_keep_0 21 rfl
theorem dX2_keep_39 : decode cX2_keep 39 = .ok (.aload_n 0, 1) := z_dk tdX2_keep_0 22 rfl
theorem dX2_keep_40 : decode cX2_keep 40 = .ok (.aload_n 0, 1) := z_dk tdX2_keep_0 23 rfl
theorem tdX2_keep_41 : (([(41, .getfield 30, 3), (44, .iconst 1, 1), (45, .iadd, 1), (46, .bipush 12, 2), (48, .invokestatic 33, 3), (51, .putfield 30, 3), (54, .return_, 1)] : List (Nat × Instr × Nat)).all fun e => decide (decode cX2_keep e.1 = .ok e.2)) = true := by decide +kernel
theorem dX2_keep_41 : decode cX2_keep 41 = .ok (.getfield 30, 3) := z_dk tdX2_keep_41 0 rfl
theorem dX2_keep_44 : decode cX2_keep 44 = .ok (.iconst 1, 1) := z_dk tdX2_keep_41 1 rfl
theorem dX2_keep_45 : decode cX2_keep 45 = .ok (.iadd, 1) := z_dk tdX2_keep_41 2 rfl
theorem dX2_keep_46 : decode cX2_keep 46 = .ok (.bipush 12, 2) := z_dk tdX2_keep_41 3 rfl
theorem dX2_keep_48 : decode cX2_keep 48 = .ok (.invokestatic 33, 3) := z_dk tdX2_keep_41 4 rfl
theorem dX2_keep_51 : decode cX2_keep 51 = .ok (.putfield 30, 3) := z_dk tdX2_keep_41 5 rfl
theorem dX2_keep_54 : decode cX2_keep 54 = .ok (.return_, 1) := z_dk tdX2_keep_41 6 rfl
theorem tdX2_takeBack_0 : (([(0, .aload_n 0, 1), (1, .getfield 30, 3), (4, .ifCond .ne 5, 3), (7, .iconst 0, 1), (8, .ireturn, 1), (9, .aload_n 0, 1), (10, .dup, 1), (11, .getfield 30, 3), (14, .iconst 1, 1), (15, .isub, 1), (16, .putfield 30, 3), (19, .aload_n 0, 1), (20, .aload_n 0, 1), (21, .getfield 18, 3), (24, .ifCond .le 12, 3), (27, .aload_n 0, 1), (28, .getfield 18, 3), (31, .iconst 1, 1), (32, .isub, 1), (33, .goto 5, 3), (36, .bipush 11, 2), (38, .putfield 18, 3), (41, .aload_n 0, 1), (42, .invokevirtual 22, 3)] : List (Nat × Instr × Nat)).all fun e => decide (decode cX2_takeBack e.1 = .ok e.2)) = true := by decide +kernel
theorem dX2_takeBack_0 : decode cX2_takeBack 0 = .ok (.aload_n 0, 1) := z_dk tdX2_takeBack_0 0 rfl
theorem dX2_takeBack_1 : decode cX2_takeBack 1 = .ok (.getfield 30, 3) := z_dk tdX2_takeBack_0 1 rfl
theorem dX2_takeBack_4 : decode cX2_takeBack 4 = .ok (.ifCond .ne 5, 3) := z_dk tdX2_takeBack_0 2 rfl
theorem dX2_takeBack_7 : decode cX2_takeBack 7 = .ok (.iconst 0, 1) := z_dk tdX2_takeBack_0 3 rfl
theorem dX2_takeBack_8 : decode cX2_takeBack 8 = .ok (.ireturn, 1) := z_dk tdX2_takeBack_0 4 rfl
theorem dX2_takeBack_9 : decode cX2_takeBack 9 = .ok (.aload_n 0, 1) := z_dk tdX2_takeBack_0 5 rfl
theorem dX2_takeBack_10 : decode cX2_takeBack 10 = .ok (.dup, 1) := z_dk tdX2_takeBack_0 6 rfl
theorem dX2_takeBack_11 : decode cX2_takeBack 11 = .ok (.getfield 30, 3) := z_dk tdX2_takeBack_0 7 rfl
theorem dX2_takeBack_14 : decode cX2_takeBack 14 = .ok (.iconst 1, 1) := z_dk tdX2_takeBack_0 8 rfl
theorem dX2_takeBack_15 : decode cX2_takeBack 15 = .ok (.isub, 1) := z_dk tdX2_takeBack_0 9 rfl
theorem dX2_takeBack_16 : decode cX2_takeBack 16 = .ok (.putfield 30, 3) := z_dk tdX2_takeBack_0 10 rfl
theorem dX2_takeBack_19 : decode cX2_takeBack 19 = .ok (.aload_n 0, 1) := z_dk tdX2_takeBack_0 11 rfl
theorem dX2_takeBack_20 : decode cX2_takeBack 20 = .ok (.aload_n 0, 1) := z_dk tdX2_takeBack_0 12 rfl
theorem dX2_takeBack_21 : decode cX2_takeBack 21 = .ok (.getfield 18, 3) := z_dk tdX2_takeBack_0 13 rfl
theorem dX2_takeBack_24 : decode cX2_takeBack 24 = .ok (.ifCond .le 12, 3) := z_dk tdX2_takeBack_0 14 rfl
theorem dX2_takeBack_27 : decode cX2_takeBack 27 = .ok (.aload_n 0, 1) := z_dk tdX2_takeBack_0 15 rfl
theorem dX2_takeBack_28 : decode cX2_takeBack 28 = .ok (.getfield 18, 3) := z_dk tdX2_takeBack_0 16 rfl
theorem dX2_takeBack_31 : decode cX2_takeBack 31 = .ok (.iconst 1, 1) := z_dk tdX2_takeBack_0 17 rfl
theorem dX2_takeBack_32 : decode cX2_takeBack 32 = .ok (.isub, 1) := z_dk tdX2_takeBack_0 18 rfl
theorem dX2_takeBack_33 : decode cX2_takeBack 33 = .ok (.goto 5, 3) := z_dk tdX2_takeBack_0 19 rfl
theorem dX2_takeBack_36 : decode cX2_takeBack 36 = .ok (.bipush 11, 2) := z_dk tdX2_takeBack_0 20 rfl
theorem dX2_takeBack_38 : decode cX2_takeBack 38 = .ok (.putfield 18, 3) := z_dk tdX2_takeBack_0 21 rfl
theorem dX2_takeBack_41 : decode cX2_takeBack 41 = .ok (.aload_n 0, 1) := z_dk tdX2_takeBack_0 22 rfl
theorem dX2_takeBack_42 : decode cX2_takeBack 42 = .ok (.invokevirtual 22, 3) := z_dk tdX2_takeBack_0 23 rfl
theorem tdX2_takeBack_45 : (([(45, .astore_n 2, 1), (46, .aload_n 2, 1), (47, .ifnull 8, 3), (50, .aload_n 1, 1), (51, .aload_n 2, 1), (52, .invokevirtual 26, 3), (55, .iconst 1, 1), (56, .ireturn, 1)] : List (Nat × Instr × Nat)).all fun e => decide (decode cX2_takeBack e.1 = .ok e.2)) = true := by decide +kernel
theorem dX2_takeBack_45 : decode cX2_takeBack 45 = .ok (.astore_n 2, 1) := z_dk tdX2_takeBack_45 0 rfl
theorem dX2_takeBack_46 : decode cX2_takeBack 46 = .ok (.aload_n 2, 1) := z_dk tdX2_takeBack_45 1 rfl
theorem dX2_takeBack_47 : decode cX2_takeBack 47 = .ok (.ifnull 8, 3) := z_dk tdX2_takeBack_45 2 rfl
theorem dX2_takeBack_50 : decode cX2_takeBack 50 = .ok (.aload_n 1, 1) := z_dk tdX2_takeBack_45 3 rfl
theorem dX2_takeBack_51 : decode cX2_takeBack 51 = .ok (.aload_n 2, 1) := z_dk tdX2_takeBack_45 4 rfl
theorem dX2_takeBack_52 : decode cX2_takeBack 52 = .ok (.invokevirtual 26, 3) := z_dk tdX2_takeBack_45 5 rfl
theorem dX2_takeBack_55 : decode cX2_takeBack 55 = .ok (.iconst 1, 1) := z_dk tdX2_takeBack_45 6 rfl
theorem dX2_takeBack_56 : decode cX2_takeBack 56 = .ok (.ireturn, 1) := z_dk tdX2_takeBack_45 7 rfl
theorem tdX3_init_0 : (([(0, .aload_n 0, 1), (1, .invokespecial 3, 3), (4, .aload_n 0, 1), (5, .new 9, 3), (8, .dup, 1), (9, .sipush 200, 3), (12, .invokespecial 11, 3), (15, .putfield 14, 3), (18, .aload_n 0, 1), (19, .new 9, 3), (22, .dup, 1), (23, .sipush 200, 3), (26, .invokespecial 11, 3), (29, .putfield 20, 3), (32, .aload_n 0, 1), (33, .new 9, 3), (36, .dup, 1), (37, .sipush 200, 3), (40, .invokespecial 11, 3), (43, .putfield 23, 3), (46, .aload_n 0, 1), (47, .new 9, 3), (50, .dup, 1), (51, .sipush 200, 3)] : List (Nat × Instr × Nat)).all fun e => decide (decode cX3_init e.1 = .ok e.2)) = true := by decide +kernel
theorem dX3_init_0 : decode cX3_init 0 = .ok (.aload_n 0, 1) := z_dk tdX3_init_0 0 rfl
theorem dX3_init_1 : decode cX3_init 1 = .ok (.invokespecial 3, 3) := z_dk tdX3_init_0 1 rfl
theorem dX3_init_4 : decode cX3_init 4 = .ok (.aload_n 0, 1) := z_dk tdX3_init_0 2 rfl
theorem dX3_init_5 : decode cX3_init 5 = .ok (.new 9, 3) := z_dk tdX3_init_0 3 rfl
theorem dX3_init_8 : decode cX3_init 8 = .ok (.dup, 1) := z_dk tdX3_init_0 4 rfl
theorem dX3_init_9 : decode cX3_init 9 = .ok (.sipush 200, 3) := z_dk tdX3_init_0 5 rfl
theorem dX3_init_12 : decode cX3_init 12 = .ok (.invokespecial 11, 3) := z_dk tdX3_init_0 6 rfl
theorem dX3_init_15 : decode cX3_init 15 = .ok (.putfield 14, 3) := z_dk tdX3_init_0 7 rfl
theorem dX3_init_18 : decode cX3_init 18 = .ok (.aload_n 0, 1) := z_dk tdX3_init_0 8 rfl
theorem dX3_init_19 : decode cX3_init 19 = .ok (.new 9, 3) := z_dk tdX3_init_0 9 rfl
theorem dX3_init_22 : decode cX3_init 22 = .ok (.dup, 1) := z_dk tdX3_init_0 10 rfl
theorem dX3_init_23 : decode cX3_init 23 = .ok (.sipush 200, 3) := z_dk tdX3_init_0 11 rfl
theorem dX3_init_26 : decode cX3_init 26 = .ok (.invokespecial 11, 3) := z_dk tdX3_init_0 12 rfl
theorem dX3_init_29 : decode cX3_init 29 = .ok (.putfield 20, 3) := z_dk tdX3_init_0 13 rfl
theorem dX3_init_32 : decode cX3_init 32 = .ok (.aload_n 0, 1) := z_dk tdX3_init_0 14 rfl
theorem dX3_init_33 : decode cX3_init 33 = .ok (.new 9, 3) := z_dk tdX3_init_0 15 rfl
theorem dX3_init_36 : decode cX3_init 36 = .ok (.dup, 1) := z_dk tdX3_init_0 16 rfl
theorem dX3_init_37 : decode cX3_init 37 = .ok (.sipush 200, 3) := z_dk tdX3_init_0 17 rfl
theorem dX3_init_40 : decode cX3_init 40 = .ok (.invokespecial 11, 3) := z_dk tdX3_init_0 18 rfl
theorem dX3_init_43 : decode cX3_init 43 = .ok (.putfield 23, 3) := z_dk tdX3_init_0 19 rfl
theorem dX3_init_46 : decode cX3_init 46 = .ok (.aload_n 0, 1) := z_dk tdX3_init_0 20 rfl
theorem dX3_init_47 : decode cX3_init 47 = .ok (.new 9, 3) := z_dk tdX3_init_0 21 rfl
theorem dX3_init_50 : decode cX3_init 50 = .ok (.dup, 1) := z_dk tdX3_init_0 22 rfl
theorem dX3_init_51 : decode cX3_init 51 = .ok (.sipush 200, 3) := z_dk tdX3_init_0 23 rfl
theorem tdX3_init_54 : (([(54, .invokespecial 11, 3), (57, .putfield 26, 3), (60, .aload_n 0, 1), (61, .new 9, 3), (64, .dup, 1), (65, .sipush 200, 3), (68, .invokespecial 11, 3), (71, .putfield 29, 3), (74, .aload_n 0, 1), (75, .new 9, 3), (78, .dup, 1), (79, .sipush 200, 3), (82, .invokespecial 11, 3), (85, .putfield 32, 3), (88, .aload_n 0, 1), (89, .new 9, 3), (92, .dup, 1), (93, .sipush 200, 3), (96, .invokespecial 11, 3), (99, .putfield 35, 3), (102, .aload_n 0, 1), (103, .new 9, 3), (106, .dup, 1), (107, .sipush 200, 3)] : List (Nat × Instr × Nat)).all fun e => decide (decode cX3_init e.1 = .ok e.2)) = true := by decide +kernel
theorem dX3_init_54 : decode cX3_init 54 = .ok (.invokespecial 11, 3) := z_dk tdX3_init_54 0 rfl
theorem dX3_init_57 : decode cX3_init 57 = .ok (.putfield 26, 3) := z_dk tdX3_init_54 1 rfl
theorem dX3_init_60 : decode cX3_init 60 = .ok (.aload_n 0, 1) := z_dk tdX3_init_54 2 rfl
theorem dX3_init_61 : decode cX3_init 61 = .ok (.new 9, 3) := z_dk tdX3_init_54 3 rfl
theorem dX3_init_64 : decode cX3_init 64 = .ok (.dup, 1) := z_dk tdX3_init_54 4 rfl
theorem dX3_init_65 : decode cX3_init 65 = .ok (.sipush 200, 3) := z_dk tdX3_init_54 5 rfl
theorem dX3_init_68 : decode cX3_init 68 = .ok (.invokespecial 11, 3) := z_dk tdX3_init_54 6 rfl
theorem dX3_init_71 : decode cX3_init 71 = .ok (.putfield 29, 3) := z_dk tdX3_init_54 7 rfl
theorem dX3_init_74 : decode cX3_init 74 = .ok (.aload_n 0, 1) := z_dk tdX3_init_54 8 rfl
theorem dX3_init_75 : decode cX3_init 75 = .ok (.new 9, 3) := z_dk tdX3_init_54 9 rfl
theorem dX3_init_78 : decode cX3_init 78 = .ok (.dup, 1) := z_dk tdX3_init_54 10 rfl
theorem dX3_init_79 : decode cX3_init 79 = .ok (.sipush 200, 3) := z_dk tdX3_init_54 11 rfl
theorem dX3_init_82 : decode cX3_init 82 = .ok (.invokespecial 11, 3) := z_dk tdX3_init_54 12 rfl
theorem dX3_init_85 : decode cX3_init 85 = .ok (.putfield 32, 3) := z_dk tdX3_init_54 13 rfl
theorem dX3_init_88 : decode cX3_init 88 = .ok (.aload_n 0, 1) := z_dk tdX3_init_54 14 rfl
theorem dX3_init_89 : decode cX3_init 89 = .ok (.new 9, 3) := z_dk tdX3_init_54 15 rfl
theorem dX3_init_92 : decode cX3_init 92 = .ok (.dup, 1) := z_dk tdX3_init_54 16 rfl
theorem dX3_init_93 : decode cX3_init 93 = .ok (.sipush 200, 3) := z_dk tdX3_init_54 17 rfl
theorem dX3_init_96 : decode cX3_init 96 = .ok (.invokespecial 11, 3) := z_dk tdX3_init_54 18 rfl
theorem dX3_init_99 : decode cX3_init 99 = .ok (.putfield 35, 3) := z_dk tdX3_init_54 19 rfl
theorem dX3_init_102 : decode cX3_init 102 = .ok (.aload_n 0, 1) := z_dk tdX3_init_54 20 rfl
theorem dX3_init_103 : decode cX3_init 103 = .ok (.new 9, 3) := z_dk tdX3_init_54 21 rfl
theorem dX3_init_106 : decode cX3_init 106 = .ok (.dup, 1) := z_dk tdX3_init_54 22 rfl
theorem dX3_init_107 : decode cX3_init 107 = .ok (.sipush 200, 3) := z_dk tdX3_init_54 23 rfl
theorem tdX3_init_110 : (([(110, .invokespecial 11, 3), (113, .putfield 38, 3), (116, .aload_n 0, 1), (117, .new 9, 3), (120, .dup, 1), (121, .sipush 200, 3), (124, .invokespecial 11, 3), (127, .putfield 41, 3), (130, .aload_n 0, 1), (131, .new 9, 3), (134, .dup, 1), (135, .sipush 201, 3), (138, .invokespecial 11, 3), (141, .putfield 44, 3), (144, .aload_n 0, 1), (145, .aload_n 1, 1), (146, .putfield 47, 3), (149, .aload_n 0, 1), (150, .aload_n 2, 1), (151, .putfield 51, 3), (154, .aload_n 0, 1), (155, .aload_n 3, 1), (156, .putfield 55, 3), (159, .aload_n 0, 1)] : List (Nat × Instr × Nat)).all fun e => decide (decode cX3_init e.1 = .ok e.2)) = true := by decide +kernel
theorem dX3_init_110 : decode cX3_init 110 = .ok (.invokespecial 11, 3) := z_dk tdX3_init_110 0 rfl
theorem dX3_init_113 : decode cX3_init 113 = .ok (.putfield 38, 3) := z_dk tdX3_init_110 1 rfl
theorem dX3_init_116 : decode cX3_init 116 = .ok (.aload_n 0, 1) := z_dk tdX3_init_110 2 rfl
theorem dX3_init_117 : decode cX3_init 117 = .ok (.new 9, 3) := z_dk tdX3_init_110 3 rfl
theorem dX3_init_120 : decode cX3_init 120 = .ok (.dup, 1) := z_dk tdX3_init_110 4 rfl
theorem dX3_init_121 : decode cX3_init 121 = .ok (.sipush 200, 3) := z_dk tdX3_init_110 5 rfl
theorem dX3_init_124 : decode cX3_init 124 = .ok (.invokespecial 11, 3) := z_dk tdX3_init_110 6 rfl
theorem dX3_init_127 : decode cX3_init 127 = .ok (.putfield 41, 3) := z_dk tdX3_init_110 7 rfl
theorem dX3_init_130 : decode cX3_init 130 = .ok (.aload_n 0, 1) := z_dk tdX3_init_110 8 rfl
theorem dX3_init_131 : decode cX3_init 131 = .ok (.new 9, 3) := z_dk tdX3_init_110 9 rfl
theorem dX3_init_134 : decode cX3_init 134 = .ok (.dup, 1) := z_dk tdX3_init_110 10 rfl
theorem dX3_init_135 : decode cX3_init 135 = .ok (.sipush 201, 3) := z_dk tdX3_init_110 11 rfl
theorem dX3_init_138 : decode cX3_init 138 = .ok (.invokespecial 11, 3) := z_dk tdX3_init_110 12 rfl
theorem dX3_init_141 : decode cX3_init 141 = .ok (.putfield 44, 3) := z_dk tdX3_init_110 13 rfl
theorem dX3_init_144 : decode cX3_init 144 = .ok (.aload_n 0, 1) := z_dk tdX3_init_110 14 rfl
theorem dX3_init_145 : decode cX3_init 145 = .ok (.aload_n 1, 1) := z_dk tdX3_init_110 15 rfl
theorem dX3_init_146 : decode cX3_init 146 = .ok (.putfield 47, 3) := z_dk tdX3_init_110 16 rfl
theorem dX3_init_149 : decode cX3_init 149 = .ok (.aload_n 0, 1) := z_dk tdX3_init_110 17 rfl
theorem dX3_init_150 : decode cX3_init 150 = .ok (.aload_n 2, 1) := z_dk tdX3_init_110 18 rfl
theorem dX3_init_151 : decode cX3_init 151 = .ok (.putfield 51, 3) := z_dk tdX3_init_110 19 rfl
theorem dX3_init_154 : decode cX3_init 154 = .ok (.aload_n 0, 1) := z_dk tdX3_init_110 20 rfl
theorem dX3_init_155 : decode cX3_init 155 = .ok (.aload_n 3, 1) := z_dk tdX3_init_110 21 rfl
theorem dX3_init_156 : decode cX3_init 156 = .ok (.putfield 55, 3) := z_dk tdX3_init_110 22 rfl
theorem dX3_init_159 : decode cX3_init 159 = .ok (.aload_n 0, 1) := z_dk tdX3_init_110 23 rfl
theorem tdX3_init_160 : (([(160, .aload 4, 2), (162, .putfield 59, 3), (165, .aload_n 0, 1), (166, .aload 5, 2), (168, .putfield 63, 3), (171, .aload_n 0, 1), (172, .new 66, 3), (175, .dup, 1), (176, .aload_n 2, 1), (177, .invokespecial 68, 3), (180, .putfield 71, 3), (183, .return_, 1)] : List (Nat × Instr × Nat)).all fun e => decide (decode cX3_init e.1 = .ok e.2)) = true := by decide +kernel
theorem dX3_init_160 : decode cX3_init 160 = .ok (.aload 4, 2) := z_dk tdX3_init_160 0 rfl
theorem dX3_init_162 : decode cX3_init 162 = .ok (.putfield 59, 3) := z_dk tdX3_init_160 1 rfl
theorem dX3_init_165 : decode cX3_init 165 = .ok (.aload_n 0, 1) := z_dk tdX3_init_160 2 rfl
theorem dX3_init_166 : decode cX3_init 166 = .ok (.aload 5, 2) := z_dk tdX3_init_160 3 rfl
theorem dX3_init_168 : decode cX3_init 168 = .ok (.putfield 63, 3) := z_dk tdX3_init_160 4 rfl
theorem dX3_init_171 : decode cX3_init 171 = .ok (.aload_n 0, 1) := z_dk tdX3_init_160 5 rfl
theorem dX3_init_172 : decode cX3_init 172 = .ok (.new 66, 3) := z_dk tdX3_init_160 6 rfl
theorem dX3_init_175 : decode cX3_init 175 = .ok (.dup, 1) := z_dk tdX3_init_160 7 rfl
theorem dX3_init_176 : decode cX3_init 176 = .ok (.aload_n 2, 1) := z_dk tdX3_init_160 8 rfl
theorem dX3_init_177 : decode cX3_init 177 = .ok (.invokespecial 68, 3) := z_dk tdX3_init_160 9 rfl
theorem dX3_init_180 : decode cX3_init 180 = .ok (.putfield 71, 3) := z_dk tdX3_init_160 10 rfl
theorem dX3_init_183 : decode cX3_init 183 = .ok (.return_, 1) := z_dk tdX3_init_160 11 rfl
theorem tdX3_build_0 : (([(0, .aload_n 0, 1), (1, .getfield 71, 3), (4, .invokevirtual 75, 3), (7, .iconst 0, 1), (8, .istore_n 1, 1), (9, .iload_n 1, 1), (10, .aload_n 0, 1), (11, .getfield 59, 3), (14, .getfield 78, 3), (17, .if_icmp .ge 19, 3), (20, .aload_n 0, 1), (21, .iload_n 1, 1), (22, .invokevirtual 84, 3), (25, .aload_n 0, 1), (26, .iload_n 1, 1), (27, .invokevirtual 87, 3), (30, .iinc 1 1, 3), (33, .goto (-24), 3), (36, .aload_n 0, 1), (37, .getfield 44, 3), (40, .aload_n 0, 1), (41, .getfield 59, 3), (44, .getfield 78, 3), (47, .aload_n 0, 1)] : List (Nat × Instr × Nat)).all fun e => decide (decode cX3_build e.1 = .ok e.2)) = true := by decide +kernel
theorem dX3_build_0 : decode cX3_build 0 = .ok (.aload_n 0, 1) := z_dk tdX3_build_0 0 rfl
theorem dX3_build_1 : decode cX3_build 1 = .ok (.getfield 71, 3) := z_dk tdX3_build_0 1 rfl
theorem dX3_build_4 : decode cX3_build 4 = .ok (.invokevirtual 75, 3) := z_dk tdX3_build_0 2 rfl
theorem dX3_build_7 : decode cX3_build 7 = .ok (.iconst 0, 1) := z_dk tdX3_build_0 3 rfl
theorem dX3_build_8 : decode cX3_build 8 = .ok (.istore_n 1, 1) := z_dk tdX3_build_0 4 rfl
theorem dX3_build_9 : decode cX3_build 9 = .ok (.iload_n 1, 1) := z_dk tdX3_build_0 5 rfl
theorem dX3_build_10 : decode cX3_build 10 = .ok (.aload_n 0, 1) := z_dk tdX3_build_0 6 rfl
theorem dX3_build_11 : decode cX3_build 11 = .ok (.getfield 59, 3) := z_dk tdX3_build_0 7 rfl
theorem dX3_build_14 : decode cX3_build 14 = .ok (.getfield 78, 3) := z_dk tdX3_build_0 8 rfl
theorem dX3_build_17 : decode cX3_build 17 = .ok (.if_icmp .ge 19, 3) := z_dk tdX3_build_0 9 rfl
theorem dX3_build_20 : decode cX3_build 20 = .ok (.aload_n 0, 1) := z_dk tdX3_build_0 10 rfl
theorem dX3_build_21 : decode cX3_build 21 = .ok (.iload_n 1, 1) := z_dk tdX3_build_0 11 rfl
theorem dX3_build_22 : decode cX3_build 22 = .ok (.invokevirtual 84, 3) := z_dk tdX3_build_0 12 rfl
theorem dX3_build_25 : decode cX3_build 25 = .ok (.aload_n 0, 1) := z_dk tdX3_build_0 13 rfl
theorem dX3_build_26 : decode cX3_build 26 = .ok (.iload_n 1, 1) := z_dk tdX3_build_0 14 rfl
theorem dX3_build_27 : decode cX3_build 27 = .ok (.invokevirtual 87, 3) := z_dk tdX3_build_0 15 rfl
theorem dX3_build_30 : decode cX3_build 30 = .ok (.iinc 1 1, 3) := z_dk tdX3_build_0 16 rfl
theorem dX3_build_33 : decode cX3_build 33 = .ok (.goto (-24), 3) := z_dk tdX3_build_0 17 rfl
theorem dX3_build_36 : decode cX3_build 36 = .ok (.aload_n 0, 1) := z_dk tdX3_build_0 18 rfl
theorem dX3_build_37 : decode cX3_build 37 = .ok (.getfield 44, 3) := z_dk tdX3_build_0 19 rfl
theorem dX3_build_40 : decode cX3_build 40 = .ok (.aload_n 0, 1) := z_dk tdX3_build_0 20 rfl
theorem dX3_build_41 : decode cX3_build 41 = .ok (.getfield 59, 3) := z_dk tdX3_build_0 21 rfl
theorem dX3_build_44 : decode cX3_build 44 = .ok (.getfield 78, 3) := z_dk tdX3_build_0 22 rfl
theorem dX3_build_47 : decode cX3_build 47 = .ok (.aload_n 0, 1) := z_dk tdX3_build_0 23 rfl
theorem tdX3_build_48 : (([(48, .getfield 71, 3), (51, .getfield 90, 3), (54, .invokevirtual 91, 3), (57, .return_, 1)] : List (Nat × Instr × Nat)).all fun e => decide (decode cX3_build e.1 = .ok e.2)) = true := by decide +kernel
theorem dX3_build_48 : decode cX3_build 48 = .ok (.getfield 71, 3) := z_dk tdX3_build_48 0 rfl
theorem dX3_build_51 : decode cX3_build 51 = .ok (.getfield 90, 3) := z_dk tdX3_build_48 1 rfl
theorem dX3_build_54 : decode cX3_build 54 = .ok (.invokevirtual 91, 3) := z_dk tdX3_build_48 2 rfl
theorem dX3_build_57 : decode cX3_build 57 = .ok (.return_, 1) := z_dk tdX3_build_48 3 rfl
theorem tdX3_measureLine_0 : (([(0, .aload_n 0, 1), (1, .getfield 59, 3), (4, .getfield 95, 3), (7, .iload_n 1, 1), (8, .invokevirtual 98, 3), (11, .istore_n 2, 1), (12, .aload_n 0, 1), (13, .getfield 59, 3), (16, .getfield 95, 3), (19, .iload_n 1, 1), (20, .iconst 1, 1), (21, .iadd, 1), (22, .invokevirtual 98, 3), (25, .iconst 1, 1), (26, .isub, 1), (27, .istore_n 3, 1), (28, .aload_n 0, 1), (29, .getfield 32, 3), (32, .iload_n 1, 1), (33, .aload_n 0, 1), (34, .getfield 55, 3), (37, .iload_n 2, 1), (38, .iload_n 3, 1), (39, .invokevirtual 102, 3)] : List (Nat × Instr × Nat)).all fun e => decide (decode cX3_measureLine e.1 = .ok e.2)) = true := by decide +kernel
theorem dX3_measureLine_0 : decode cX3_measureLine 0 = .ok (.aload_n 0, 1) := z_dk tdX3_measureLine_0 0 rfl
theorem dX3_measureLine_1 : decode cX3_measureLine 1 = .ok (.getfield 59, 3) := z_dk tdX3_measureLine_0 1 rfl
theorem dX3_measureLine_4 : decode cX3_measureLine 4 = .ok (.getfield 95, 3) := z_dk tdX3_measureLine_0 2 rfl
theorem dX3_measureLine_7 : decode cX3_measureLine 7 = .ok (.iload_n 1, 1) := z_dk tdX3_measureLine_0 3 rfl
theorem dX3_measureLine_8 : decode cX3_measureLine 8 = .ok (.invokevirtual 98, 3) := z_dk tdX3_measureLine_0 4 rfl
theorem dX3_measureLine_11 : decode cX3_measureLine 11 = .ok (.istore_n 2, 1) := z_dk tdX3_measureLine_0 5 rfl
theorem dX3_measureLine_12 : decode cX3_measureLine 12 = .ok (.aload_n 0, 1) := z_dk tdX3_measureLine_0 6 rfl
theorem dX3_measureLine_13 : decode cX3_measureLine 13 = .ok (.getfield 59, 3) := z_dk tdX3_measureLine_0 7 rfl
theorem dX3_measureLine_16 : decode cX3_measureLine 16 = .ok (.getfield 95, 3) := z_dk tdX3_measureLine_0 8 rfl
theorem dX3_measureLine_19 : decode cX3_measureLine 19 = .ok (.iload_n 1, 1) := z_dk tdX3_measureLine_0 9 rfl
theorem dX3_measureLine_20 : decode cX3_measureLine 20 = .ok (.iconst 1, 1) := z_dk tdX3_measureLine_0 10 rfl
theorem dX3_measureLine_21 : decode cX3_measureLine 21 = .ok (.iadd, 1) := z_dk tdX3_measureLine_0 11 rfl
theorem dX3_measureLine_22 : decode cX3_measureLine 22 = .ok (.invokevirtual 98, 3) := z_dk tdX3_measureLine_0 12 rfl
theorem dX3_measureLine_25 : decode cX3_measureLine 25 = .ok (.iconst 1, 1) := z_dk tdX3_measureLine_0 13 rfl
theorem dX3_measureLine_26 : decode cX3_measureLine 26 = .ok (.isub, 1) := z_dk tdX3_measureLine_0 14 rfl
theorem dX3_measureLine_27 : decode cX3_measureLine 27 = .ok (.istore_n 3, 1) := z_dk tdX3_measureLine_0 15 rfl
theorem dX3_measureLine_28 : decode cX3_measureLine 28 = .ok (.aload_n 0, 1) := z_dk tdX3_measureLine_0 16 rfl
theorem dX3_measureLine_29 : decode cX3_measureLine 29 = .ok (.getfield 32, 3) := z_dk tdX3_measureLine_0 17 rfl
theorem dX3_measureLine_32 : decode cX3_measureLine 32 = .ok (.iload_n 1, 1) := z_dk tdX3_measureLine_0 18 rfl
theorem dX3_measureLine_33 : decode cX3_measureLine 33 = .ok (.aload_n 0, 1) := z_dk tdX3_measureLine_0 19 rfl
theorem dX3_measureLine_34 : decode cX3_measureLine 34 = .ok (.getfield 55, 3) := z_dk tdX3_measureLine_0 20 rfl
theorem dX3_measureLine_37 : decode cX3_measureLine 37 = .ok (.iload_n 2, 1) := z_dk tdX3_measureLine_0 21 rfl
theorem dX3_measureLine_38 : decode cX3_measureLine 38 = .ok (.iload_n 3, 1) := z_dk tdX3_measureLine_0 22 rfl
theorem dX3_measureLine_39 : decode cX3_measureLine 39 = .ok (.invokevirtual 102, 3) := z_dk tdX3_measureLine_0 23 rfl
theorem tdX3_measureLine_42 : (([(42, .invokevirtual 91, 3), (45, .aload_n 0, 1), (46, .getfield 55, 3), (49, .iload_n 2, 1), (50, .iload_n 3, 1), (51, .invokevirtual 108, 3), (54, .aload_n 0, 1), (55, .getfield 41, 3), (58, .iload_n 1, 1), (59, .aload_n 0, 1), (60, .getfield 55, 3), (63, .aload_n 0, 1), (64, .getfield 55, 3), (67, .getfield 111, 3), (70, .invokevirtual 114, 3), (73, .ifCond .eq 7, 3), (76, .iconst 1, 1), (77, .goto 4, 3), (80, .iconst 0, 1), (81, .invokevirtual 91, 3), (84, .aload_n 0, 1), (85, .getfield 44, 3), (88, .iload_n 1, 1), (89, .aload_n 0, 1)] : List (Nat × Instr × Nat)).all fun e => decide (decode cX3_measureLine e.1 = .ok e.2)) = true := by decide +kernel
theorem dX3_measureLine_42 : decode cX3_measureLine 42 = .ok (.invokevirtual 91, 3) := z_dk tdX3_measureLine_42 0 rfl
theorem dX3_measureLine_45 : decode cX3_measureLine 45 = .ok (.aload_n 0, 1) := z_dk tdX3_measureLine_42 1 rfl
theorem dX3_measureLine_46 : decode cX3_measureLine 46 = .ok (.getfield 55, 3) := z_dk tdX3_measureLine_42 2 rfl
theorem dX3_measureLine_49 : decode cX3_measureLine 49 = .ok (.iload_n 2, 1) := z_dk tdX3_measureLine_42 3 rfl
theorem dX3_measureLine_50 : decode cX3_measureLine 50 = .ok (.iload_n 3, 1) := z_dk tdX3_measureLine_42 4 rfl
theorem dX3_measureLine_51 : decode cX3_measureLine 51 = .ok (.invokevirtual 108, 3) := z_dk tdX3_measureLine_42 5 rfl
theorem dX3_measureLine_54 : decode cX3_measureLine 54 = .ok (.aload_n 0, 1) := z_dk tdX3_measureLine_42 6 rfl
theorem dX3_measureLine_55 : decode cX3_measureLine 55 = .ok (.getfield 41, 3) := z_dk tdX3_measureLine_42 7 rfl
theorem dX3_measureLine_58 : decode cX3_measureLine 58 = .ok (.iload_n 1, 1) := z_dk tdX3_measureLine_42 8 rfl
theorem dX3_measureLine_59 : decode cX3_measureLine 59 = .ok (.aload_n 0, 1) := z_dk tdX3_measureLine_42 9 rfl
theorem dX3_measureLine_60 : decode cX3_measureLine 60 = .ok (.getfield 55, 3) := z_dk tdX3_measureLine_42 10 rfl
theorem dX3_measureLine_63 : decode cX3_measureLine 63 = .ok (.aload_n 0, 1) := z_dk tdX3_measureLine_42 11 rfl
theorem dX3_measureLine_64 : decode cX3_measureLine 64 = .ok (.getfield 55, 3) := z_dk tdX3_measureLine_42 12 rfl
theorem dX3_measureLine_67 : decode cX3_measureLine 67 = .ok (.getfield 111, 3) := z_dk tdX3_measureLine_42 13 rfl
theorem dX3_measureLine_70 : decode cX3_measureLine 70 = .ok (.invokevirtual 114, 3) := z_dk tdX3_measureLine_42 14 rfl
theorem dX3_measureLine_73 : decode cX3_measureLine 73 = .ok (.ifCond .eq 7, 3) := z_dk tdX3_measureLine_42 15 rfl
theorem dX3_measureLine_76 : decode cX3_measureLine 76 = .ok (.iconst 1, 1) := z_dk tdX3_measureLine_42 16 rfl
theorem dX3_measureLine_77 : decode cX3_measureLine 77 = .ok (.goto 4, 3) := z_dk tdX3_measureLine_42 17 rfl
theorem dX3_measureLine_80 : decode cX3_measureLine 80 = .ok (.iconst 0, 1) := z_dk tdX3_measureLine_42 18 rfl
theorem dX3_measureLine_81 : decode cX3_measureLine 81 = .ok (.invokevirtual 91, 3) := z_dk tdX3_measureLine_42 19 rfl
theorem dX3_measureLine_84 : decode cX3_measureLine 84 = .ok (.aload_n 0, 1) := z_dk tdX3_measureLine_42 20 rfl
theorem dX3_measureLine_85 : decode cX3_measureLine 85 = .ok (.getfield 44, 3) := z_dk tdX3_measureLine_42 21 rfl
theorem dX3_measureLine_88 : decode cX3_measureLine 88 = .ok (.iload_n 1, 1) := z_dk tdX3_measureLine_42 22 rfl
theorem dX3_measureLine_89 : decode cX3_measureLine 89 = .ok (.aload_n 0, 1) := z_dk tdX3_measureLine_42 23 rfl
theorem tdX3_measureLine_90 : (([(90, .getfield 71, 3), (93, .getfield 90, 3), (96, .invokevirtual 91, 3), (99, .aload_n 0, 1), (100, .getfield 71, 3), (103, .aload_n 0, 1), (104, .getfield 55, 3), (107, .getfield 118, 3), (110, .aload_n 0, 1), (111, .getfield 55, 3), (114, .getfield 111, 3), (117, .invokevirtual 121, 3), (120, .aload_n 0, 1), (121, .getfield 38, 3), (124, .iload_n 1, 1), (125, .aload_n 0, 1), (126, .getfield 71, 3), (129, .aload_n 0, 1), (130, .getfield 44, 3), (133, .iload_n 1, 1), (134, .invokevirtual 98, 3), (137, .aload_n 0, 1), (138, .getfield 55, 3), (141, .getfield 118, 3)] : List (Nat × Instr × Nat)).all fun e => decide (decode cX3_measureLine e.1 = .ok e.2)) = true := by decide +kernel
theorem dX3_measureLine_90 : decode cX3_measureLine 90 = .ok (.getfield 71, 3) := z_dk tdX3_measureLine_90 0 rfl
theorem dX3_measureLine_93 : decode cX3_measureLine 93 = .ok (.getfield 90, 3) := z_dk tdX3_measureLine_90 1 rfl
theorem dX3_measureLine_96 : decode cX3_measureLine 96 = .ok (.invokevirtual 91, 3) := z_dk tdX3_measureLine_90 2 rfl
theorem dX3_measureLine_99 : decode cX3_measureLine 99 = .ok (.aload_n 0, 1) := z_dk tdX3_measureLine_90 3 rfl
theorem dX3_measureLine_100 : decode cX3_measureLine 100 = .ok (.getfield 71, 3) := z_dk tdX3_measureLine_90 4 rfl
theorem dX3_measureLine_103 : decode cX3_measureLine 103 = .ok (.aload_n 0, 1) := z_dk tdX3_measureLine_90 5 rfl
theorem dX3_measureLine_104 : decode cX3_measureLine 104 = .ok (.getfield 55, 3) := z_dk tdX3_measureLine_90 6 rfl
theorem dX3_measureLine_107 : decode cX3_measureLine 107 = .ok (.getfield 118, 3) := z_dk tdX3_measureLine_90 7 rfl
theorem dX3_measureLine_110 : decode cX3_measureLine 110 = .ok (.aload_n 0, 1) := z_dk tdX3_measureLine_90 8 rfl
theorem dX3_measureLine_111 : decode cX3_measureLine 111 = .ok (.getfield 55, 3) := z_dk tdX3_measureLine_90 9 rfl
theorem dX3_measureLine_114 : decode cX3_measureLine 114 = .ok (.getfield 111, 3) := z_dk tdX3_measureLine_90 10 rfl
theorem dX3_measureLine_117 : decode cX3_measureLine 117 = .ok (.invokevirtual 121, 3) := z_dk tdX3_measureLine_90 11 rfl
theorem dX3_measureLine_120 : decode cX3_measureLine 120 = .ok (.aload_n 0, 1) := z_dk tdX3_measureLine_90 12 rfl
theorem dX3_measureLine_121 : decode cX3_measureLine 121 = .ok (.getfield 38, 3) := z_dk tdX3_measureLine_90 13 rfl
theorem dX3_measureLine_124 : decode cX3_measureLine 124 = .ok (.iload_n 1, 1) := z_dk tdX3_measureLine_90 14 rfl
theorem dX3_measureLine_125 : decode cX3_measureLine 125 = .ok (.aload_n 0, 1) := z_dk tdX3_measureLine_90 15 rfl
theorem dX3_measureLine_126 : decode cX3_measureLine 126 = .ok (.getfield 71, 3) := z_dk tdX3_measureLine_90 16 rfl
theorem dX3_measureLine_129 : decode cX3_measureLine 129 = .ok (.aload_n 0, 1) := z_dk tdX3_measureLine_90 17 rfl
theorem dX3_measureLine_130 : decode cX3_measureLine 130 = .ok (.getfield 44, 3) := z_dk tdX3_measureLine_90 18 rfl
theorem dX3_measureLine_133 : decode cX3_measureLine 133 = .ok (.iload_n 1, 1) := z_dk tdX3_measureLine_90 19 rfl
theorem dX3_measureLine_134 : decode cX3_measureLine 134 = .ok (.invokevirtual 98, 3) := z_dk tdX3_measureLine_90 20 rfl
theorem dX3_measureLine_137 : decode cX3_measureLine 137 = .ok (.aload_n 0, 1) := z_dk tdX3_measureLine_90 21 rfl
theorem dX3_measureLine_138 : decode cX3_measureLine 138 = .ok (.getfield 55, 3) := z_dk tdX3_measureLine_90 22 rfl
theorem dX3_measureLine_141 : decode cX3_measureLine 141 = .ok (.getfield 118, 3) := z_dk tdX3_measureLine_90 23 rfl
theorem tdX3_measureLine_144 : (([(144, .aload_n 0, 1), (145, .getfield 55, 3), (148, .getfield 111, 3), (151, .aload_n 0, 1), (152, .getfield 63, 3), (155, .iconst 2, 1), (156, .invokevirtual 98, 3), (159, .invokevirtual 124, 3), (162, .invokevirtual 91, 3), (165, .iconst 0, 1), (166, .istore 4, 2), (168, .iload_n 2, 1), (169, .istore 5, 2), (171, .iload 5, 2), (173, .iload_n 3, 1), (174, .if_icmp .gt 28, 3), (177, .iload 4, 2), (179, .aload_n 0, 1), (180, .iload 5, 2), (182, .invokevirtual 128, 3), (185, .ifCond .eq 7, 3), (188, .iconst 1, 1), (189, .goto 4, 3), (192, .iconst 0, 1)] : List (Nat × Instr × Nat)).all fun e => decide (decode cX3_measureLine e.1 = .ok e.2)) = true := by decide +kernel
theorem dX3_measureLine_144 : decode cX3_measureLine 144 = .ok (.aload_n 0, 1) := z_dk tdX3_measureLine_144 0 rfl
theorem dX3_measureLine_145 : decode cX3_measureLine 145 = .ok (.getfield 55, 3) := z_dk tdX3_measureLine_144 1 rfl
theorem dX3_measureLine_148 : decode cX3_measureLine 148 = .ok (.getfield 111, 3) := z_dk tdX3_measureLine_144 2 rfl
theorem dX3_measureLine_151 : decode cX3_measureLine 151 = .ok (.aload_n 0, 1) := z_dk tdX3_measureLine_144 3 rfl
theorem dX3_measureLine_152 : decode cX3_measureLine 152 = .ok (.getfield 63, 3) := z_dk tdX3_measureLine_144 4 rfl
theorem dX3_measureLine_155 : decode cX3_measureLine 155 = .ok (.iconst 2, 1) := z_dk tdX3_measureLine_144 5 rfl
theorem dX3_measureLine_156 : decode cX3_measureLine 156 = .ok (.invokevirtual 98, 3) := z_dk tdX3_measureLine_144 6 rfl
theorem dX3_measureLine_159 : decode cX3_measureLine 159 = .ok (.invokevirtual 124, 3) := z_dk tdX3_measureLine_144 7 rfl
theorem dX3_measureLine_162 : decode cX3_measureLine 162 = .ok (.invokevirtual 91, 3) := z_dk tdX3_measureLine_144 8 rfl
theorem dX3_measureLine_165 : decode cX3_measureLine 165 = .ok (.iconst 0, 1) := z_dk tdX3_measureLine_144 9 rfl
theorem dX3_measureLine_166 : decode cX3_measureLine 166 = .ok (.istore 4, 2) := z_dk tdX3_measureLine_144 10 rfl
theorem dX3_measureLine_168 : decode cX3_measureLine 168 = .ok (.iload_n 2, 1) := z_dk tdX3_measureLine_144 11 rfl
theorem dX3_measureLine_169 : decode cX3_measureLine 169 = .ok (.istore 5, 2) := z_dk tdX3_measureLine_144 12 rfl
theorem dX3_measureLine_171 : decode cX3_measureLine 171 = .ok (.iload 5, 2) := z_dk tdX3_measureLine_144 13 rfl
theorem dX3_measureLine_173 : decode cX3_measureLine 173 = .ok (.iload_n 3, 1) := z_dk tdX3_measureLine_144 14 rfl
theorem dX3_measureLine_174 : decode cX3_measureLine 174 = .ok (.if_icmp .gt 28, 3) := z_dk tdX3_measureLine_144 15 rfl
theorem dX3_measureLine_177 : decode cX3_measureLine 177 = .ok (.iload 4, 2) := z_dk tdX3_measureLine_144 16 rfl
theorem dX3_measureLine_179 : decode cX3_measureLine 179 = .ok (.aload_n 0, 1) := z_dk tdX3_measureLine_144 17 rfl
theorem dX3_measureLine_180 : decode cX3_measureLine 180 = .ok (.iload 5, 2) := z_dk tdX3_measureLine_144 18 rfl
theorem dX3_measureLine_182 : decode cX3_measureLine 182 = .ok (.invokevirtual 128, 3) := z_dk tdX3_measureLine_144 19 rfl
theorem dX3_measureLine_185 : decode cX3_measureLine 185 = .ok (.ifCond .eq 7, 3) := z_dk tdX3_measureLine_144 20 rfl
theorem dX3_measureLine_188 : decode cX3_measureLine 188 = .ok (.iconst 1, 1) := z_dk tdX3_measureLine_144 21 rfl
theorem dX3_measureLine_189 : decode cX3_measureLine 189 = .ok (.goto 4, 3) := z_dk tdX3_measureLine_144 22 rfl
theorem dX3_measureLine_192 : decode cX3_measureLine 192 = .ok (.iconst 0, 1) := z_dk tdX3_measureLine_144 23 rfl
theorem tdX3_measureLine_193 : (([(193, .iadd, 1), (194, .istore 4, 2), (196, .iinc 5 1, 3), (199, .goto (-28), 3), (202, .aload_n 0, 1), (203, .getfield 35, 3), (206, .iload_n 1, 1), (207, .iload 4, 2), (209, .invokevirtual 91, 3), (212, .return_, 1)] : List (Nat × Instr × Nat)).all fun e => decide (decode cX3_measureLine e.1 = .ok e.2)) = true := by decide +kernel
theorem dX3_measureLine_193 : decode cX3_measureLine 193 = .ok (.iadd, 1) := z_dk tdX3_measureLine_193 0 rfl
theorem dX3_measureLine_194 : decode cX3_measureLine 194 = .ok (.istore 4, 2) := z_dk tdX3_measureLine_193 1 rfl
theorem dX3_measureLine_196 : decode cX3_measureLine 196 = .ok (.iinc 5 1, 3) := z_dk tdX3_measureLine_193 2 rfl
theorem dX3_measureLine_199 : decode cX3_measureLine 199 = .ok (.goto (-28), 3) := z_dk tdX3_measureLine_193 3 rfl
theorem dX3_measureLine_202 : decode cX3_measureLine 202 = .ok (.aload_n 0, 1) := z_dk tdX3_measureLine_193 4 rfl
theorem dX3_measureLine_203 : decode cX3_measureLine 203 = .ok (.getfield 35, 3) := z_dk tdX3_measureLine_193 5 rfl
theorem dX3_measureLine_206 : decode cX3_measureLine 206 = .ok (.iload_n 1, 1) := z_dk tdX3_measureLine_193 6 rfl
theorem dX3_measureLine_207 : decode cX3_measureLine 207 = .ok (.iload 4, 2) := z_dk tdX3_measureLine_193 7 rfl
theorem dX3_measureLine_209 : decode cX3_measureLine 209 = .ok (.invokevirtual 91, 3) := z_dk tdX3_measureLine_193 8 rfl
theorem dX3_measureLine_212 : decode cX3_measureLine 212 = .ok (.return_, 1) := z_dk tdX3_measureLine_193 9 rfl
theorem tdX3_hasGapBehind_0 : (([(0, .iload_n 1, 1), (1, .aload_n 0, 1), (2, .getfield 55, 3), (5, .getfield 118, 3), (8, .if_icmp .lt 28, 3), (11, .iload_n 1, 1), (12, .aload_n 0, 1), (13, .getfield 55, 3), (16, .getfield 111, 3), (19, .if_icmp .ge 17, 3), (22, .aload_n 0, 1), (23, .getfield 51, 3), (26, .getfield 131, 3), (29, .iload_n 1, 1), (30, .invokevirtual 98, 3), (33, .ifCond .ne 5, 3), (36, .iconst 0, 1), (37, .ireturn, 1), (38, .aload_n 0, 1), (39, .getfield 51, 3), (42, .getfield 136, 3), (45, .iload_n 1, 1), (46, .invokevirtual 98, 3), (49, .bipush 7, 2)] : List (Nat × Instr × Nat)).all fun e => decide (decode cX3_hasGapBehind e.1 = .ok e.2)) = true := by decide +kernel
theorem dX3_hasGapBehind_0 : decode cX3_hasGapBehind 0 = .ok (.iload_n 1, 1) := z_dk tdX3_hasGapBehind_0 0 rfl
theorem dX3_hasGapBehind_1 : decode cX3_hasGapBehind 1 = .ok (.aload_n 0, 1) := z_dk tdX3_hasGapBehind_0 1 rfl
theorem dX3_hasGapBehind_2 : decode cX3_hasGapBehind 2 = .ok (.getfield 55, 3) := z_dk tdX3_hasGapBehind_0 2 rfl
theorem dX3_hasGapBehind_5 : decode cX3_hasGapBehind 5 = .ok (.getfield 118, 3) := z_dk tdX3_hasGapBehind_0 3 rfl
theorem dX3_hasGapBehind_8 : decode cX3_hasGapBehind 8 = .ok (.if_icmp .lt 28, 3) := z_dk tdX3_hasGapBehind_0 4 rfl
theorem dX3_hasGapBehind_11 : decode cX3_hasGapBehind 11 = .ok (.iload_n 1, 1) := z_dk tdX3_hasGapBehind_0 5 rfl
theorem dX3_hasGapBehind_12 : decode cX3_hasGapBehind 12 = .ok (.aload_n 0, 1) := z_dk tdX3_hasGapBehind_0 6 rfl
theorem dX3_hasGapBehind_13 : decode cX3_hasGapBehind 13 = .ok (.getfield 55, 3) := z_dk tdX3_hasGapBehind_0 7 rfl
theorem dX3_hasGapBehind_16 : decode cX3_hasGapBehind 16 = .ok (.getfield 111, 3) := z_dk tdX3_hasGapBehind_0 8 rfl
theorem dX3_hasGapBehind_19 : decode cX3_hasGapBehind 19 = .ok (.if_icmp .ge 17, 3) := z_dk tdX3_hasGapBehind_0 9 rfl
theorem dX3_hasGapBehind_22 : decode cX3_hasGapBehind 22 = .ok (.aload_n 0, 1) := z_dk tdX3_hasGapBehind_0 10 rfl
theorem dX3_hasGapBehind_23 : decode cX3_hasGapBehind 23 = .ok (.getfield 51, 3) := z_dk tdX3_hasGapBehind_0 11 rfl
theorem dX3_hasGapBehind_26 : decode cX3_hasGapBehind 26 = .ok (.getfield 131, 3) := z_dk tdX3_hasGapBehind_0 12 rfl
theorem dX3_hasGapBehind_29 : decode cX3_hasGapBehind 29 = .ok (.iload_n 1, 1) := z_dk tdX3_hasGapBehind_0 13 rfl
theorem dX3_hasGapBehind_30 : decode cX3_hasGapBehind 30 = .ok (.invokevirtual 98, 3) := z_dk tdX3_hasGapBehind_0 14 rfl
theorem dX3_hasGapBehind_33 : decode cX3_hasGapBehind 33 = .ok (.ifCond .ne 5, 3) := z_dk tdX3_hasGapBehind_0 15 rfl
theorem dX3_hasGapBehind_36 : decode cX3_hasGapBehind 36 = .ok (.iconst 0, 1) := z_dk tdX3_hasGapBehind_0 16 rfl
theorem dX3_hasGapBehind_37 : decode cX3_hasGapBehind 37 = .ok (.ireturn, 1) := z_dk tdX3_hasGapBehind_0 17 rfl
theorem dX3_hasGapBehind_38 : decode cX3_hasGapBehind 38 = .ok (.aload_n 0, 1) := z_dk tdX3_hasGapBehind_0 18 rfl
theorem dX3_hasGapBehind_39 : decode cX3_hasGapBehind 39 = .ok (.getfield 51, 3) := z_dk tdX3_hasGapBehind_0 19 rfl
theorem dX3_hasGapBehind_42 : decode cX3_hasGapBehind 42 = .ok (.getfield 136, 3) := z_dk tdX3_hasGapBehind_0 20 rfl
theorem dX3_hasGapBehind_45 : decode cX3_hasGapBehind 45 = .ok (.iload_n 1, 1) := z_dk tdX3_hasGapBehind_0 21 rfl
theorem dX3_hasGapBehind_46 : decode cX3_hasGapBehind 46 = .ok (.invokevirtual 98, 3) := z_dk tdX3_hasGapBehind_0 22 rfl
theorem dX3_hasGapBehind_49 : decode cX3_hasGapBehind 49 = .ok (.bipush 7, 2) := z_dk tdX3_hasGapBehind_0 23 rfl
theorem tdX3_hasGapBehind_51 : (([(51, .if_icmp .ne 30, 3), (54, .aload_n 0, 1), (55, .getfield 51, 3), (58, .getfield 139, 3), (61, .iload_n 1, 1), (62, .invokevirtual 98, 3), (65, .aload_n 0, 1), (66, .getfield 51, 3), (69, .getfield 139, 3), (72, .iload_n 1, 1), (73, .iconst 1, 1), (74, .iadd, 1), (75, .invokevirtual 98, 3), (78, .if_icmp .eq 7, 3), (81, .iconst 1, 1), (82, .goto 4, 3), (85, .iconst 0, 1), (86, .ireturn, 1)] : List (Nat × Instr × Nat)).all fun e => decide (decode cX3_hasGapBehind e.1 = .ok e.2)) = true := by decide +kernel
theorem dX3_hasGapBehind_51 : decode cX3_hasGapBehind 51 = .ok (.if_icmp .ne 30, 3) := z_dk tdX3_hasGapBehind_51 0 rfl
theorem dX3_hasGapBehind_54 : decode cX3_hasGapBehind 54 = .ok (.aload_n 0, 1) := z_dk tdX3_hasGapBehind_51 1 rfl
theorem dX3_hasGapBehind_55 : decode cX3_hasGapBehind 55 = .ok (.getfield 51, 3) := z_dk tdX3_hasGapBehind_51 2 rfl
theorem dX3_hasGapBehind_58 : decode cX3_hasGapBehind 58 = .ok (.getfield 139, 3) := z_dk tdX3_hasGapBehind_51 3 rfl
theorem dX3_hasGapBehind_61 : decode cX3_hasGapBehind 61 = .ok (.iload_n 1, 1) := z_dk tdX3_hasGapBehind_51 4 rfl
theorem dX3_hasGapBehind_62 : decode cX3_hasGapBehind 62 = .ok (.invokevirtual 98, 3) := z_dk tdX3_hasGapBehind_51 5 rfl
theorem dX3_hasGapBehind_65 : decode cX3_hasGapBehind 65 = .ok (.aload_n 0, 1) := z_dk tdX3_hasGapBehind_51 6 rfl
theorem dX3_hasGapBehind_66 : decode cX3_hasGapBehind 66 = .ok (.getfield 51, 3) := z_dk tdX3_hasGapBehind_51 7 rfl
theorem dX3_hasGapBehind_69 : decode cX3_hasGapBehind 69 = .ok (.getfield 139, 3) := z_dk tdX3_hasGapBehind_51 8 rfl
theorem dX3_hasGapBehind_72 : decode cX3_hasGapBehind 72 = .ok (.iload_n 1, 1) := z_dk tdX3_hasGapBehind_51 9 rfl
theorem dX3_hasGapBehind_73 : decode cX3_hasGapBehind 73 = .ok (.iconst 1, 1) := z_dk tdX3_hasGapBehind_51 10 rfl
theorem dX3_hasGapBehind_74 : decode cX3_hasGapBehind 74 = .ok (.iadd, 1) := z_dk tdX3_hasGapBehind_51 11 rfl
theorem dX3_hasGapBehind_75 : decode cX3_hasGapBehind 75 = .ok (.invokevirtual 98, 3) := z_dk tdX3_hasGapBehind_51 12 rfl
theorem dX3_hasGapBehind_78 : decode cX3_hasGapBehind 78 = .ok (.if_icmp .eq 7, 3) := z_dk tdX3_hasGapBehind_51 13 rfl
theorem dX3_hasGapBehind_81 : decode cX3_hasGapBehind 81 = .ok (.iconst 1, 1) := z_dk tdX3_hasGapBehind_51 14 rfl
theorem dX3_hasGapBehind_82 : decode cX3_hasGapBehind 82 = .ok (.goto 4, 3) := z_dk tdX3_hasGapBehind_51 15 rfl
theorem dX3_hasGapBehind_85 : decode cX3_hasGapBehind 85 = .ok (.iconst 0, 1) := z_dk tdX3_hasGapBehind_51 16 rfl
theorem dX3_hasGapBehind_86 : decode cX3_hasGapBehind 86 = .ok (.ireturn, 1) := z_dk tdX3_hasGapBehind_51 17 rfl
theorem tdX3_restToShare_0 : (([(0, .aload_n 0, 1), (1, .getfield 63, 3), (4, .iconst 0, 1), (5, .invokevirtual 98, 3), (8, .aload_n 0, 1), (9, .getfield 32, 3), (12, .iload_n 1, 1), (13, .invokevirtual 98, 3), (16, .isub, 1), (17, .istore_n 2, 1), (18, .aload_n 0, 1), (19, .getfield 63, 3), (22, .iconst 4, 1), (23, .invokevirtual 98, 3), (26, .iconst 1, 1), (27, .if_icmp .ne 24, 3), (30, .iload_n 2, 1), (31, .ifCond .le 20, 3), (34, .iload_n 1, 1), (35, .aload_n 0, 1), (36, .getfield 59, 3), (39, .getfield 78, 3), (42, .iconst 1, 1), (43, .isub, 1)] : List (Nat × Instr × Nat)).all fun e => decide (decode cX3_restToShare e.1 = .ok e.2)) = true := by decide +kernel
theorem dX3_restToShare_0 : decode cX3_restToShare 0 = .ok (.aload_n 0, 1) := z_dk tdX3_restToShare_0 0 rfl
theorem dX3_restToShare_1 : decode cX3_restToShare 1 = .ok (.getfield 63, 3) := z_dk tdX3_restToShare_0 1 rfl
theorem dX3_restToShare_4 : decode cX3_restToShare 4 = .ok (.iconst 0, 1) := z_dk tdX3_restToShare_0 2 rfl
theorem dX3_restToShare_5 : decode cX3_restToShare 5 = .ok (.invokevirtual 98, 3) := z_dk tdX3_restToShare_0 3 rfl
theorem dX3_restToShare_8 : decode cX3_restToShare 8 = .ok (.aload_n 0, 1) := z_dk tdX3_restToShare_0 4 rfl
theorem dX3_restToShare_9 : decode cX3_restToShare 9 = .ok (.getfield 32, 3) := z_dk tdX3_restToShare_0 5 rfl
theorem dX3_restToShare_12 : decode cX3_restToShare 12 = .ok (.iload_n 1, 1) := z_dk tdX3_restToShare_0 6 rfl
theorem dX3_restToShare_13 : decode cX3_restToShare 13 = .ok (.invokevirtual 98, 3) := z_dk tdX3_restToShare_0 7 rfl
theorem dX3_restToShare_16 : decode cX3_restToShare 16 = .ok (.isub, 1) := z_dk tdX3_restToShare_0 8 rfl
theorem dX3_restToShare_17 : decode cX3_restToShare 17 = .ok (.istore_n 2, 1) := z_dk tdX3_restToShare_0 9 rfl
theorem dX3_restToShare_18 : decode cX3_restToShare 18 = .ok (.aload_n 0, 1) := z_dk tdX3_restToShare_0 10 rfl
theorem dX3_restToShare_19 : decode cX3_restToShare 19 = .ok (.getfield 63, 3) := z_dk tdX3_restToShare_0 11 rfl
theorem dX3_restToShare_22 : decode cX3_restToShare 22 = .ok (.iconst 4, 1) := z_dk tdX3_restToShare_0 12 rfl
theorem dX3_restToShare_23 : decode cX3_restToShare 23 = .ok (.invokevirtual 98, 3) := z_dk tdX3_restToShare_0 13 rfl
theorem dX3_restToShare_26 : decode cX3_restToShare 26 = .ok (.iconst 1, 1) := z_dk tdX3_restToShare_0 14 rfl
theorem dX3_restToShare_27 : decode cX3_restToShare 27 = .ok (.if_icmp .ne 24, 3) := z_dk tdX3_restToShare_0 15 rfl
theorem dX3_restToShare_30 : decode cX3_restToShare 30 = .ok (.iload_n 2, 1) := z_dk tdX3_restToShare_0 16 rfl
theorem dX3_restToShare_31 : decode cX3_restToShare 31 = .ok (.ifCond .le 20, 3) := z_dk tdX3_restToShare_0 17 rfl
theorem dX3_restToShare_34 : decode cX3_restToShare 34 = .ok (.iload_n 1, 1) := z_dk tdX3_restToShare_0 18 rfl
theorem dX3_restToShare_35 : decode cX3_restToShare 35 = .ok (.aload_n 0, 1) := z_dk tdX3_restToShare_0 19 rfl
theorem dX3_restToShare_36 : decode cX3_restToShare 36 = .ok (.getfield 59, 3) := z_dk tdX3_restToShare_0 20 rfl
theorem dX3_restToShare_39 : decode cX3_restToShare 39 = .ok (.getfield 78, 3) := z_dk tdX3_restToShare_0 21 rfl
theorem dX3_restToShare_42 : decode cX3_restToShare 42 = .ok (.iconst 1, 1) := z_dk tdX3_restToShare_0 22 rfl
theorem dX3_restToShare_43 : decode cX3_restToShare 43 = .ok (.isub, 1) := z_dk tdX3_restToShare_0 23 rfl
theorem tdX3_restToShare_44 : (([(44, .if_icmp .ge 7, 3), (47, .iload_n 2, 1), (48, .goto 4, 3), (51, .iconst 0, 1), (52, .ireturn, 1)] : List (Nat × Instr × Nat)).all fun e => decide (decode cX3_restToShare e.1 = .ok e.2)) = true := by decide +kernel
theorem dX3_restToShare_44 : decode cX3_restToShare 44 = .ok (.if_icmp .ge 7, 3) := z_dk tdX3_restToShare_44 0 rfl
theorem dX3_restToShare_47 : decode cX3_restToShare 47 = .ok (.iload_n 2, 1) := z_dk tdX3_restToShare_44 1 rfl
theorem dX3_restToShare_48 : decode cX3_restToShare 48 = .ok (.goto 4, 3) := z_dk tdX3_restToShare_44 2 rfl
theorem dX3_restToShare_51 : decode cX3_restToShare 51 = .ok (.iconst 0, 1) := z_dk tdX3_restToShare_44 3 rfl
theorem dX3_restToShare_52 : decode cX3_restToShare 52 = .ok (.ireturn, 1) := z_dk tdX3_restToShare_44 4 rfl
theorem tdX3_placeUnits_0 : (([(0, .aload_n 0, 1), (1, .getfield 35, 3), (4, .iload_n 1, 1), (5, .invokevirtual 98, 3), (8, .istore_n 2, 1), (9, .aload_n 0, 1), (10, .iload_n 1, 1), (11, .invokevirtual 142, 3), (14, .istore_n 3, 1), (15, .iload_n 2, 1), (16, .ifCond .le 9, 3), (19, .iload_n 3, 1), (20, .iload_n 2, 1), (21, .idiv, 1), (22, .goto 4, 3), (25, .iconst 0, 1), (26, .istore 4, 2), (28, .iload_n 2, 1), (29, .ifCond .le 9, 3), (32, .iload_n 3, 1), (33, .iload_n 2, 1), (34, .irem, 1), (35, .goto 4, 3), (38, .iconst 0, 1)] : List (Nat × Instr × Nat)).all fun e => decide (decode cX3_placeUnits e.1 = .ok e.2)) = true := by decide +kernel
theorem dX3_placeUnits_0 : decode cX3_placeUnits 0 = .ok (.aload_n 0, 1) := z_dk tdX3_placeUnits_0 0 rfl
theorem dX3_placeUnits_1 : decode cX3_placeUnits 1 = .ok (.getfield 35, 3) := z_dk tdX3_placeUnits_0 1 rfl
theorem dX3_placeUnits_4 : decode cX3_placeUnits 4 = .ok (.iload_n 1, 1) := z_dk tdX3_placeUnits_0 2 rfl
theorem dX3_placeUnits_5 : decode cX3_placeUnits 5 = .ok (.invokevirtual 98, 3) := z_dk tdX3_placeUnits_0 3 rfl
theorem dX3_placeUnits_8 : decode cX3_placeUnits 8 = .ok (.istore_n 2, 1) := z_dk tdX3_placeUnits_0 4 rfl
theorem dX3_placeUnits_9 : decode cX3_placeUnits 9 = .ok (.aload_n 0, 1) := z_dk tdX3_placeUnits_0 5 rfl
theorem dX3_placeUnits_10 : decode cX3_placeUnits 10 = .ok (.iload_n 1, 1) := z_dk tdX3_placeUnits_0 6 rfl
theorem dX3_placeUnits_11 : decode cX3_placeUnits 11 = .ok (.invokevirtual 142, 3) := z_dk tdX3_placeUnits_0 7 rfl
theorem dX3_placeUnits_14 : decode cX3_placeUnits 14 = .ok (.istore_n 3, 1) := z_dk tdX3_placeUnits_0 8 rfl
theorem dX3_placeUnits_15 : decode cX3_placeUnits 15 = .ok (.iload_n 2, 1) := z_dk tdX3_placeUnits_0 9 rfl
theorem dX3_placeUnits_16 : decode cX3_placeUnits 16 = .ok (.ifCond .le 9, 3) := z_dk tdX3_placeUnits_0 10 rfl
theorem dX3_placeUnits_19 : decode cX3_placeUnits 19 = .ok (.iload_n 3, 1) := z_dk tdX3_placeUnits_0 11 rfl
theorem dX3_placeUnits_20 : decode cX3_placeUnits 20 = .ok (.iload_n 2, 1) := z_dk tdX3_placeUnits_0 12 rfl
theorem dX3_placeUnits_21 : decode cX3_placeUnits 21 = .ok (.idiv, 1) := z_dk tdX3_placeUnits_0 13 rfl
theorem dX3_placeUnits_22 : decode cX3_placeUnits 22 = .ok (.goto 4, 3) := z_dk tdX3_placeUnits_0 14 rfl
theorem dX3_placeUnits_25 : decode cX3_placeUnits 25 = .ok (.iconst 0, 1) := z_dk tdX3_placeUnits_0 15 rfl
theorem dX3_placeUnits_26 : decode cX3_placeUnits 26 = .ok (.istore 4, 2) := z_dk tdX3_placeUnits_0 16 rfl
theorem dX3_placeUnits_28 : decode cX3_placeUnits 28 = .ok (.iload_n 2, 1) := z_dk tdX3_placeUnits_0 17 rfl
theorem dX3_placeUnits_29 : decode cX3_placeUnits 29 = .ok (.ifCond .le 9, 3) := z_dk tdX3_placeUnits_0 18 rfl
theorem dX3_placeUnits_32 : decode cX3_placeUnits 32 = .ok (.iload_n 3, 1) := z_dk tdX3_placeUnits_0 19 rfl
theorem dX3_placeUnits_33 : decode cX3_placeUnits 33 = .ok (.iload_n 2, 1) := z_dk tdX3_placeUnits_0 20 rfl
theorem dX3_placeUnits_34 : decode cX3_placeUnits 34 = .ok (.irem, 1) := z_dk tdX3_placeUnits_0 21 rfl
theorem dX3_placeUnits_35 : decode cX3_placeUnits 35 = .ok (.goto 4, 3) := z_dk tdX3_placeUnits_0 22 rfl
theorem dX3_placeUnits_38 : decode cX3_placeUnits 38 = .ok (.iconst 0, 1) := z_dk tdX3_placeUnits_0 23 rfl
theorem tdX3_placeUnits_39 : (([(39, .istore 5, 2), (41, .aload_n 0, 1), (42, .getfield 44, 3), (45, .iload_n 1, 1), (46, .invokevirtual 98, 3), (49, .istore 6, 2), (51, .iconst 0, 1), (52, .istore 7, 2), (54, .aload_n 0, 1), (55, .getfield 59, 3), (58, .getfield 95, 3), (61, .iload_n 1, 1), (62, .invokevirtual 98, 3), (65, .istore 8, 2), (67, .iload 8, 2), (69, .aload_n 0, 1), (70, .getfield 59, 3), (73, .getfield 95, 3), (76, .iload_n 1, 1), (77, .iconst 1, 1), (78, .iadd, 1), (79, .invokevirtual 98, 3), (82, .if_icmp .ge 217, 3), (85, .aload_n 0, 1)] : List (Nat × Instr × Nat)).all fun e => decide (decode cX3_placeUnits e.1 = .ok e.2)) = true := by decide +kernel
theorem dX3_placeUnits_39 : decode cX3_placeUnits 39 = .ok (.istore 5, 2) := z_dk tdX3_placeUnits_39 0 rfl
theorem dX3_placeUnits_41 : decode cX3_placeUnits 41 = .ok (.aload_n 0, 1) := z_dk tdX3_placeUnits_39 1 rfl
theorem dX3_placeUnits_42 : decode cX3_placeUnits 42 = .ok (.getfield 44, 3) := z_dk tdX3_placeUnits_39 2 rfl
theorem dX3_placeUnits_45 : decode cX3_placeUnits 45 = .ok (.iload_n 1, 1) := z_dk tdX3_placeUnits_39 3 rfl
theorem dX3_placeUnits_46 : decode cX3_placeUnits 46 = .ok (.invokevirtual 98, 3) := z_dk tdX3_placeUnits_39 4 rfl
theorem dX3_placeUnits_49 : decode cX3_placeUnits 49 = .ok (.istore 6, 2) := z_dk tdX3_placeUnits_39 5 rfl
theorem dX3_placeUnits_51 : decode cX3_placeUnits 51 = .ok (.iconst 0, 1) := z_dk tdX3_placeUnits_39 6 rfl
theorem dX3_placeUnits_52 : decode cX3_placeUnits 52 = .ok (.istore 7, 2) := z_dk tdX3_placeUnits_39 7 rfl
theorem dX3_placeUnits_54 : decode cX3_placeUnits 54 = .ok (.aload_n 0, 1) := z_dk tdX3_placeUnits_39 8 rfl
theorem dX3_placeUnits_55 : decode cX3_placeUnits 55 = .ok (.getfield 59, 3) := z_dk tdX3_placeUnits_39 9 rfl
theorem dX3_placeUnits_58 : decode cX3_placeUnits 58 = .ok (.getfield 95, 3) := z_dk tdX3_placeUnits_39 10 rfl
theorem dX3_placeUnits_61 : decode cX3_placeUnits 61 = .ok (.iload_n 1, 1) := z_dk tdX3_placeUnits_39 11 rfl
theorem dX3_placeUnits_62 : decode cX3_placeUnits 62 = .ok (.invokevirtual 98, 3) := z_dk tdX3_placeUnits_39 12 rfl
theorem dX3_placeUnits_65 : decode cX3_placeUnits 65 = .ok (.istore 8, 2) := z_dk tdX3_placeUnits_39 13 rfl
theorem dX3_placeUnits_67 : decode cX3_placeUnits 67 = .ok (.iload 8, 2) := z_dk tdX3_placeUnits_39 14 rfl
theorem dX3_placeUnits_69 : decode cX3_placeUnits 69 = .ok (.aload_n 0, 1) := z_dk tdX3_placeUnits_39 15 rfl
theorem dX3_placeUnits_70 : decode cX3_placeUnits 70 = .ok (.getfield 59, 3) := z_dk tdX3_placeUnits_39 16 rfl
theorem dX3_placeUnits_73 : decode cX3_placeUnits 73 = .ok (.getfield 95, 3) := z_dk tdX3_placeUnits_39 17 rfl
theorem dX3_placeUnits_76 : decode cX3_placeUnits 76 = .ok (.iload_n 1, 1) := z_dk tdX3_placeUnits_39 18 rfl
theorem dX3_placeUnits_77 : decode cX3_placeUnits 77 = .ok (.iconst 1, 1) := z_dk tdX3_placeUnits_39 19 rfl
theorem dX3_placeUnits_78 : decode cX3_placeUnits 78 = .ok (.iadd, 1) := z_dk tdX3_placeUnits_39 20 rfl
theorem dX3_placeUnits_79 : decode cX3_placeUnits 79 = .ok (.invokevirtual 98, 3) := z_dk tdX3_placeUnits_39 21 rfl
theorem dX3_placeUnits_82 : decode cX3_placeUnits 82 = .ok (.if_icmp .ge 217, 3) := z_dk tdX3_placeUnits_39 22 rfl
theorem dX3_placeUnits_85 : decode cX3_placeUnits 85 = .ok (.aload_n 0, 1) := z_dk tdX3_placeUnits_39 23 rfl
theorem tdX3_placeUnits_86 : (([(86, .getfield 51, 3), (89, .getfield 136, 3), (92, .iload 8, 2), (94, .invokevirtual 98, 3), (97, .bipush 7, 2), (99, .if_icmp .ne 7, 3), (102, .iconst 1, 1), (103, .goto 4, 3), (106, .iconst 0, 1), (107, .istore 9, 2), (109, .aload_n 0, 1), (110, .getfield 51, 3), (113, .getfield 136, 3), (116, .iload 8, 2), (118, .invokevirtual 98, 3), (121, .iconst 4, 1), (122, .if_icmp .ne 15, 3), (125, .aload_n 0, 1), (126, .getfield 55, 3), (129, .iload 8, 2), (131, .invokevirtual 145, 3), (134, .goto 4, 3), (137, .iconst 0, 1), (138, .istore 10, 2)] : List (Nat × Instr × Nat)).all fun e => decide (decode cX3_placeUnits e.1 = .ok e.2)) = true := by decide +kernel
theorem dX3_placeUnits_86 : decode cX3_placeUnits 86 = .ok (.getfield 51, 3) := z_dk tdX3_placeUnits_86 0 rfl
theorem dX3_placeUnits_89 : decode cX3_placeUnits 89 = .ok (.getfield 136, 3) := z_dk tdX3_placeUnits_86 1 rfl
theorem dX3_placeUnits_92 : decode cX3_placeUnits 92 = .ok (.iload 8, 2) := z_dk tdX3_placeUnits_86 2 rfl
theorem dX3_placeUnits_94 : decode cX3_placeUnits 94 = .ok (.invokevirtual 98, 3) := z_dk tdX3_placeUnits_86 3 rfl
theorem dX3_placeUnits_97 : decode cX3_placeUnits 97 = .ok (.bipush 7, 2) := z_dk tdX3_placeUnits_86 4 rfl
theorem dX3_placeUnits_99 : decode cX3_placeUnits 99 = .ok (.if_icmp .ne 7, 3) := z_dk tdX3_placeUnits_86 5 rfl
theorem dX3_placeUnits_102 : decode cX3_placeUnits 102 = .ok (.iconst 1, 1) := z_dk tdX3_placeUnits_86 6 rfl
theorem dX3_placeUnits_103 : decode cX3_placeUnits 103 = .ok (.goto 4, 3) := z_dk tdX3_placeUnits_86 7 rfl
theorem dX3_placeUnits_106 : decode cX3_placeUnits 106 = .ok (.iconst 0, 1) := z_dk tdX3_placeUnits_86 8 rfl
theorem dX3_placeUnits_107 : decode cX3_placeUnits 107 = .ok (.istore 9, 2) := z_dk tdX3_placeUnits_86 9 rfl
theorem dX3_placeUnits_109 : decode cX3_placeUnits 109 = .ok (.aload_n 0, 1) := z_dk tdX3_placeUnits_86 10 rfl
theorem dX3_placeUnits_110 : decode cX3_placeUnits 110 = .ok (.getfield 51, 3) := z_dk tdX3_placeUnits_86 11 rfl
theorem dX3_placeUnits_113 : decode cX3_placeUnits 113 = .ok (.getfield 136, 3) := z_dk tdX3_placeUnits_86 12 rfl
theorem dX3_placeUnits_116 : decode cX3_placeUnits 116 = .ok (.iload 8, 2) := z_dk tdX3_placeUnits_86 13 rfl
theorem dX3_placeUnits_118 : decode cX3_placeUnits 118 = .ok (.invokevirtual 98, 3) := z_dk tdX3_placeUnits_86 14 rfl
theorem dX3_placeUnits_121 : decode cX3_placeUnits 121 = .ok (.iconst 4, 1) := z_dk tdX3_placeUnits_86 15 rfl
theorem dX3_placeUnits_122 : decode cX3_placeUnits 122 = .ok (.if_icmp .ne 15, 3) := z_dk tdX3_placeUnits_86 16 rfl
theorem dX3_placeUnits_125 : decode cX3_placeUnits 125 = .ok (.aload_n 0, 1) := z_dk tdX3_placeUnits_86 17 rfl
theorem dX3_placeUnits_126 : decode cX3_placeUnits 126 = .ok (.getfield 55, 3) := z_dk tdX3_placeUnits_86 18 rfl
theorem dX3_placeUnits_129 : decode cX3_placeUnits 129 = .ok (.iload 8, 2) := z_dk tdX3_placeUnits_86 19 rfl
theorem dX3_placeUnits_131 : decode cX3_placeUnits 131 = .ok (.invokevirtual 145, 3) := z_dk tdX3_placeUnits_86 20 rfl
theorem dX3_placeUnits_134 : decode cX3_placeUnits 134 = .ok (.goto 4, 3) := z_dk tdX3_placeUnits_86 21 rfl
theorem dX3_placeUnits_137 : decode cX3_placeUnits 137 = .ok (.iconst 0, 1) := z_dk tdX3_placeUnits_86 22 rfl
theorem dX3_placeUnits_138 : decode cX3_placeUnits 138 = .ok (.istore 10, 2) := z_dk tdX3_placeUnits_86 23 rfl
theorem tdX3_placeUnits_140 : (([(140, .iload 7, 2), (142, .iload 10, 2), (144, .iadd, 1), (145, .istore 7, 2), (147, .iload 7, 2), (149, .iload 9, 2), (151, .ifCond .eq 32, 3), (154, .aload_n 0, 1), (155, .getfield 71, 3), (158, .getfield 148, 3), (161, .iload 6, 2), (163, .invokevirtual 98, 3), (166, .iload 8, 2), (168, .if_icmp .ne 15, 3), (171, .aload_n 0, 1), (172, .getfield 71, 3), (175, .iload 6, 2), (177, .invokevirtual 151, 3), (180, .goto 4, 3), (183, .iconst 0, 1), (184, .iadd, 1), (185, .istore 7, 2), (187, .aload_n 0, 1), (188, .iload 8, 2)] : List (Nat × Instr × Nat)).all fun e => decide (decode cX3_placeUnits e.1 = .ok e.2)) = true := by decide +kernel
theorem dX3_placeUnits_140 : decode cX3_placeUnits 140 = .ok (.iload 7, 2) := z_dk tdX3_placeUnits_140 0 rfl
theorem dX3_placeUnits_142 : decode cX3_placeUnits 142 = .ok (.iload 10, 2) := z_dk tdX3_placeUnits_140 1 rfl
theorem dX3_placeUnits_144 : decode cX3_placeUnits 144 = .ok (.iadd, 1) := z_dk tdX3_placeUnits_140 2 rfl
theorem dX3_placeUnits_145 : decode cX3_placeUnits 145 = .ok (.istore 7, 2) := z_dk tdX3_placeUnits_140 3 rfl
theorem dX3_placeUnits_147 : decode cX3_placeUnits 147 = .ok (.iload 7, 2) := z_dk tdX3_placeUnits_140 4 rfl
theorem dX3_placeUnits_149 : decode cX3_placeUnits 149 = .ok (.iload 9, 2) := z_dk tdX3_placeUnits_140 5 rfl
theorem dX3_placeUnits_151 : decode cX3_placeUnits 151 = .ok (.ifCond .eq 32, 3) := z_dk tdX3_placeUnits_140 6 rfl
theorem dX3_placeUnits_154 : decode cX3_placeUnits 154 = .ok (.aload_n 0, 1) := z_dk tdX3_placeUnits_140 7 rfl
theorem dX3_placeUnits_155 : decode cX3_placeUnits 155 = .ok (.getfield 71, 3) := z_dk tdX3_placeUnits_140 8 rfl
theorem dX3_placeUnits_158 : decode cX3_placeUnits 158 = .ok (.getfield 148, 3) := z_dk tdX3_placeUnits_140 9 rfl
theorem dX3_placeUnits_161 : decode cX3_placeUnits 161 = .ok (.iload 6, 2) := z_dk tdX3_placeUnits_140 10 rfl
theorem dX3_placeUnits_163 : decode cX3_placeUnits 163 = .ok (.invokevirtual 98, 3) := z_dk tdX3_placeUnits_140 11 rfl
theorem dX3_placeUnits_166 : decode cX3_placeUnits 166 = .ok (.iload 8, 2) := z_dk tdX3_placeUnits_140 12 rfl
theorem dX3_placeUnits_168 : decode cX3_placeUnits 168 = .ok (.if_icmp .ne 15, 3) := z_dk tdX3_placeUnits_140 13 rfl
theorem dX3_placeUnits_171 : decode cX3_placeUnits 171 = .ok (.aload_n 0, 1) := z_dk tdX3_placeUnits_140 14 rfl
theorem dX3_placeUnits_172 : decode cX3_placeUnits 172 = .ok (.getfield 71, 3) := z_dk tdX3_placeUnits_140 15 rfl
theorem dX3_placeUnits_175 : decode cX3_placeUnits 175 = .ok (.iload 6, 2) := z_dk tdX3_placeUnits_140 16 rfl
theorem dX3_placeUnits_177 : decode cX3_placeUnits 177 = .ok (.invokevirtual 151, 3) := z_dk tdX3_placeUnits_140 17 rfl
theorem dX3_placeUnits_180 : decode cX3_placeUnits 180 = .ok (.goto 4, 3) := z_dk tdX3_placeUnits_140 18 rfl
theorem dX3_placeUnits_183 : decode cX3_placeUnits 183 = .ok (.iconst 0, 1) := z_dk tdX3_placeUnits_140 19 rfl
theorem dX3_placeUnits_184 : decode cX3_placeUnits 184 = .ok (.iadd, 1) := z_dk tdX3_placeUnits_140 20 rfl
theorem dX3_placeUnits_185 : decode cX3_placeUnits 185 = .ok (.istore 7, 2) := z_dk tdX3_placeUnits_140 21 rfl
theorem dX3_placeUnits_187 : decode cX3_placeUnits 187 = .ok (.aload_n 0, 1) := z_dk tdX3_placeUnits_140 22 rfl
theorem dX3_placeUnits_188 : decode cX3_placeUnits 188 = .ok (.iload 8, 2) := z_dk tdX3_placeUnits_140 23 rfl
theorem tdX3_placeUnits_190 : (([(190, .iload_n 1, 1), (191, .iload 7, 2), (193, .invokevirtual 154, 3), (196, .iload 7, 2), (198, .aload_n 0, 1), (199, .getfield 55, 3), (202, .iload 8, 2), (204, .invokevirtual 158, 3), (207, .aload_n 0, 1), (208, .getfield 55, 3), (211, .iload 8, 2), (213, .invokevirtual 145, 3), (216, .iadd, 1), (217, .iload 10, 2), (219, .isub, 1), (220, .iadd, 1), (221, .istore 7, 2), (223, .iload 9, 2), (225, .ifCond .eq 37, 3), (228, .aload_n 0, 1), (229, .getfield 71, 3), (232, .getfield 161, 3), (235, .iload 6, 2), (237, .invokevirtual 98, 3)] : List (Nat × Instr × Nat)).all fun e => decide (decode cX3_placeUnits e.1 = .ok e.2)) = true := by decide +kernel
theorem dX3_placeUnits_190 : decode cX3_placeUnits 190 = .ok (.iload_n 1, 1) := z_dk tdX3_placeUnits_190 0 rfl
theorem dX3_placeUnits_191 : decode cX3_placeUnits 191 = .ok (.iload 7, 2) := z_dk tdX3_placeUnits_190 1 rfl
theorem dX3_placeUnits_193 : decode cX3_placeUnits 193 = .ok (.invokevirtual 154, 3) := z_dk tdX3_placeUnits_190 2 rfl
theorem dX3_placeUnits_196 : decode cX3_placeUnits 196 = .ok (.iload 7, 2) := z_dk tdX3_placeUnits_190 3 rfl
theorem dX3_placeUnits_198 : decode cX3_placeUnits 198 = .ok (.aload_n 0, 1) := z_dk tdX3_placeUnits_190 4 rfl
theorem dX3_placeUnits_199 : decode cX3_placeUnits 199 = .ok (.getfield 55, 3) := z_dk tdX3_placeUnits_190 5 rfl
theorem dX3_placeUnits_202 : decode cX3_placeUnits 202 = .ok (.iload 8, 2) := z_dk tdX3_placeUnits_190 6 rfl
theorem dX3_placeUnits_204 : decode cX3_placeUnits 204 = .ok (.invokevirtual 158, 3) := z_dk tdX3_placeUnits_190 7 rfl
theorem dX3_placeUnits_207 : decode cX3_placeUnits 207 = .ok (.aload_n 0, 1) := z_dk tdX3_placeUnits_190 8 rfl
theorem dX3_placeUnits_208 : decode cX3_placeUnits 208 = .ok (.getfield 55, 3) := z_dk tdX3_placeUnits_190 9 rfl
theorem dX3_placeUnits_211 : decode cX3_placeUnits 211 = .ok (.iload 8, 2) := z_dk tdX3_placeUnits_190 10 rfl
theorem dX3_placeUnits_213 : decode cX3_placeUnits 213 = .ok (.invokevirtual 145, 3) := z_dk tdX3_placeUnits_190 11 rfl
theorem dX3_placeUnits_216 : decode cX3_placeUnits 216 = .ok (.iadd, 1) := z_dk tdX3_placeUnits_190 12 rfl
theorem dX3_placeUnits_217 : decode cX3_placeUnits 217 = .ok (.iload 10, 2) := z_dk tdX3_placeUnits_190 13 rfl
theorem dX3_placeUnits_219 : decode cX3_placeUnits 219 = .ok (.isub, 1) := z_dk tdX3_placeUnits_190 14 rfl
theorem dX3_placeUnits_220 : decode cX3_placeUnits 220 = .ok (.iadd, 1) := z_dk tdX3_placeUnits_190 15 rfl
theorem dX3_placeUnits_221 : decode cX3_placeUnits 221 = .ok (.istore 7, 2) := z_dk tdX3_placeUnits_190 16 rfl
theorem dX3_placeUnits_223 : decode cX3_placeUnits 223 = .ok (.iload 9, 2) := z_dk tdX3_placeUnits_190 17 rfl
theorem dX3_placeUnits_225 : decode cX3_placeUnits 225 = .ok (.ifCond .eq 37, 3) := z_dk tdX3_placeUnits_190 18 rfl
theorem dX3_placeUnits_228 : decode cX3_placeUnits 228 = .ok (.aload_n 0, 1) := z_dk tdX3_placeUnits_190 19 rfl
theorem dX3_placeUnits_229 : decode cX3_placeUnits 229 = .ok (.getfield 71, 3) := z_dk tdX3_placeUnits_190 20 rfl
theorem dX3_placeUnits_232 : decode cX3_placeUnits 232 = .ok (.getfield 161, 3) := z_dk tdX3_placeUnits_190 21 rfl
theorem dX3_placeUnits_235 : decode cX3_placeUnits 235 = .ok (.iload 6, 2) := z_dk tdX3_placeUnits_190 22 rfl
theorem dX3_placeUnits_237 : decode cX3_placeUnits 237 = .ok (.invokevirtual 98, 3) := z_dk tdX3_placeUnits_190 23 rfl
theorem tdX3_placeUnits_240 : (([(240, .iload 8, 2), (242, .if_icmp .ne 20, 3), (245, .iload 7, 2), (247, .aload_n 0, 1), (248, .getfield 71, 3), (251, .iload 6, 2), (253, .invokevirtual 164, 3), (256, .iadd, 1), (257, .istore 7, 2), (259, .iinc 6 1, 3), (262, .aload_n 0, 1), (263, .iload 8, 2), (265, .invokevirtual 128, 3), (268, .ifCond .eq 25, 3), (271, .iload 7, 2), (273, .iload 5, 2), (275, .ifCond .le 10, 3), (278, .iload 4, 2), (280, .iconst 1, 1), (281, .iadd, 1), (282, .goto 5, 3), (285, .iload 4, 2), (287, .iadd, 1), (288, .istore 7, 2)] : List (Nat × Instr × Nat)).all fun e => decide (decode cX3_placeUnits e.1 = .ok e.2)) = true := by decide +kernel
theorem dX3_placeUnits_240 : decode cX3_placeUnits 240 = .ok (.iload 8, 2) := z_dk tdX3_placeUnits_240 0 rfl
theorem dX3_placeUnits_242 : decode cX3_placeUnits 242 = .ok (.if_icmp .ne 20, 3) := z_dk tdX3_placeUnits_240 1 rfl
theorem dX3_placeUnits_245 : decode cX3_placeUnits 245 = .ok (.iload 7, 2) := z_dk tdX3_placeUnits_240 2 rfl
theorem dX3_placeUnits_247 : decode cX3_placeUnits 247 = .ok (.aload_n 0, 1) := z_dk tdX3_placeUnits_240 3 rfl
theorem dX3_placeUnits_248 : decode cX3_placeUnits 248 = .ok (.getfield 71, 3) := z_dk tdX3_placeUnits_240 4 rfl
theorem dX3_placeUnits_251 : decode cX3_placeUnits 251 = .ok (.iload 6, 2) := z_dk tdX3_placeUnits_240 5 rfl
theorem dX3_placeUnits_253 : decode cX3_placeUnits 253 = .ok (.invokevirtual 164, 3) := z_dk tdX3_placeUnits_240 6 rfl
theorem dX3_placeUnits_256 : decode cX3_placeUnits 256 = .ok (.iadd, 1) := z_dk tdX3_placeUnits_240 7 rfl
theorem dX3_placeUnits_257 : decode cX3_placeUnits 257 = .ok (.istore 7, 2) := z_dk tdX3_placeUnits_240 8 rfl
theorem dX3_placeUnits_259 : decode cX3_placeUnits 259 = .ok (.iinc 6 1, 3) := z_dk tdX3_placeUnits_240 9 rfl
theorem dX3_placeUnits_262 : decode cX3_placeUnits 262 = .ok (.aload_n 0, 1) := z_dk tdX3_placeUnits_240 10 rfl
theorem dX3_placeUnits_263 : decode cX3_placeUnits 263 = .ok (.iload 8, 2) := z_dk tdX3_placeUnits_240 11 rfl
theorem dX3_placeUnits_265 : decode cX3_placeUnits 265 = .ok (.invokevirtual 128, 3) := z_dk tdX3_placeUnits_240 12 rfl
theorem dX3_placeUnits_268 : decode cX3_placeUnits 268 = .ok (.ifCond .eq 25, 3) := z_dk tdX3_placeUnits_240 13 rfl
theorem dX3_placeUnits_271 : decode cX3_placeUnits 271 = .ok (.iload 7, 2) := z_dk tdX3_placeUnits_240 14 rfl
theorem dX3_placeUnits_273 : decode cX3_placeUnits 273 = .ok (.iload 5, 2) := z_dk tdX3_placeUnits_240 15 rfl
theorem dX3_placeUnits_275 : decode cX3_placeUnits 275 = .ok (.ifCond .le 10, 3) := z_dk tdX3_placeUnits_240 16 rfl
theorem dX3_placeUnits_278 : decode cX3_placeUnits 278 = .ok (.iload 4, 2) := z_dk tdX3_placeUnits_240 17 rfl
theorem dX3_placeUnits_280 : decode cX3_placeUnits 280 = .ok (.iconst 1, 1) := z_dk tdX3_placeUnits_240 18 rfl
theorem dX3_placeUnits_281 : decode cX3_placeUnits 281 = .ok (.iadd, 1) := z_dk tdX3_placeUnits_240 19 rfl
theorem dX3_placeUnits_282 : decode cX3_placeUnits 282 = .ok (.goto 5, 3) := z_dk tdX3_placeUnits_240 20 rfl
theorem dX3_placeUnits_285 : decode cX3_placeUnits 285 = .ok (.iload 4, 2) := z_dk tdX3_placeUnits_240 21 rfl
theorem dX3_placeUnits_287 : decode cX3_placeUnits 287 = .ok (.iadd, 1) := z_dk tdX3_placeUnits_240 22 rfl
theorem dX3_placeUnits_288 : decode cX3_placeUnits 288 = .ok (.istore 7, 2) := z_dk tdX3_placeUnits_240 23 rfl
theorem tdX3_placeUnits_290 : (([(290, .iinc 5 (-1), 3), (293, .iinc 8 1, 3), (296, .goto (-229), 3), (299, .return_, 1)] : List (Nat × Instr × Nat)).all fun e => decide (decode cX3_placeUnits e.1 = .ok e.2)) = true := by decide +kernel
theorem dX3_placeUnits_290 : decode cX3_placeUnits 290 = .ok (.iinc 5 (-1), 3) := z_dk tdX3_placeUnits_290 0 rfl
theorem dX3_placeUnits_293 : decode cX3_placeUnits 293 = .ok (.iinc 8 1, 3) := z_dk tdX3_placeUnits_290 1 rfl
theorem dX3_placeUnits_296 : decode cX3_placeUnits 296 = .ok (.goto (-229), 3) := z_dk tdX3_placeUnits_290 2 rfl
theorem dX3_placeUnits_299 : decode cX3_placeUnits 299 = .ok (.return_, 1) := z_dk tdX3_placeUnits_290 3 rfl
theorem tdX3_placeUnit_0 : (([(0, .aload_n 0, 1), (1, .getfield 14, 3), (4, .iload_n 1, 1), (5, .iload_n 2, 1), (6, .invokevirtual 91, 3), (9, .aload_n 0, 1), (10, .getfield 20, 3), (13, .iload_n 1, 1), (14, .iload_n 3, 1), (15, .invokevirtual 91, 3), (18, .aload_n 0, 1), (19, .getfield 23, 3), (22, .iload_n 1, 1), (23, .aload_n 0, 1), (24, .getfield 55, 3), (27, .iload_n 1, 1), (28, .invokevirtual 158, 3), (31, .invokevirtual 91, 3), (34, .aload_n 0, 1), (35, .getfield 26, 3), (38, .iload_n 1, 1), (39, .aload_n 0, 1), (40, .getfield 55, 3), (43, .iload_n 1, 1)] : List (Nat × Instr × Nat)).all fun e => decide (decode cX3_placeUnit e.1 = .ok e.2)) = true := by decide +kernel
theorem dX3_placeUnit_0 : decode cX3_placeUnit 0 = .ok (.aload_n 0, 1) := z_dk tdX3_placeUnit_0 0 rfl
theorem dX3_placeUnit_1 : decode cX3_placeUnit 1 = .ok (.getfield 14, 3) := z_dk tdX3_placeUnit_0 1 rfl
theorem dX3_placeUnit_4 : decode cX3_placeUnit 4 = .ok (.iload_n 1, 1) := z_dk tdX3_placeUnit_0 2 rfl
theorem dX3_placeUnit_5 : decode cX3_placeUnit 5 = .ok (.iload_n 2, 1) := z_dk tdX3_placeUnit_0 3 rfl
theorem dX3_placeUnit_6 : decode cX3_placeUnit 6 = .ok (.invokevirtual 91, 3) := z_dk tdX3_placeUnit_0 4 rfl
theorem dX3_placeUnit_9 : decode cX3_placeUnit 9 = .ok (.aload_n 0, 1) := z_dk tdX3_placeUnit_0 5 rfl
theorem dX3_placeUnit_10 : decode cX3_placeUnit 10 = .ok (.getfield 20, 3) := z_dk tdX3_placeUnit_0 6 rfl
theorem dX3_placeUnit_13 : decode cX3_placeUnit 13 = .ok (.iload_n 1, 1) := z_dk tdX3_placeUnit_0 7 rfl
theorem dX3_placeUnit_14 : decode cX3_placeUnit 14 = .ok (.iload_n 3, 1) := z_dk tdX3_placeUnit_0 8 rfl
theorem dX3_placeUnit_15 : decode cX3_placeUnit 15 = .ok (.invokevirtual 91, 3) := z_dk tdX3_placeUnit_0 9 rfl
theorem dX3_placeUnit_18 : decode cX3_placeUnit 18 = .ok (.aload_n 0, 1) := z_dk tdX3_placeUnit_0 10 rfl
theorem dX3_placeUnit_19 : decode cX3_placeUnit 19 = .ok (.getfield 23, 3) := z_dk tdX3_placeUnit_0 11 rfl
theorem dX3_placeUnit_22 : decode cX3_placeUnit 22 = .ok (.iload_n 1, 1) := z_dk tdX3_placeUnit_0 12 rfl
theorem dX3_placeUnit_23 : decode cX3_placeUnit 23 = .ok (.aload_n 0, 1) := z_dk tdX3_placeUnit_0 13 rfl
theorem dX3_placeUnit_24 : decode cX3_placeUnit 24 = .ok (.getfield 55, 3) := z_dk tdX3_placeUnit_0 14 rfl
theorem dX3_placeUnit_27 : decode cX3_placeUnit 27 = .ok (.iload_n 1, 1) := z_dk tdX3_placeUnit_0 15 rfl
theorem dX3_placeUnit_28 : decode cX3_placeUnit 28 = .ok (.invokevirtual 158, 3) := z_dk tdX3_placeUnit_0 16 rfl
theorem dX3_placeUnit_31 : decode cX3_placeUnit 31 = .ok (.invokevirtual 91, 3) := z_dk tdX3_placeUnit_0 17 rfl
theorem dX3_placeUnit_34 : decode cX3_placeUnit 34 = .ok (.aload_n 0, 1) := z_dk tdX3_placeUnit_0 18 rfl
theorem dX3_placeUnit_35 : decode cX3_placeUnit 35 = .ok (.getfield 26, 3) := z_dk tdX3_placeUnit_0 19 rfl
theorem dX3_placeUnit_38 : decode cX3_placeUnit 38 = .ok (.iload_n 1, 1) := z_dk tdX3_placeUnit_0 20 rfl
theorem dX3_placeUnit_39 : decode cX3_placeUnit 39 = .ok (.aload_n 0, 1) := z_dk tdX3_placeUnit_0 21 rfl
theorem dX3_placeUnit_40 : decode cX3_placeUnit 40 = .ok (.getfield 55, 3) := z_dk tdX3_placeUnit_0 22 rfl
theorem dX3_placeUnit_43 : decode cX3_placeUnit 43 = .ok (.iload_n 1, 1) := z_dk tdX3_placeUnit_0 23 rfl
theorem tdX3_placeUnit_44 : (([(44, .invokevirtual 145, 3), (47, .invokevirtual 91, 3), (50, .aload_n 0, 1), (51, .getfield 51, 3), (54, .iload_n 1, 1), (55, .invokevirtual 167, 3), (58, .istore 4, 2), (60, .iload_n 3, 1), (61, .istore 5, 2), (63, .aload_n 0, 1), (64, .getfield 51, 3), (67, .getfield 170, 3), (70, .iload_n 1, 1), (71, .invokevirtual 98, 3), (74, .aload_n 0, 1), (75, .getfield 51, 3), (78, .getfield 171, 3), (81, .iload_n 1, 1), (82, .invokevirtual 98, 3), (85, .iadd, 1), (86, .istore 6, 2), (88, .aload_n 0, 1), (89, .getfield 51, 3), (92, .getfield 170, 3)] : List (Nat × Instr × Nat)).all fun e => decide (decode cX3_placeUnit e.1 = .ok e.2)) = true := by decide +kernel
theorem dX3_placeUnit_44 : decode cX3_placeUnit 44 = .ok (.invokevirtual 145, 3) := z_dk tdX3_placeUnit_44 0 rfl
theorem dX3_placeUnit_47 : decode cX3_placeUnit 47 = .ok (.invokevirtual 91, 3) := z_dk tdX3_placeUnit_44 1 rfl
theorem dX3_placeUnit_50 : decode cX3_placeUnit 50 = .ok (.aload_n 0, 1) := z_dk tdX3_placeUnit_44 2 rfl
theorem dX3_placeUnit_51 : decode cX3_placeUnit 51 = .ok (.getfield 51, 3) := z_dk tdX3_placeUnit_44 3 rfl
theorem dX3_placeUnit_54 : decode cX3_placeUnit 54 = .ok (.iload_n 1, 1) := z_dk tdX3_placeUnit_44 4 rfl
theorem dX3_placeUnit_55 : decode cX3_placeUnit 55 = .ok (.invokevirtual 167, 3) := z_dk tdX3_placeUnit_44 5 rfl
theorem dX3_placeUnit_58 : decode cX3_placeUnit 58 = .ok (.istore 4, 2) := z_dk tdX3_placeUnit_44 6 rfl
theorem dX3_placeUnit_60 : decode cX3_placeUnit 60 = .ok (.iload_n 3, 1) := z_dk tdX3_placeUnit_44 7 rfl
theorem dX3_placeUnit_61 : decode cX3_placeUnit 61 = .ok (.istore 5, 2) := z_dk tdX3_placeUnit_44 8 rfl
theorem dX3_placeUnit_63 : decode cX3_placeUnit 63 = .ok (.aload_n 0, 1) := z_dk tdX3_placeUnit_44 9 rfl
theorem dX3_placeUnit_64 : decode cX3_placeUnit 64 = .ok (.getfield 51, 3) := z_dk tdX3_placeUnit_44 10 rfl
theorem dX3_placeUnit_67 : decode cX3_placeUnit 67 = .ok (.getfield 170, 3) := z_dk tdX3_placeUnit_44 11 rfl
theorem dX3_placeUnit_70 : decode cX3_placeUnit 70 = .ok (.iload_n 1, 1) := z_dk tdX3_placeUnit_44 12 rfl
theorem dX3_placeUnit_71 : decode cX3_placeUnit 71 = .ok (.invokevirtual 98, 3) := z_dk tdX3_placeUnit_44 13 rfl
theorem dX3_placeUnit_74 : decode cX3_placeUnit 74 = .ok (.aload_n 0, 1) := z_dk tdX3_placeUnit_44 14 rfl
theorem dX3_placeUnit_75 : decode cX3_placeUnit 75 = .ok (.getfield 51, 3) := z_dk tdX3_placeUnit_44 15 rfl
theorem dX3_placeUnit_78 : decode cX3_placeUnit 78 = .ok (.getfield 171, 3) := z_dk tdX3_placeUnit_44 16 rfl
theorem dX3_placeUnit_81 : decode cX3_placeUnit 81 = .ok (.iload_n 1, 1) := z_dk tdX3_placeUnit_44 17 rfl
theorem dX3_placeUnit_82 : decode cX3_placeUnit 82 = .ok (.invokevirtual 98, 3) := z_dk tdX3_placeUnit_44 18 rfl
theorem dX3_placeUnit_85 : decode cX3_placeUnit 85 = .ok (.iadd, 1) := z_dk tdX3_placeUnit_44 19 rfl
theorem dX3_placeUnit_86 : decode cX3_placeUnit 86 = .ok (.istore 6, 2) := z_dk tdX3_placeUnit_44 20 rfl
theorem dX3_placeUnit_88 : decode cX3_placeUnit 88 = .ok (.aload_n 0, 1) := z_dk tdX3_placeUnit_44 21 rfl
theorem dX3_placeUnit_89 : decode cX3_placeUnit 89 = .ok (.getfield 51, 3) := z_dk tdX3_placeUnit_44 22 rfl
theorem dX3_placeUnit_92 : decode cX3_placeUnit 92 = .ok (.getfield 170, 3) := z_dk tdX3_placeUnit_44 23 rfl
theorem tdX3_placeUnit_95 : (([(95, .iload_n 1, 1), (96, .invokevirtual 98, 3), (99, .istore 7, 2), (101, .iload 7, 2), (103, .iload 6, 2), (105, .if_icmp .ge 46, 3), (108, .aload_n 0, 1), (109, .getfield 29, 3), (112, .iload 7, 2), (114, .iload 5, 2), (116, .invokevirtual 91, 3), (119, .iload 5, 2), (121, .iload 4, 2), (123, .ifCond .eq 7, 3), (126, .iconst 0, 1), (127, .goto 15, 3), (130, .aload_n 0, 1), (131, .getfield 51, 3), (134, .getfield 174, 3), (137, .iload 7, 2), (139, .invokevirtual 98, 3), (142, .iadd, 1), (143, .istore 5, 2), (145, .iinc 7 1, 3)] : List (Nat × Instr × Nat)).all fun e => decide (decode cX3_placeUnit e.1 = .ok e.2)) = true := by decide +kernel
theorem dX3_placeUnit_95 : decode cX3_placeUnit 95 = .ok (.iload_n 1, 1) := z_dk tdX3_placeUnit_95 0 rfl
theorem dX3_placeUnit_96 : decode cX3_placeUnit 96 = .ok (.invokevirtual 98, 3) := z_dk tdX3_placeUnit_95 1 rfl
theorem dX3_placeUnit_99 : decode cX3_placeUnit 99 = .ok (.istore 7, 2) := z_dk tdX3_placeUnit_95 2 rfl
theorem dX3_placeUnit_101 : decode cX3_placeUnit 101 = .ok (.iload 7, 2) := z_dk tdX3_placeUnit_95 3 rfl
theorem dX3_placeUnit_103 : decode cX3_placeUnit 103 = .ok (.iload 6, 2) := z_dk tdX3_placeUnit_95 4 rfl
theorem dX3_placeUnit_105 : decode cX3_placeUnit 105 = .ok (.if_icmp .ge 46, 3) := z_dk tdX3_placeUnit_95 5 rfl
theorem dX3_placeUnit_108 : decode cX3_placeUnit 108 = .ok (.aload_n 0, 1) := z_dk tdX3_placeUnit_95 6 rfl
theorem dX3_placeUnit_109 : decode cX3_placeUnit 109 = .ok (.getfield 29, 3) := z_dk tdX3_placeUnit_95 7 rfl
theorem dX3_placeUnit_112 : decode cX3_placeUnit 112 = .ok (.iload 7, 2) := z_dk tdX3_placeUnit_95 8 rfl
theorem dX3_placeUnit_114 : decode cX3_placeUnit 114 = .ok (.iload 5, 2) := z_dk tdX3_placeUnit_95 9 rfl
theorem dX3_placeUnit_116 : decode cX3_placeUnit 116 = .ok (.invokevirtual 91, 3) := z_dk tdX3_placeUnit_95 10 rfl
theorem dX3_placeUnit_119 : decode cX3_placeUnit 119 = .ok (.iload 5, 2) := z_dk tdX3_placeUnit_95 11 rfl
theorem dX3_placeUnit_121 : decode cX3_placeUnit 121 = .ok (.iload 4, 2) := z_dk tdX3_placeUnit_95 12 rfl
theorem dX3_placeUnit_123 : decode cX3_placeUnit 123 = .ok (.ifCond .eq 7, 3) := z_dk tdX3_placeUnit_95 13 rfl
theorem dX3_placeUnit_126 : decode cX3_placeUnit 126 = .ok (.iconst 0, 1) := z_dk tdX3_placeUnit_95 14 rfl
theorem dX3_placeUnit_127 : decode cX3_placeUnit 127 = .ok (.goto 15, 3) := z_dk tdX3_placeUnit_95 15 rfl
theorem dX3_placeUnit_130 : decode cX3_placeUnit 130 = .ok (.aload_n 0, 1) := z_dk tdX3_placeUnit_95 16 rfl
theorem dX3_placeUnit_131 : decode cX3_placeUnit 131 = .ok (.getfield 51, 3) := z_dk tdX3_placeUnit_95 17 rfl
theorem dX3_placeUnit_134 : decode cX3_placeUnit 134 = .ok (.getfield 174, 3) := z_dk tdX3_placeUnit_95 18 rfl
theorem dX3_placeUnit_137 : decode cX3_placeUnit 137 = .ok (.iload 7, 2) := z_dk tdX3_placeUnit_95 19 rfl
theorem dX3_placeUnit_139 : decode cX3_placeUnit 139 = .ok (.invokevirtual 98, 3) := z_dk tdX3_placeUnit_95 20 rfl
theorem dX3_placeUnit_142 : decode cX3_placeUnit 142 = .ok (.iadd, 1) := z_dk tdX3_placeUnit_95 21 rfl
theorem dX3_placeUnit_143 : decode cX3_placeUnit 143 = .ok (.istore 5, 2) := z_dk tdX3_placeUnit_95 22 rfl
theorem dX3_placeUnit_145 : decode cX3_placeUnit 145 = .ok (.iinc 7 1, 3) := z_dk tdX3_placeUnit_95 23 rfl
theorem tdX3_placeUnit_148 : (([(148, .goto (-47), 3), (151, .return_, 1)] : List (Nat × Instr × Nat)).all fun e => decide (decode cX3_placeUnit e.1 = .ok e.2)) = true := by decide +kernel
theorem dX3_placeUnit_148 : decode cX3_placeUnit 148 = .ok (.goto (-47), 3) := z_dk tdX3_placeUnit_148 0 rfl
theorem dX3_placeUnit_151 : decode cX3_placeUnit 151 = .ok (.return_, 1) := z_dk tdX3_placeUnit_148 1 rfl
theorem tdX3_longest_0 : (([(0, .iconst 0, 1), (1, .istore_n 1, 1), (2, .iconst 0, 1), (3, .istore_n 2, 1), (4, .iload_n 2, 1), (5, .aload_n 0, 1), (6, .getfield 59, 3), (9, .getfield 78, 3), (12, .if_icmp .ge 22, 3), (15, .iload_n 1, 1), (16, .aload_n 0, 1), (17, .getfield 32, 3), (20, .iload_n 2, 1), (21, .invokevirtual 98, 3), (24, .invokestatic 177, 3), (27, .istore_n 1, 1), (28, .iinc 2 1, 3), (31, .goto (-27), 3), (34, .iload_n 1, 1), (35, .ireturn, 1)] : List (Nat × Instr × Nat)).all fun e => decide (decode cX3_longest e.1 = .ok e.2)) = true := by decide +kernel
theorem dX3_longest_0 : decode cX3_longest 0 = .ok (.iconst 0, 1) := z_dk tdX3_longest_0 0 rfl
theorem dX3_longest_1 : decode cX3_longest 1 = .ok (.istore_n 1, 1) := z_dk tdX3_longest_0 1 rfl
theorem dX3_longest_2 : decode cX3_longest 2 = .ok (.iconst 0, 1) := z_dk tdX3_longest_0 2 rfl
theorem dX3_longest_3 : decode cX3_longest 3 = .ok (.istore_n 2, 1) := z_dk tdX3_longest_0 3 rfl
theorem dX3_longest_4 : decode cX3_longest 4 = .ok (.iload_n 2, 1) := z_dk tdX3_longest_0 4 rfl
theorem dX3_longest_5 : decode cX3_longest 5 = .ok (.aload_n 0, 1) := z_dk tdX3_longest_0 5 rfl
theorem dX3_longest_6 : decode cX3_longest 6 = .ok (.getfield 59, 3) := z_dk tdX3_longest_0 6 rfl
theorem dX3_longest_9 : decode cX3_longest 9 = .ok (.getfield 78, 3) := z_dk tdX3_longest_0 7 rfl
theorem dX3_longest_12 : decode cX3_longest 12 = .ok (.if_icmp .ge 22, 3) := z_dk tdX3_longest_0 8 rfl
theorem dX3_longest_15 : decode cX3_longest 15 = .ok (.iload_n 1, 1) := z_dk tdX3_longest_0 9 rfl
theorem dX3_longest_16 : decode cX3_longest 16 = .ok (.aload_n 0, 1) := z_dk tdX3_longest_0 10 rfl
theorem dX3_longest_17 : decode cX3_longest 17 = .ok (.getfield 32, 3) := z_dk tdX3_longest_0 11 rfl
theorem dX3_longest_20 : decode cX3_longest 20 = .ok (.iload_n 2, 1) := z_dk tdX3_longest_0 12 rfl
theorem dX3_longest_21 : decode cX3_longest 21 = .ok (.invokevirtual 98, 3) := z_dk tdX3_longest_0 13 rfl
theorem dX3_longest_24 : decode cX3_longest 24 = .ok (.invokestatic 177, 3) := z_dk tdX3_longest_0 14 rfl
theorem dX3_longest_27 : decode cX3_longest 27 = .ok (.istore_n 1, 1) := z_dk tdX3_longest_0 15 rfl
theorem dX3_longest_28 : decode cX3_longest 28 = .ok (.iinc 2 1, 3) := z_dk tdX3_longest_0 16 rfl
theorem dX3_longest_31 : decode cX3_longest 31 = .ok (.goto (-27), 3) := z_dk tdX3_longest_0 17 rfl
theorem dX3_longest_34 : decode cX3_longest 34 = .ok (.iload_n 1, 1) := z_dk tdX3_longest_0 18 rfl
theorem dX3_longest_35 : decode cX3_longest 35 = .ok (.ireturn, 1) := z_dk tdX3_longest_0 19 rfl
theorem tdX3_standingAt_0 : (([(0, .aload_n 0, 1), (1, .getfield 55, 3), (4, .aload_n 0, 1), (5, .getfield 59, 3), (8, .getfield 95, 3), (11, .iload_n 1, 1), (12, .invokevirtual 98, 3), (15, .aload_n 0, 1), (16, .getfield 59, 3), (19, .getfield 95, 3), (22, .iload_n 1, 1), (23, .iconst 1, 1), (24, .iadd, 1), (25, .invokevirtual 98, 3), (28, .iconst 1, 1), (29, .isub, 1), (30, .invokevirtual 108, 3), (33, .aload_n 0, 1), (34, .getfield 55, 3), (37, .getfield 118, 3), (40, .istore_n 3, 1), (41, .iload_n 3, 1), (42, .aload_n 0, 1), (43, .getfield 55, 3)] : List (Nat × Instr × Nat)).all fun e => decide (decode cX3_standingAt e.1 = .ok e.2)) = true := by decide +kernel
theorem dX3_standingAt_0 : decode cX3_standingAt 0 = .ok (.aload_n 0, 1) := z_dk tdX3_standingAt_0 0 rfl
theorem dX3_standingAt_1 : decode cX3_standingAt 1 = .ok (.getfield 55, 3) := z_dk tdX3_standingAt_0 1 rfl
theorem dX3_standingAt_4 : decode cX3_standingAt 4 = .ok (.aload_n 0, 1) := z_dk tdX3_standingAt_0 2 rfl
theorem dX3_standingAt_5 : decode cX3_standingAt 5 = .ok (.getfield 59, 3) := z_dk tdX3_standingAt_0 3 rfl
theorem dX3_standingAt_8 : decode cX3_standingAt 8 = .ok (.getfield 95, 3) := z_dk tdX3_standingAt_0 4 rfl
theorem dX3_standingAt_11 : decode cX3_standingAt 11 = .ok (.iload_n 1, 1) := z_dk tdX3_standingAt_0 5 rfl
theorem dX3_standingAt_12 : decode cX3_standingAt 12 = .ok (.invokevirtual 98, 3) := z_dk tdX3_standingAt_0 6 rfl
theorem dX3_standingAt_15 : decode cX3_standingAt 15 = .ok (.aload_n 0, 1) := z_dk tdX3_standingAt_0 7 rfl
theorem dX3_standingAt_16 : decode cX3_standingAt 16 = .ok (.getfield 59, 3) := z_dk tdX3_standingAt_0 8 rfl
theorem dX3_standingAt_19 : decode cX3_standingAt 19 = .ok (.getfield 95, 3) := z_dk tdX3_standingAt_0 9 rfl
theorem dX3_standingAt_22 : decode cX3_standingAt 22 = .ok (.iload_n 1, 1) := z_dk tdX3_standingAt_0 10 rfl
theorem dX3_standingAt_23 : decode cX3_standingAt 23 = .ok (.iconst 1, 1) := z_dk tdX3_standingAt_0 11 rfl
theorem dX3_standingAt_24 : decode cX3_standingAt 24 = .ok (.iadd, 1) := z_dk tdX3_standingAt_0 12 rfl
theorem dX3_standingAt_25 : decode cX3_standingAt 25 = .ok (.invokevirtual 98, 3) := z_dk tdX3_standingAt_0 13 rfl
theorem dX3_standingAt_28 : decode cX3_standingAt 28 = .ok (.iconst 1, 1) := z_dk tdX3_standingAt_0 14 rfl
theorem dX3_standingAt_29 : decode cX3_standingAt 29 = .ok (.isub, 1) := z_dk tdX3_standingAt_0 15 rfl
theorem dX3_standingAt_30 : decode cX3_standingAt 30 = .ok (.invokevirtual 108, 3) := z_dk tdX3_standingAt_0 16 rfl
theorem dX3_standingAt_33 : decode cX3_standingAt 33 = .ok (.aload_n 0, 1) := z_dk tdX3_standingAt_0 17 rfl
theorem dX3_standingAt_34 : decode cX3_standingAt 34 = .ok (.getfield 55, 3) := z_dk tdX3_standingAt_0 18 rfl
theorem dX3_standingAt_37 : decode cX3_standingAt 37 = .ok (.getfield 118, 3) := z_dk tdX3_standingAt_0 19 rfl
theorem dX3_standingAt_40 : decode cX3_standingAt 40 = .ok (.istore_n 3, 1) := z_dk tdX3_standingAt_0 20 rfl
theorem dX3_standingAt_41 : decode cX3_standingAt 41 = .ok (.iload_n 3, 1) := z_dk tdX3_standingAt_0 21 rfl
theorem dX3_standingAt_42 : decode cX3_standingAt 42 = .ok (.aload_n 0, 1) := z_dk tdX3_standingAt_0 22 rfl
theorem dX3_standingAt_43 : decode cX3_standingAt 43 = .ok (.getfield 55, 3) := z_dk tdX3_standingAt_0 23 rfl
theorem tdX3_standingAt_46 : (([(46, .getfield 111, 3), (49, .if_icmp .gt 99, 3), (52, .aload_n 0, 1), (53, .getfield 51, 3), (56, .getfield 170, 3), (59, .iload_n 3, 1), (60, .invokevirtual 98, 3), (63, .aload_n 0, 1), (64, .getfield 51, 3), (67, .getfield 171, 3), (70, .iload_n 3, 1), (71, .invokevirtual 98, 3), (74, .iadd, 1), (75, .istore 4, 2), (77, .aload_n 0, 1), (78, .getfield 51, 3), (81, .getfield 170, 3), (84, .iload_n 3, 1), (85, .invokevirtual 98, 3), (88, .istore 5, 2), (90, .iload 5, 2), (92, .iload 4, 2), (94, .if_icmp .ge 48, 3), (97, .aload_n 0, 1)] : List (Nat × Instr × Nat)).all fun e => decide (decode cX3_standingAt e.1 = .ok e.2)) = true := by decide +kernel
theorem dX3_standingAt_46 : decode cX3_standingAt 46 = .ok (.getfield 111, 3) := z_dk tdX3_standingAt_46 0 rfl
theorem dX3_standingAt_49 : decode cX3_standingAt 49 = .ok (.if_icmp .gt 99, 3) := z_dk tdX3_standingAt_46 1 rfl
theorem dX3_standingAt_52 : decode cX3_standingAt 52 = .ok (.aload_n 0, 1) := z_dk tdX3_standingAt_46 2 rfl
theorem dX3_standingAt_53 : decode cX3_standingAt 53 = .ok (.getfield 51, 3) := z_dk tdX3_standingAt_46 3 rfl
theorem dX3_standingAt_56 : decode cX3_standingAt 56 = .ok (.getfield 170, 3) := z_dk tdX3_standingAt_46 4 rfl
theorem dX3_standingAt_59 : decode cX3_standingAt 59 = .ok (.iload_n 3, 1) := z_dk tdX3_standingAt_46 5 rfl
theorem dX3_standingAt_60 : decode cX3_standingAt 60 = .ok (.invokevirtual 98, 3) := z_dk tdX3_standingAt_46 6 rfl
theorem dX3_standingAt_63 : decode cX3_standingAt 63 = .ok (.aload_n 0, 1) := z_dk tdX3_standingAt_46 7 rfl
theorem dX3_standingAt_64 : decode cX3_standingAt 64 = .ok (.getfield 51, 3) := z_dk tdX3_standingAt_46 8 rfl
theorem dX3_standingAt_67 : decode cX3_standingAt 67 = .ok (.getfield 171, 3) := z_dk tdX3_standingAt_46 9 rfl
theorem dX3_standingAt_70 : decode cX3_standingAt 70 = .ok (.iload_n 3, 1) := z_dk tdX3_standingAt_46 10 rfl
theorem dX3_standingAt_71 : decode cX3_standingAt 71 = .ok (.invokevirtual 98, 3) := z_dk tdX3_standingAt_46 11 rfl
theorem dX3_standingAt_74 : decode cX3_standingAt 74 = .ok (.iadd, 1) := z_dk tdX3_standingAt_46 12 rfl
theorem dX3_standingAt_75 : decode cX3_standingAt 75 = .ok (.istore 4, 2) := z_dk tdX3_standingAt_46 13 rfl
theorem dX3_standingAt_77 : decode cX3_standingAt 77 = .ok (.aload_n 0, 1) := z_dk tdX3_standingAt_46 14 rfl
theorem dX3_standingAt_78 : decode cX3_standingAt 78 = .ok (.getfield 51, 3) := z_dk tdX3_standingAt_46 15 rfl
theorem dX3_standingAt_81 : decode cX3_standingAt 81 = .ok (.getfield 170, 3) := z_dk tdX3_standingAt_46 16 rfl
theorem dX3_standingAt_84 : decode cX3_standingAt 84 = .ok (.iload_n 3, 1) := z_dk tdX3_standingAt_46 17 rfl
theorem dX3_standingAt_85 : decode cX3_standingAt 85 = .ok (.invokevirtual 98, 3) := z_dk tdX3_standingAt_46 18 rfl
theorem dX3_standingAt_88 : decode cX3_standingAt 88 = .ok (.istore 5, 2) := z_dk tdX3_standingAt_46 19 rfl
theorem dX3_standingAt_90 : decode cX3_standingAt 90 = .ok (.iload 5, 2) := z_dk tdX3_standingAt_46 20 rfl
theorem dX3_standingAt_92 : decode cX3_standingAt 92 = .ok (.iload 4, 2) := z_dk tdX3_standingAt_46 21 rfl
theorem dX3_standingAt_94 : decode cX3_standingAt 94 = .ok (.if_icmp .ge 48, 3) := z_dk tdX3_standingAt_46 22 rfl
theorem dX3_standingAt_97 : decode cX3_standingAt 97 = .ok (.aload_n 0, 1) := z_dk tdX3_standingAt_46 23 rfl
theorem tdX3_standingAt_98 : (([(98, .getfield 29, 3), (101, .iload 5, 2), (103, .invokevirtual 98, 3), (106, .istore 6, 2), (108, .iload_n 2, 1), (109, .iload 6, 2), (111, .if_icmp .lt 25, 3), (114, .iload_n 2, 1), (115, .iload 6, 2), (117, .aload_n 0, 1), (118, .getfield 51, 3), (121, .getfield 174, 3), (124, .iload 5, 2), (126, .invokevirtual 98, 3), (129, .iadd, 1), (130, .if_icmp .ge 6, 3), (133, .iload 5, 2), (135, .ireturn, 1), (136, .iinc 5 1, 3), (139, .goto (-49), 3), (142, .iinc 3 1, 3), (145, .goto (-104), 3), (148, .iconst (-1), 1), (149, .ireturn, 1)] : List (Nat × Instr × Nat)).all fun e => decide (decode cX3_standingAt e.1 = .ok e.2)) = true := by decide +kernel
theorem dX3_standingAt_98 : decode cX3_standingAt 98 = .ok (.getfield 29, 3) := z_dk tdX3_standingAt_98 0 rfl
theorem dX3_standingAt_101 : decode cX3_standingAt 101 = .ok (.iload 5, 2) := z_dk tdX3_standingAt_98 1 rfl
theorem dX3_standingAt_103 : decode cX3_standingAt 103 = .ok (.invokevirtual 98, 3) := z_dk tdX3_standingAt_98 2 rfl
theorem dX3_standingAt_106 : decode cX3_standingAt 106 = .ok (.istore 6, 2) := z_dk tdX3_standingAt_98 3 rfl
theorem dX3_standingAt_108 : decode cX3_standingAt 108 = .ok (.iload_n 2, 1) := z_dk tdX3_standingAt_98 4 rfl
theorem dX3_standingAt_109 : decode cX3_standingAt 109 = .ok (.iload 6, 2) := z_dk tdX3_standingAt_98 5 rfl
theorem dX3_standingAt_111 : decode cX3_standingAt 111 = .ok (.if_icmp .lt 25, 3) := z_dk tdX3_standingAt_98 6 rfl
theorem dX3_standingAt_114 : decode cX3_standingAt 114 = .ok (.iload_n 2, 1) := z_dk tdX3_standingAt_98 7 rfl
theorem dX3_standingAt_115 : decode cX3_standingAt 115 = .ok (.iload 6, 2) := z_dk tdX3_standingAt_98 8 rfl
theorem dX3_standingAt_117 : decode cX3_standingAt 117 = .ok (.aload_n 0, 1) := z_dk tdX3_standingAt_98 9 rfl
theorem dX3_standingAt_118 : decode cX3_standingAt 118 = .ok (.getfield 51, 3) := z_dk tdX3_standingAt_98 10 rfl
theorem dX3_standingAt_121 : decode cX3_standingAt 121 = .ok (.getfield 174, 3) := z_dk tdX3_standingAt_98 11 rfl
theorem dX3_standingAt_124 : decode cX3_standingAt 124 = .ok (.iload 5, 2) := z_dk tdX3_standingAt_98 12 rfl
theorem dX3_standingAt_126 : decode cX3_standingAt 126 = .ok (.invokevirtual 98, 3) := z_dk tdX3_standingAt_98 13 rfl
theorem dX3_standingAt_129 : decode cX3_standingAt 129 = .ok (.iadd, 1) := z_dk tdX3_standingAt_98 14 rfl
theorem dX3_standingAt_130 : decode cX3_standingAt 130 = .ok (.if_icmp .ge 6, 3) := z_dk tdX3_standingAt_98 15 rfl
theorem dX3_standingAt_133 : decode cX3_standingAt 133 = .ok (.iload 5, 2) := z_dk tdX3_standingAt_98 16 rfl
theorem dX3_standingAt_135 : decode cX3_standingAt 135 = .ok (.ireturn, 1) := z_dk tdX3_standingAt_98 17 rfl
theorem dX3_standingAt_136 : decode cX3_standingAt 136 = .ok (.iinc 5 1, 3) := z_dk tdX3_standingAt_98 18 rfl
theorem dX3_standingAt_139 : decode cX3_standingAt 139 = .ok (.goto (-49), 3) := z_dk tdX3_standingAt_98 19 rfl
theorem dX3_standingAt_142 : decode cX3_standingAt 142 = .ok (.iinc 3 1, 3) := z_dk tdX3_standingAt_98 20 rfl
theorem dX3_standingAt_145 : decode cX3_standingAt 145 = .ok (.goto (-104), 3) := z_dk tdX3_standingAt_98 21 rfl
theorem dX3_standingAt_148 : decode cX3_standingAt 148 = .ok (.iconst (-1), 1) := z_dk tdX3_standingAt_98 22 rfl
theorem dX3_standingAt_149 : decode cX3_standingAt 149 = .ok (.ireturn, 1) := z_dk tdX3_standingAt_98 23 rfl
theorem tdX3_letterCode_0 : (([(0, .iload_n 3, 1), (1, .istore 4, 2), (3, .aload_n 0, 1), (4, .getfield 71, 3), (7, .getfield 148, 3), (10, .iload_n 1, 1), (11, .invokevirtual 98, 3), (14, .istore 5, 2), (16, .iload 5, 2), (18, .aload_n 0, 1), (19, .getfield 71, 3), (22, .getfield 161, 3), (25, .iload_n 1, 1), (26, .invokevirtual 98, 3), (29, .if_icmp .gt 62, 3), (32, .aload_n 0, 1), (33, .getfield 51, 3), (36, .getfield 170, 3), (39, .iload 5, 2), (41, .invokevirtual 98, 3), (44, .istore 6, 2), (46, .aload_n 0, 1), (47, .getfield 47, 3), (50, .iload_n 2, 1)] : List (Nat × Instr × Nat)).all fun e => decide (decode cX3_letterCode e.1 = .ok e.2)) = true := by decide +kernel
theorem dX3_letterCode_0 : decode cX3_letterCode 0 = .ok (.iload_n 3, 1) := z_dk tdX3_letterCode_0 0 rfl
theorem dX3_letterCode_1 : decode cX3_letterCode 1 = .ok (.istore 4, 2) := z_dk tdX3_letterCode_0 1 rfl
theorem dX3_letterCode_3 : decode cX3_letterCode 3 = .ok (.aload_n 0, 1) := z_dk tdX3_letterCode_0 2 rfl
theorem dX3_letterCode_4 : decode cX3_letterCode 4 = .ok (.getfield 71, 3) := z_dk tdX3_letterCode_0 3 rfl
theorem dX3_letterCode_7 : decode cX3_letterCode 7 = .ok (.getfield 148, 3) := z_dk tdX3_letterCode_0 4 rfl
theorem dX3_letterCode_10 : decode cX3_letterCode 10 = .ok (.iload_n 1, 1) := z_dk tdX3_letterCode_0 5 rfl
theorem dX3_letterCode_11 : decode cX3_letterCode 11 = .ok (.invokevirtual 98, 3) := z_dk tdX3_letterCode_0 6 rfl
theorem dX3_letterCode_14 : decode cX3_letterCode 14 = .ok (.istore 5, 2) := z_dk tdX3_letterCode_0 7 rfl
theorem dX3_letterCode_16 : decode cX3_letterCode 16 = .ok (.iload 5, 2) := z_dk tdX3_letterCode_0 8 rfl
theorem dX3_letterCode_18 : decode cX3_letterCode 18 = .ok (.aload_n 0, 1) := z_dk tdX3_letterCode_0 9 rfl
theorem dX3_letterCode_19 : decode cX3_letterCode 19 = .ok (.getfield 71, 3) := z_dk tdX3_letterCode_0 10 rfl
theorem dX3_letterCode_22 : decode cX3_letterCode 22 = .ok (.getfield 161, 3) := z_dk tdX3_letterCode_0 11 rfl
theorem dX3_letterCode_25 : decode cX3_letterCode 25 = .ok (.iload_n 1, 1) := z_dk tdX3_letterCode_0 12 rfl
theorem dX3_letterCode_26 : decode cX3_letterCode 26 = .ok (.invokevirtual 98, 3) := z_dk tdX3_letterCode_0 13 rfl
theorem dX3_letterCode_29 : decode cX3_letterCode 29 = .ok (.if_icmp .gt 62, 3) := z_dk tdX3_letterCode_0 14 rfl
theorem dX3_letterCode_32 : decode cX3_letterCode 32 = .ok (.aload_n 0, 1) := z_dk tdX3_letterCode_0 15 rfl
theorem dX3_letterCode_33 : decode cX3_letterCode 33 = .ok (.getfield 51, 3) := z_dk tdX3_letterCode_0 16 rfl
theorem dX3_letterCode_36 : decode cX3_letterCode 36 = .ok (.getfield 170, 3) := z_dk tdX3_letterCode_0 17 rfl
theorem dX3_letterCode_39 : decode cX3_letterCode 39 = .ok (.iload 5, 2) := z_dk tdX3_letterCode_0 18 rfl
theorem dX3_letterCode_41 : decode cX3_letterCode 41 = .ok (.invokevirtual 98, 3) := z_dk tdX3_letterCode_0 19 rfl
theorem dX3_letterCode_44 : decode cX3_letterCode 44 = .ok (.istore 6, 2) := z_dk tdX3_letterCode_0 20 rfl
theorem dX3_letterCode_46 : decode cX3_letterCode 46 = .ok (.aload_n 0, 1) := z_dk tdX3_letterCode_0 21 rfl
theorem dX3_letterCode_47 : decode cX3_letterCode 47 = .ok (.getfield 47, 3) := z_dk tdX3_letterCode_0 22 rfl
theorem dX3_letterCode_50 : decode cX3_letterCode 50 = .ok (.iload_n 2, 1) := z_dk tdX3_letterCode_0 23 rfl
theorem tdX3_letterCode_51 : (([(51, .iload 6, 2), (53, .invokevirtual 182, 3), (56, .istore 7, 2), (58, .iload 4, 2), (60, .iload 7, 2), (62, .if_icmp .ge 16, 3), (65, .aload_n 0, 1), (66, .getfield 47, 3), (69, .iload_n 2, 1), (70, .iload 6, 2), (72, .iload 4, 2), (74, .invokevirtual 187, 3), (77, .ireturn, 1), (78, .iload 4, 2), (80, .iload 7, 2), (82, .isub, 1), (83, .istore 4, 2), (85, .iinc 5 1, 3), (88, .goto (-72), 3), (91, .iconst (-1), 1), (92, .ireturn, 1)] : List (Nat × Instr × Nat)).all fun e => decide (decode cX3_letterCode e.1 = .ok e.2)) = true := by decide +kernel
theorem dX3_letterCode_51 : decode cX3_letterCode 51 = .ok (.iload 6, 2) := z_dk tdX3_letterCode_51 0 rfl
theorem dX3_letterCode_53 : decode cX3_letterCode 53 = .ok (.invokevirtual 182, 3) := z_dk tdX3_letterCode_51 1 rfl
theorem dX3_letterCode_56 : decode cX3_letterCode 56 = .ok (.istore 7, 2) := z_dk tdX3_letterCode_51 2 rfl
theorem dX3_letterCode_58 : decode cX3_letterCode 58 = .ok (.iload 4, 2) := z_dk tdX3_letterCode_51 3 rfl
theorem dX3_letterCode_60 : decode cX3_letterCode 60 = .ok (.iload 7, 2) := z_dk tdX3_letterCode_51 4 rfl
theorem dX3_letterCode_62 : decode cX3_letterCode 62 = .ok (.if_icmp .ge 16, 3) := z_dk tdX3_letterCode_51 5 rfl
theorem dX3_letterCode_65 : decode cX3_letterCode 65 = .ok (.aload_n 0, 1) := z_dk tdX3_letterCode_51 6 rfl
theorem dX3_letterCode_66 : decode cX3_letterCode 66 = .ok (.getfield 47, 3) := z_dk tdX3_letterCode_51 7 rfl
theorem dX3_letterCode_69 : decode cX3_letterCode 69 = .ok (.iload_n 2, 1) := z_dk tdX3_letterCode_51 8 rfl
theorem dX3_letterCode_70 : decode cX3_letterCode 70 = .ok (.iload 6, 2) := z_dk tdX3_letterCode_51 9 rfl
theorem dX3_letterCode_72 : decode cX3_letterCode 72 = .ok (.iload 4, 2) := z_dk tdX3_letterCode_51 10 rfl
theorem dX3_letterCode_74 : decode cX3_letterCode 74 = .ok (.invokevirtual 187, 3) := z_dk tdX3_letterCode_51 11 rfl
theorem dX3_letterCode_77 : decode cX3_letterCode 77 = .ok (.ireturn, 1) := z_dk tdX3_letterCode_51 12 rfl
theorem dX3_letterCode_78 : decode cX3_letterCode 78 = .ok (.iload 4, 2) := z_dk tdX3_letterCode_51 13 rfl
theorem dX3_letterCode_80 : decode cX3_letterCode 80 = .ok (.iload 7, 2) := z_dk tdX3_letterCode_51 14 rfl
theorem dX3_letterCode_82 : decode cX3_letterCode 82 = .ok (.isub, 1) := z_dk tdX3_letterCode_51 15 rfl
theorem dX3_letterCode_83 : decode cX3_letterCode 83 = .ok (.istore 4, 2) := z_dk tdX3_letterCode_51 16 rfl
theorem dX3_letterCode_85 : decode cX3_letterCode 85 = .ok (.iinc 5 1, 3) := z_dk tdX3_letterCode_51 17 rfl
theorem dX3_letterCode_88 : decode cX3_letterCode 88 = .ok (.goto (-72), 3) := z_dk tdX3_letterCode_51 18 rfl
theorem dX3_letterCode_91 : decode cX3_letterCode 91 = .ok (.iconst (-1), 1) := z_dk tdX3_letterCode_51 19 rfl
theorem dX3_letterCode_92 : decode cX3_letterCode 92 = .ok (.ireturn, 1) := z_dk tdX3_letterCode_51 20 rfl
theorem tdX3_letterPlace_0 : (([(0, .aload_n 0, 1), (1, .getfield 71, 3), (4, .iload_n 1, 1), (5, .iload_n 2, 1), (6, .invokevirtual 191, 3), (9, .istore 4, 2), (11, .aload_n 0, 1), (12, .getfield 71, 3), (15, .getfield 194, 3), (18, .iload_n 1, 1), (19, .invokevirtual 98, 3), (22, .istore 5, 2), (24, .aload_n 0, 1), (25, .getfield 20, 3), (28, .aload_n 0, 1), (29, .getfield 71, 3), (32, .getfield 148, 3), (35, .iload_n 1, 1), (36, .invokevirtual 98, 3), (39, .invokevirtual 98, 3), (42, .istore 6, 2), (44, .bipush 6, 2), (46, .iload 4, 2), (48, .imul, 1)] : List (Nat × Instr × Nat)).all fun e => decide (decode cX3_letterPlace e.1 = .ok e.2)) = true := by decide +kernel
theorem dX3_letterPlace_0 : decode cX3_letterPlace 0 = .ok (.aload_n 0, 1) := z_dk tdX3_letterPlace_0 0 rfl
theorem dX3_letterPlace_1 : decode cX3_letterPlace 1 = .ok (.getfield 71, 3) := z_dk tdX3_letterPlace_0 1 rfl
theorem dX3_letterPlace_4 : decode cX3_letterPlace 4 = .ok (.iload_n 1, 1) := z_dk tdX3_letterPlace_0 2 rfl
theorem dX3_letterPlace_5 : decode cX3_letterPlace 5 = .ok (.iload_n 2, 1) := z_dk tdX3_letterPlace_0 3 rfl
theorem dX3_letterPlace_6 : decode cX3_letterPlace 6 = .ok (.invokevirtual 191, 3) := z_dk tdX3_letterPlace_0 4 rfl
theorem dX3_letterPlace_9 : decode cX3_letterPlace 9 = .ok (.istore 4, 2) := z_dk tdX3_letterPlace_0 5 rfl
theorem dX3_letterPlace_11 : decode cX3_letterPlace 11 = .ok (.aload_n 0, 1) := z_dk tdX3_letterPlace_0 6 rfl
theorem dX3_letterPlace_12 : decode cX3_letterPlace 12 = .ok (.getfield 71, 3) := z_dk tdX3_letterPlace_0 7 rfl
theorem dX3_letterPlace_15 : decode cX3_letterPlace 15 = .ok (.getfield 194, 3) := z_dk tdX3_letterPlace_0 8 rfl
theorem dX3_letterPlace_18 : decode cX3_letterPlace 18 = .ok (.iload_n 1, 1) := z_dk tdX3_letterPlace_0 9 rfl
theorem dX3_letterPlace_19 : decode cX3_letterPlace 19 = .ok (.invokevirtual 98, 3) := z_dk tdX3_letterPlace_0 10 rfl
theorem dX3_letterPlace_22 : decode cX3_letterPlace 22 = .ok (.istore 5, 2) := z_dk tdX3_letterPlace_0 11 rfl
theorem dX3_letterPlace_24 : decode cX3_letterPlace 24 = .ok (.aload_n 0, 1) := z_dk tdX3_letterPlace_0 12 rfl
theorem dX3_letterPlace_25 : decode cX3_letterPlace 25 = .ok (.getfield 20, 3) := z_dk tdX3_letterPlace_0 13 rfl
theorem dX3_letterPlace_28 : decode cX3_letterPlace 28 = .ok (.aload_n 0, 1) := z_dk tdX3_letterPlace_0 14 rfl
theorem dX3_letterPlace_29 : decode cX3_letterPlace 29 = .ok (.getfield 71, 3) := z_dk tdX3_letterPlace_0 15 rfl
theorem dX3_letterPlace_32 : decode cX3_letterPlace 32 = .ok (.getfield 148, 3) := z_dk tdX3_letterPlace_0 16 rfl
theorem dX3_letterPlace_35 : decode cX3_letterPlace 35 = .ok (.iload_n 1, 1) := z_dk tdX3_letterPlace_0 17 rfl
theorem dX3_letterPlace_36 : decode cX3_letterPlace 36 = .ok (.invokevirtual 98, 3) := z_dk tdX3_letterPlace_0 18 rfl
theorem dX3_letterPlace_39 : decode cX3_letterPlace 39 = .ok (.invokevirtual 98, 3) := z_dk tdX3_letterPlace_0 19 rfl
theorem dX3_letterPlace_42 : decode cX3_letterPlace 42 = .ok (.istore 6, 2) := z_dk tdX3_letterPlace_0 20 rfl
theorem dX3_letterPlace_44 : decode cX3_letterPlace 44 = .ok (.bipush 6, 2) := z_dk tdX3_letterPlace_0 21 rfl
theorem dX3_letterPlace_46 : decode cX3_letterPlace 46 = .ok (.iload 4, 2) := z_dk tdX3_letterPlace_0 22 rfl
theorem dX3_letterPlace_48 : decode cX3_letterPlace 48 = .ok (.imul, 1) := z_dk tdX3_letterPlace_0 23 rfl
theorem tdX3_letterPlace_49 : (([(49, .iload 5, 2), (51, .if_icmp .le 22, 3), (54, .iload 6, 2), (56, .bipush 6, 2), (58, .iload 4, 2), (60, .imul, 1), (61, .iload 5, 2), (63, .isub, 1), (64, .iconst 2, 1), (65, .idiv, 1), (66, .isub, 1), (67, .bipush 6, 2), (69, .iload_n 3, 1), (70, .imul, 1), (71, .iadd, 1), (72, .ireturn, 1), (73, .iload 4, 2), (75, .ifCond .le 24, 3), (78, .iload 6, 2), (80, .iload 5, 2), (82, .iconst 2, 1), (83, .iload_n 3, 1), (84, .imul, 1), (85, .iconst 1, 1)] : List (Nat × Instr × Nat)).all fun e => decide (decode cX3_letterPlace e.1 = .ok e.2)) = true := by decide +kernel
theorem dX3_letterPlace_49 : decode cX3_letterPlace 49 = .ok (.iload 5, 2) := z_dk tdX3_letterPlace_49 0 rfl
theorem dX3_letterPlace_51 : decode cX3_letterPlace 51 = .ok (.if_icmp .le 22, 3) := z_dk tdX3_letterPlace_49 1 rfl
theorem dX3_letterPlace_54 : decode cX3_letterPlace 54 = .ok (.iload 6, 2) := z_dk tdX3_letterPlace_49 2 rfl
theorem dX3_letterPlace_56 : decode cX3_letterPlace 56 = .ok (.bipush 6, 2) := z_dk tdX3_letterPlace_49 3 rfl
theorem dX3_letterPlace_58 : decode cX3_letterPlace 58 = .ok (.iload 4, 2) := z_dk tdX3_letterPlace_49 4 rfl
theorem dX3_letterPlace_60 : decode cX3_letterPlace 60 = .ok (.imul, 1) := z_dk tdX3_letterPlace_49 5 rfl
theorem dX3_letterPlace_61 : decode cX3_letterPlace 61 = .ok (.iload 5, 2) := z_dk tdX3_letterPlace_49 6 rfl
theorem dX3_letterPlace_63 : decode cX3_letterPlace 63 = .ok (.isub, 1) := z_dk tdX3_letterPlace_49 7 rfl
theorem dX3_letterPlace_64 : decode cX3_letterPlace 64 = .ok (.iconst 2, 1) := z_dk tdX3_letterPlace_49 8 rfl
theorem dX3_letterPlace_65 : decode cX3_letterPlace 65 = .ok (.idiv, 1) := z_dk tdX3_letterPlace_49 9 rfl
theorem dX3_letterPlace_66 : decode cX3_letterPlace 66 = .ok (.isub, 1) := z_dk tdX3_letterPlace_49 10 rfl
theorem dX3_letterPlace_67 : decode cX3_letterPlace 67 = .ok (.bipush 6, 2) := z_dk tdX3_letterPlace_49 11 rfl
theorem dX3_letterPlace_69 : decode cX3_letterPlace 69 = .ok (.iload_n 3, 1) := z_dk tdX3_letterPlace_49 12 rfl
theorem dX3_letterPlace_70 : decode cX3_letterPlace 70 = .ok (.imul, 1) := z_dk tdX3_letterPlace_49 13 rfl
theorem dX3_letterPlace_71 : decode cX3_letterPlace 71 = .ok (.iadd, 1) := z_dk tdX3_letterPlace_49 14 rfl
theorem dX3_letterPlace_72 : decode cX3_letterPlace 72 = .ok (.ireturn, 1) := z_dk tdX3_letterPlace_49 15 rfl
theorem dX3_letterPlace_73 : decode cX3_letterPlace 73 = .ok (.iload 4, 2) := z_dk tdX3_letterPlace_49 16 rfl
theorem dX3_letterPlace_75 : decode cX3_letterPlace 75 = .ok (.ifCond .le 24, 3) := z_dk tdX3_letterPlace_49 17 rfl
theorem dX3_letterPlace_78 : decode cX3_letterPlace 78 = .ok (.iload 6, 2) := z_dk tdX3_letterPlace_49 18 rfl
theorem dX3_letterPlace_80 : decode cX3_letterPlace 80 = .ok (.iload 5, 2) := z_dk tdX3_letterPlace_49 19 rfl
theorem dX3_letterPlace_82 : decode cX3_letterPlace 82 = .ok (.iconst 2, 1) := z_dk tdX3_letterPlace_49 20 rfl
theorem dX3_letterPlace_83 : decode cX3_letterPlace 83 = .ok (.iload_n 3, 1) := z_dk tdX3_letterPlace_49 21 rfl
theorem dX3_letterPlace_84 : decode cX3_letterPlace 84 = .ok (.imul, 1) := z_dk tdX3_letterPlace_49 22 rfl
theorem dX3_letterPlace_85 : decode cX3_letterPlace 85 = .ok (.iconst 1, 1) := z_dk tdX3_letterPlace_49 23 rfl
theorem tdX3_letterPlace_86 : (([(86, .iadd, 1), (87, .imul, 1), (88, .iconst 2, 1), (89, .iload 4, 2), (91, .imul, 1), (92, .idiv, 1), (93, .iadd, 1), (94, .iconst 3, 1), (95, .isub, 1), (96, .goto 5, 3), (99, .iload 6, 2), (101, .ireturn, 1)] : List (Nat × Instr × Nat)).all fun e => decide (decode cX3_letterPlace e.1 = .ok e.2)) = true := by decide +kernel
theorem dX3_letterPlace_86 : decode cX3_letterPlace 86 = .ok (.iadd, 1) := z_dk tdX3_letterPlace_86 0 rfl
theorem dX3_letterPlace_87 : decode cX3_letterPlace 87 = .ok (.imul, 1) := z_dk tdX3_letterPlace_86 1 rfl
theorem dX3_letterPlace_88 : decode cX3_letterPlace 88 = .ok (.iconst 2, 1) := z_dk tdX3_letterPlace_86 2 rfl
theorem dX3_letterPlace_89 : decode cX3_letterPlace 89 = .ok (.iload 4, 2) := z_dk tdX3_letterPlace_86 3 rfl
theorem dX3_letterPlace_91 : decode cX3_letterPlace 91 = .ok (.imul, 1) := z_dk tdX3_letterPlace_86 4 rfl
theorem dX3_letterPlace_92 : decode cX3_letterPlace 92 = .ok (.idiv, 1) := z_dk tdX3_letterPlace_86 5 rfl
theorem dX3_letterPlace_93 : decode cX3_letterPlace 93 = .ok (.iadd, 1) := z_dk tdX3_letterPlace_86 6 rfl
theorem dX3_letterPlace_94 : decode cX3_letterPlace 94 = .ok (.iconst 3, 1) := z_dk tdX3_letterPlace_86 7 rfl
theorem dX3_letterPlace_95 : decode cX3_letterPlace 95 = .ok (.isub, 1) := z_dk tdX3_letterPlace_86 8 rfl
theorem dX3_letterPlace_96 : decode cX3_letterPlace 96 = .ok (.goto 5, 3) := z_dk tdX3_letterPlace_86 9 rfl
theorem dX3_letterPlace_99 : decode cX3_letterPlace 99 = .ok (.iload 6, 2) := z_dk tdX3_letterPlace_86 10 rfl
theorem dX3_letterPlace_101 : decode cX3_letterPlace 101 = .ok (.ireturn, 1) := z_dk tdX3_letterPlace_86 11 rfl
theorem tdX3_nearestOn_0 : (([(0, .ldc 197, 2), (2, .istore_n 3, 1), (3, .ldc 197, 2), (5, .istore 4, 2), (7, .aload_n 0, 1), (8, .getfield 44, 3), (11, .iload_n 1, 1), (12, .invokevirtual 98, 3), (15, .istore 5, 2), (17, .iload 5, 2), (19, .aload_n 0, 1), (20, .getfield 44, 3), (23, .iload_n 1, 1), (24, .iconst 1, 1), (25, .iadd, 1), (26, .invokevirtual 98, 3), (29, .if_icmp .ge 65, 3), (32, .aload_n 0, 1), (33, .getfield 71, 3), (36, .iload 5, 2), (38, .iload_n 2, 1), (39, .invokevirtual 191, 3), (42, .istore 6, 2), (44, .iload 6, 2)] : List (Nat × Instr × Nat)).all fun e => decide (decode cX3_nearestOn e.1 = .ok e.2)) = true := by decide +kernel
theorem dX3_nearestOn_0 : decode cX3_nearestOn 0 = .ok (.ldc 197, 2) := z_dk tdX3_nearestOn_0 0 rfl
theorem dX3_nearestOn_2 : decode cX3_nearestOn 2 = .ok (.istore_n 3, 1) := z_dk tdX3_nearestOn_0 1 rfl
theorem dX3_nearestOn_3 : decode cX3_nearestOn 3 = .ok (.ldc 197, 2) := z_dk tdX3_nearestOn_0 2 rfl
theorem dX3_nearestOn_5 : decode cX3_nearestOn 5 = .ok (.istore 4, 2) := z_dk tdX3_nearestOn_0 3 rfl
theorem dX3_nearestOn_7 : decode cX3_nearestOn 7 = .ok (.aload_n 0, 1) := z_dk tdX3_nearestOn_0 4 rfl
theorem dX3_nearestOn_8 : decode cX3_nearestOn 8 = .ok (.getfield 44, 3) := z_dk tdX3_nearestOn_0 5 rfl
theorem dX3_nearestOn_11 : decode cX3_nearestOn 11 = .ok (.iload_n 1, 1) := z_dk tdX3_nearestOn_0 6 rfl
theorem dX3_nearestOn_12 : decode cX3_nearestOn 12 = .ok (.invokevirtual 98, 3) := z_dk tdX3_nearestOn_0 7 rfl
theorem dX3_nearestOn_15 : decode cX3_nearestOn 15 = .ok (.istore 5, 2) := z_dk tdX3_nearestOn_0 8 rfl
theorem dX3_nearestOn_17 : decode cX3_nearestOn 17 = .ok (.iload 5, 2) := z_dk tdX3_nearestOn_0 9 rfl
theorem dX3_nearestOn_19 : decode cX3_nearestOn 19 = .ok (.aload_n 0, 1) := z_dk tdX3_nearestOn_0 10 rfl
theorem dX3_nearestOn_20 : decode cX3_nearestOn 20 = .ok (.getfield 44, 3) := z_dk tdX3_nearestOn_0 11 rfl
theorem dX3_nearestOn_23 : decode cX3_nearestOn 23 = .ok (.iload_n 1, 1) := z_dk tdX3_nearestOn_0 12 rfl
theorem dX3_nearestOn_24 : decode cX3_nearestOn 24 = .ok (.iconst 1, 1) := z_dk tdX3_nearestOn_0 13 rfl
theorem dX3_nearestOn_25 : decode cX3_nearestOn 25 = .ok (.iadd, 1) := z_dk tdX3_nearestOn_0 14 rfl
theorem dX3_nearestOn_26 : decode cX3_nearestOn 26 = .ok (.invokevirtual 98, 3) := z_dk tdX3_nearestOn_0 15 rfl
theorem dX3_nearestOn_29 : decode cX3_nearestOn 29 = .ok (.if_icmp .ge 65, 3) := z_dk tdX3_nearestOn_0 16 rfl
theorem dX3_nearestOn_32 : decode cX3_nearestOn 32 = .ok (.aload_n 0, 1) := z_dk tdX3_nearestOn_0 17 rfl
theorem dX3_nearestOn_33 : decode cX3_nearestOn 33 = .ok (.getfield 71, 3) := z_dk tdX3_nearestOn_0 18 rfl
theorem dX3_nearestOn_36 : decode cX3_nearestOn 36 = .ok (.iload 5, 2) := z_dk tdX3_nearestOn_0 19 rfl
theorem dX3_nearestOn_38 : decode cX3_nearestOn 38 = .ok (.iload_n 2, 1) := z_dk tdX3_nearestOn_0 20 rfl
theorem dX3_nearestOn_39 : decode cX3_nearestOn 39 = .ok (.invokevirtual 191, 3) := z_dk tdX3_nearestOn_0 21 rfl
theorem dX3_nearestOn_42 : decode cX3_nearestOn 42 = .ok (.istore 6, 2) := z_dk tdX3_nearestOn_0 22 rfl
theorem dX3_nearestOn_44 : decode cX3_nearestOn 44 = .ok (.iload 6, 2) := z_dk tdX3_nearestOn_0 23 rfl
theorem tdX3_nearestOn_46 : (([(46, .ifCond .le 42, 3), (49, .iload 4, 2), (51, .ldc 197, 2), (53, .if_icmp .eq 19, 3), (56, .iload_n 3, 1), (57, .aload_n 0, 1), (58, .iload 5, 2), (60, .iload_n 2, 1), (61, .iconst 0, 1), (62, .invokevirtual 198, 3), (65, .iload 4, 2), (67, .isub, 1), (68, .invokestatic 201, 3), (71, .istore_n 3, 1), (72, .aload_n 0, 1), (73, .iload 5, 2), (75, .iload_n 2, 1), (76, .iload 6, 2), (78, .iconst 1, 1), (79, .isub, 1), (80, .invokevirtual 198, 3), (83, .bipush 6, 2), (85, .iadd, 1), (86, .istore 4, 2)] : List (Nat × Instr × Nat)).all fun e => decide (decode cX3_nearestOn e.1 = .ok e.2)) = true := by decide +kernel
theorem dX3_nearestOn_46 : decode cX3_nearestOn 46 = .ok (.ifCond .le 42, 3) := z_dk tdX3_nearestOn_46 0 rfl
theorem dX3_nearestOn_49 : decode cX3_nearestOn 49 = .ok (.iload 4, 2) := z_dk tdX3_nearestOn_46 1 rfl
theorem dX3_nearestOn_51 : decode cX3_nearestOn 51 = .ok (.ldc 197, 2) := z_dk tdX3_nearestOn_46 2 rfl
theorem dX3_nearestOn_53 : decode cX3_nearestOn 53 = .ok (.if_icmp .eq 19, 3) := z_dk tdX3_nearestOn_46 3 rfl
theorem dX3_nearestOn_56 : decode cX3_nearestOn 56 = .ok (.iload_n 3, 1) := z_dk tdX3_nearestOn_46 4 rfl
theorem dX3_nearestOn_57 : decode cX3_nearestOn 57 = .ok (.aload_n 0, 1) := z_dk tdX3_nearestOn_46 5 rfl
theorem dX3_nearestOn_58 : decode cX3_nearestOn 58 = .ok (.iload 5, 2) := z_dk tdX3_nearestOn_46 6 rfl
theorem dX3_nearestOn_60 : decode cX3_nearestOn 60 = .ok (.iload_n 2, 1) := z_dk tdX3_nearestOn_46 7 rfl
theorem dX3_nearestOn_61 : decode cX3_nearestOn 61 = .ok (.iconst 0, 1) := z_dk tdX3_nearestOn_46 8 rfl
theorem dX3_nearestOn_62 : decode cX3_nearestOn 62 = .ok (.invokevirtual 198, 3) := z_dk tdX3_nearestOn_46 9 rfl
theorem dX3_nearestOn_65 : decode cX3_nearestOn 65 = .ok (.iload 4, 2) := z_dk tdX3_nearestOn_46 10 rfl
theorem dX3_nearestOn_67 : decode cX3_nearestOn 67 = .ok (.isub, 1) := z_dk tdX3_nearestOn_46 11 rfl
theorem dX3_nearestOn_68 : decode cX3_nearestOn 68 = .ok (.invokestatic 201, 3) := z_dk tdX3_nearestOn_46 12 rfl
theorem dX3_nearestOn_71 : decode cX3_nearestOn 71 = .ok (.istore_n 3, 1) := z_dk tdX3_nearestOn_46 13 rfl
theorem dX3_nearestOn_72 : decode cX3_nearestOn 72 = .ok (.aload_n 0, 1) := z_dk tdX3_nearestOn_46 14 rfl
theorem dX3_nearestOn_73 : decode cX3_nearestOn 73 = .ok (.iload 5, 2) := z_dk tdX3_nearestOn_46 15 rfl
theorem dX3_nearestOn_75 : decode cX3_nearestOn 75 = .ok (.iload_n 2, 1) := z_dk tdX3_nearestOn_46 16 rfl
theorem dX3_nearestOn_76 : decode cX3_nearestOn 76 = .ok (.iload 6, 2) := z_dk tdX3_nearestOn_46 17 rfl
theorem dX3_nearestOn_78 : decode cX3_nearestOn 78 = .ok (.iconst 1, 1) := z_dk tdX3_nearestOn_46 18 rfl
theorem dX3_nearestOn_79 : decode cX3_nearestOn 79 = .ok (.isub, 1) := z_dk tdX3_nearestOn_46 19 rfl
theorem dX3_nearestOn_80 : decode cX3_nearestOn 80 = .ok (.invokevirtual 198, 3) := z_dk tdX3_nearestOn_46 20 rfl
theorem dX3_nearestOn_83 : decode cX3_nearestOn 83 = .ok (.bipush 6, 2) := z_dk tdX3_nearestOn_46 21 rfl
theorem dX3_nearestOn_85 : decode cX3_nearestOn 85 = .ok (.iadd, 1) := z_dk tdX3_nearestOn_46 22 rfl
theorem dX3_nearestOn_86 : decode cX3_nearestOn 86 = .ok (.istore 4, 2) := z_dk tdX3_nearestOn_46 23 rfl
theorem tdX3_nearestOn_88 : (([(88, .iinc 5 1, 3), (91, .goto (-74), 3), (94, .iload_n 3, 1), (95, .ireturn, 1)] : List (Nat × Instr × Nat)).all fun e => decide (decode cX3_nearestOn e.1 = .ok e.2)) = true := by decide +kernel
theorem dX3_nearestOn_88 : decode cX3_nearestOn 88 = .ok (.iinc 5 1, 3) := z_dk tdX3_nearestOn_88 0 rfl
theorem dX3_nearestOn_91 : decode cX3_nearestOn 91 = .ok (.goto (-74), 3) := z_dk tdX3_nearestOn_88 1 rfl
theorem dX3_nearestOn_94 : decode cX3_nearestOn 94 = .ok (.iload_n 3, 1) := z_dk tdX3_nearestOn_88 2 rfl
theorem dX3_nearestOn_95 : decode cX3_nearestOn 95 = .ok (.ireturn, 1) := z_dk tdX3_nearestOn_88 3 rfl
theorem tdX3_lettersBeside_0 : (([(0, .iconst 0, 1), (1, .istore_n 3, 1), (2, .aload_n 0, 1), (3, .getfield 44, 3), (6, .iload_n 1, 1), (7, .invokevirtual 98, 3), (10, .istore 4, 2), (12, .iload 4, 2), (14, .aload_n 0, 1), (15, .getfield 44, 3), (18, .iload_n 1, 1), (19, .iconst 1, 1), (20, .iadd, 1), (21, .invokevirtual 98, 3), (24, .if_icmp .ge 22, 3), (27, .iload_n 3, 1), (28, .aload_n 0, 1), (29, .getfield 71, 3), (32, .iload 4, 2), (34, .iload_n 2, 1), (35, .invokevirtual 191, 3), (38, .iadd, 1), (39, .istore_n 3, 1), (40, .iinc 4 1, 3)] : List (Nat × Instr × Nat)).all fun e => decide (decode cX3_lettersBeside e.1 = .ok e.2)) = true := by decide +kernel
theorem dX3_lettersBeside_0 : decode cX3_lettersBeside 0 = .ok (.iconst 0, 1) := z_dk tdX3_lettersBeside_0 0 rfl
theorem dX3_lettersBeside_1 : decode cX3_lettersBeside 1 = .ok (.istore_n 3, 1) := z_dk tdX3_lettersBeside_0 1 rfl
theorem dX3_lettersBeside_2 : decode cX3_lettersBeside 2 = .ok (.aload_n 0, 1) := z_dk tdX3_lettersBeside_0 2 rfl
theorem dX3_lettersBeside_3 : decode cX3_lettersBeside 3 = .ok (.getfield 44, 3) := z_dk tdX3_lettersBeside_0 3 rfl
theorem dX3_lettersBeside_6 : decode cX3_lettersBeside 6 = .ok (.iload_n 1, 1) := z_dk tdX3_lettersBeside_0 4 rfl
theorem dX3_lettersBeside_7 : decode cX3_lettersBeside 7 = .ok (.invokevirtual 98, 3) := z_dk tdX3_lettersBeside_0 5 rfl
theorem dX3_lettersBeside_10 : decode cX3_lettersBeside 10 = .ok (.istore 4, 2) := z_dk tdX3_lettersBeside_0 6 rfl
theorem dX3_lettersBeside_12 : decode cX3_lettersBeside 12 = .ok (.iload 4, 2) := z_dk tdX3_lettersBeside_0 7 rfl
theorem dX3_lettersBeside_14 : decode cX3_lettersBeside 14 = .ok (.aload_n 0, 1) := z_dk tdX3_lettersBeside_0 8 rfl
theorem dX3_lettersBeside_15 : decode cX3_lettersBeside 15 = .ok (.getfield 44, 3) := z_dk tdX3_lettersBeside_0 9 rfl
theorem dX3_lettersBeside_18 : decode cX3_lettersBeside 18 = .ok (.iload_n 1, 1) := z_dk tdX3_lettersBeside_0 10 rfl
theorem dX3_lettersBeside_19 : decode cX3_lettersBeside 19 = .ok (.iconst 1, 1) := z_dk tdX3_lettersBeside_0 11 rfl
theorem dX3_lettersBeside_20 : decode cX3_lettersBeside 20 = .ok (.iadd, 1) := z_dk tdX3_lettersBeside_0 12 rfl
theorem dX3_lettersBeside_21 : decode cX3_lettersBeside 21 = .ok (.invokevirtual 98, 3) := z_dk tdX3_lettersBeside_0 13 rfl
theorem dX3_lettersBeside_24 : decode cX3_lettersBeside 24 = .ok (.if_icmp .ge 22, 3) := z_dk tdX3_lettersBeside_0 14 rfl
theorem dX3_lettersBeside_27 : decode cX3_lettersBeside 27 = .ok (.iload_n 3, 1) := z_dk tdX3_lettersBeside_0 15 rfl
theorem dX3_lettersBeside_28 : decode cX3_lettersBeside 28 = .ok (.aload_n 0, 1) := z_dk tdX3_lettersBeside_0 16 rfl
theorem dX3_lettersBeside_29 : decode cX3_lettersBeside 29 = .ok (.getfield 71, 3) := z_dk tdX3_lettersBeside_0 17 rfl
theorem dX3_lettersBeside_32 : decode cX3_lettersBeside 32 = .ok (.iload 4, 2) := z_dk tdX3_lettersBeside_0 18 rfl
theorem dX3_lettersBeside_34 : decode cX3_lettersBeside 34 = .ok (.iload_n 2, 1) := z_dk tdX3_lettersBeside_0 19 rfl
theorem dX3_lettersBeside_35 : decode cX3_lettersBeside 35 = .ok (.invokevirtual 191, 3) := z_dk tdX3_lettersBeside_0 20 rfl
theorem dX3_lettersBeside_38 : decode cX3_lettersBeside 38 = .ok (.iadd, 1) := z_dk tdX3_lettersBeside_0 21 rfl
theorem dX3_lettersBeside_39 : decode cX3_lettersBeside 39 = .ok (.istore_n 3, 1) := z_dk tdX3_lettersBeside_0 22 rfl
theorem dX3_lettersBeside_40 : decode cX3_lettersBeside 40 = .ok (.iinc 4 1, 3) := z_dk tdX3_lettersBeside_0 23 rfl
theorem tdX3_lettersBeside_43 : (([(43, .goto (-31), 3), (46, .iload_n 3, 1), (47, .ireturn, 1)] : List (Nat × Instr × Nat)).all fun e => decide (decode cX3_lettersBeside e.1 = .ok e.2)) = true := by decide +kernel
theorem dX3_lettersBeside_43 : decode cX3_lettersBeside 43 = .ok (.goto (-31), 3) := z_dk tdX3_lettersBeside_43 0 rfl
theorem dX3_lettersBeside_46 : decode cX3_lettersBeside 46 = .ok (.iload_n 3, 1) := z_dk tdX3_lettersBeside_43 1 rfl
theorem dX3_lettersBeside_47 : decode cX3_lettersBeside 47 = .ok (.ireturn, 1) := z_dk tdX3_lettersBeside_43 2 rfl
theorem tdX3_firstSign_0 : (([(0, .aload_n 0, 1), (1, .getfield 59, 3), (4, .getfield 95, 3), (7, .iload_n 1, 1), (8, .invokevirtual 98, 3), (11, .istore_n 2, 1), (12, .iload_n 2, 1), (13, .aload_n 0, 1), (14, .getfield 51, 3), (17, .getfield 204, 3), (20, .if_icmp .ge 17, 3), (23, .aload_n 0, 1), (24, .getfield 51, 3), (27, .getfield 170, 3), (30, .iload_n 2, 1), (31, .invokevirtual 98, 3), (34, .goto 10, 3), (37, .aload_n 0, 1), (38, .getfield 47, 3), (41, .getfield 205, 3), (44, .ireturn, 1)] : List (Nat × Instr × Nat)).all fun e => decide (decode cX3_firstSign e.1 = .ok e.2)) = true := by decide +kernel
theorem dX3_firstSign_0 : decode cX3_firstSign 0 = .ok (.aload_n 0, 1) := z_dk tdX3_firstSign_0 0 rfl
theorem dX3_firstSign_1 : decode cX3_firstSign 1 = .ok (.getfield 59, 3) := z_dk tdX3_firstSign_0 1 rfl
theorem dX3_firstSign_4 : decode cX3_firstSign 4 = .ok (.getfield 95, 3) := z_dk tdX3_firstSign_0 2 rfl
theorem dX3_firstSign_7 : decode cX3_firstSign 7 = .ok (.iload_n 1, 1) := z_dk tdX3_firstSign_0 3 rfl
theorem dX3_firstSign_8 : decode cX3_firstSign 8 = .ok (.invokevirtual 98, 3) := z_dk tdX3_firstSign_0 4 rfl
theorem dX3_firstSign_11 : decode cX3_firstSign 11 = .ok (.istore_n 2, 1) := z_dk tdX3_firstSign_0 5 rfl
theorem dX3_firstSign_12 : decode cX3_firstSign 12 = .ok (.iload_n 2, 1) := z_dk tdX3_firstSign_0 6 rfl
theorem dX3_firstSign_13 : decode cX3_firstSign 13 = .ok (.aload_n 0, 1) := z_dk tdX3_firstSign_0 7 rfl
theorem dX3_firstSign_14 : decode cX3_firstSign 14 = .ok (.getfield 51, 3) := z_dk tdX3_firstSign_0 8 rfl
theorem dX3_firstSign_17 : decode cX3_firstSign 17 = .ok (.getfield 204, 3) := z_dk tdX3_firstSign_0 9 rfl
theorem dX3_firstSign_20 : decode cX3_firstSign 20 = .ok (.if_icmp .ge 17, 3) := z_dk tdX3_firstSign_0 10 rfl
theorem dX3_firstSign_23 : decode cX3_firstSign 23 = .ok (.aload_n 0, 1) := z_dk tdX3_firstSign_0 11 rfl
theorem dX3_firstSign_24 : decode cX3_firstSign 24 = .ok (.getfield 51, 3) := z_dk tdX3_firstSign_0 12 rfl
theorem dX3_firstSign_27 : decode cX3_firstSign 27 = .ok (.getfield 170, 3) := z_dk tdX3_firstSign_0 13 rfl
theorem dX3_firstSign_30 : decode cX3_firstSign 30 = .ok (.iload_n 2, 1) := z_dk tdX3_firstSign_0 14 rfl
theorem dX3_firstSign_31 : decode cX3_firstSign 31 = .ok (.invokevirtual 98, 3) := z_dk tdX3_firstSign_0 15 rfl
theorem dX3_firstSign_34 : decode cX3_firstSign 34 = .ok (.goto 10, 3) := z_dk tdX3_firstSign_0 16 rfl
theorem dX3_firstSign_37 : decode cX3_firstSign 37 = .ok (.aload_n 0, 1) := z_dk tdX3_firstSign_0 17 rfl
theorem dX3_firstSign_38 : decode cX3_firstSign 38 = .ok (.getfield 47, 3) := z_dk tdX3_firstSign_0 18 rfl
theorem dX3_firstSign_41 : decode cX3_firstSign 41 = .ok (.getfield 205, 3) := z_dk tdX3_firstSign_0 19 rfl
theorem dX3_firstSign_44 : decode cX3_firstSign 44 = .ok (.ireturn, 1) := z_dk tdX3_firstSign_0 20 rfl
theorem tdX3_marksBeside_0 : (([(0, .aload_n 0, 1), (1, .getfield 51, 3), (4, .aload_n 0, 1), (5, .iload_n 1, 1), (6, .invokevirtual 206, 3), (9, .aload_n 0, 1), (10, .iload_n 1, 1), (11, .iconst 1, 1), (12, .iadd, 1), (13, .invokevirtual 206, 3), (16, .iconst 1, 1), (17, .isub, 1), (18, .iload_n 2, 1), (19, .invokevirtual 209, 3), (22, .ireturn, 1)] : List (Nat × Instr × Nat)).all fun e => decide (decode cX3_marksBeside e.1 = .ok e.2)) = true := by decide +kernel
theorem dX3_marksBeside_0 : decode cX3_marksBeside 0 = .ok (.aload_n 0, 1) := z_dk tdX3_marksBeside_0 0 rfl
theorem dX3_marksBeside_1 : decode cX3_marksBeside 1 = .ok (.getfield 51, 3) := z_dk tdX3_marksBeside_0 1 rfl
theorem dX3_marksBeside_4 : decode cX3_marksBeside 4 = .ok (.aload_n 0, 1) := z_dk tdX3_marksBeside_0 2 rfl
theorem dX3_marksBeside_5 : decode cX3_marksBeside 5 = .ok (.iload_n 1, 1) := z_dk tdX3_marksBeside_0 3 rfl
theorem dX3_marksBeside_6 : decode cX3_marksBeside 6 = .ok (.invokevirtual 206, 3) := z_dk tdX3_marksBeside_0 4 rfl
theorem dX3_marksBeside_9 : decode cX3_marksBeside 9 = .ok (.aload_n 0, 1) := z_dk tdX3_marksBeside_0 5 rfl
theorem dX3_marksBeside_10 : decode cX3_marksBeside 10 = .ok (.iload_n 1, 1) := z_dk tdX3_marksBeside_0 6 rfl
theorem dX3_marksBeside_11 : decode cX3_marksBeside 11 = .ok (.iconst 1, 1) := z_dk tdX3_marksBeside_0 7 rfl
theorem dX3_marksBeside_12 : decode cX3_marksBeside 12 = .ok (.iadd, 1) := z_dk tdX3_marksBeside_0 8 rfl
theorem dX3_marksBeside_13 : decode cX3_marksBeside 13 = .ok (.invokevirtual 206, 3) := z_dk tdX3_marksBeside_0 9 rfl
theorem dX3_marksBeside_16 : decode cX3_marksBeside 16 = .ok (.iconst 1, 1) := z_dk tdX3_marksBeside_0 10 rfl
theorem dX3_marksBeside_17 : decode cX3_marksBeside 17 = .ok (.isub, 1) := z_dk tdX3_marksBeside_0 11 rfl
theorem dX3_marksBeside_18 : decode cX3_marksBeside 18 = .ok (.iload_n 2, 1) := z_dk tdX3_marksBeside_0 12 rfl
theorem dX3_marksBeside_19 : decode cX3_marksBeside 19 = .ok (.invokevirtual 209, 3) := z_dk tdX3_marksBeside_0 13 rfl
theorem dX3_marksBeside_22 : decode cX3_marksBeside 22 = .ok (.ireturn, 1) := z_dk tdX3_marksBeside_0 14 rfl
theorem tdX3_lineCount_0 : (([(0, .aload_n 0, 1), (1, .getfield 59, 3), (4, .getfield 78, 3), (7, .ireturn, 1)] : List (Nat × Instr × Nat)).all fun e => decide (decode cX3_lineCount e.1 = .ok e.2)) = true := by decide +kernel
theorem dX3_lineCount_0 : decode cX3_lineCount 0 = .ok (.aload_n 0, 1) := z_dk tdX3_lineCount_0 0 rfl
theorem dX3_lineCount_1 : decode cX3_lineCount 1 = .ok (.getfield 59, 3) := z_dk tdX3_lineCount_0 1 rfl
theorem dX3_lineCount_4 : decode cX3_lineCount 4 = .ok (.getfield 78, 3) := z_dk tdX3_lineCount_0 2 rfl
theorem dX3_lineCount_7 : decode cX3_lineCount 7 = .ok (.ireturn, 1) := z_dk tdX3_lineCount_0 3 rfl
theorem tdX4_init_0 : (([(0, .aload_n 0, 1), (1, .invokespecial 1, 3), (4, .aload_n 0, 1), (5, .iload_n 1, 1), (6, .ifCond .le 7, 3), (9, .iload_n 1, 1), (10, .goto 4, 3), (13, .iconst 0, 1), (14, .newarray .long, 2), (16, .putfield 7, 3), (19, .return_, 1)] : List (Nat × Instr × Nat)).all fun e => decide (decode cX4_init e.1 = .ok e.2)) = true := by decide +kernel
theorem dX4_init_0 : decode cX4_init 0 = .ok (.aload_n 0, 1) := z_dk tdX4_init_0 0 rfl
theorem dX4_init_1 : decode cX4_init 1 = .ok (.invokespecial 1, 3) := z_dk tdX4_init_0 1 rfl
theorem dX4_init_4 : decode cX4_init 4 = .ok (.aload_n 0, 1) := z_dk tdX4_init_0 2 rfl
theorem dX4_init_5 : decode cX4_init 5 = .ok (.iload_n 1, 1) := z_dk tdX4_init_0 3 rfl
theorem dX4_init_6 : decode cX4_init 6 = .ok (.ifCond .le 7, 3) := z_dk tdX4_init_0 4 rfl
theorem dX4_init_9 : decode cX4_init 9 = .ok (.iload_n 1, 1) := z_dk tdX4_init_0 5 rfl
theorem dX4_init_10 : decode cX4_init 10 = .ok (.goto 4, 3) := z_dk tdX4_init_0 6 rfl
theorem dX4_init_13 : decode cX4_init 13 = .ok (.iconst 0, 1) := z_dk tdX4_init_0 7 rfl
theorem dX4_init_14 : decode cX4_init 14 = .ok (.newarray .long, 2) := z_dk tdX4_init_0 8 rfl
theorem dX4_init_16 : decode cX4_init 16 = .ok (.putfield 7, 3) := z_dk tdX4_init_0 9 rfl
theorem dX4_init_19 : decode cX4_init 19 = .ok (.return_, 1) := z_dk tdX4_init_0 10 rfl
theorem tdX4_get_0 : (([(0, .iload_n 1, 1), (1, .ifCond .lt 21, 3), (4, .iload_n 1, 1), (5, .aload_n 0, 1), (6, .getfield 7, 3), (9, .arraylength, 1), (10, .if_icmp .ge 12, 3), (13, .aload_n 0, 1), (14, .getfield 7, 3), (17, .iload_n 1, 1), (18, .laload, 1), (19, .goto 4, 3), (22, .lconst 0, 1), (23, .lreturn, 1)] : List (Nat × Instr × Nat)).all fun e => decide (decode cX4_get e.1 = .ok e.2)) = true := by decide +kernel
theorem dX4_get_0 : decode cX4_get 0 = .ok (.iload_n 1, 1) := z_dk tdX4_get_0 0 rfl
theorem dX4_get_1 : decode cX4_get 1 = .ok (.ifCond .lt 21, 3) := z_dk tdX4_get_0 1 rfl
theorem dX4_get_4 : decode cX4_get 4 = .ok (.iload_n 1, 1) := z_dk tdX4_get_0 2 rfl
theorem dX4_get_5 : decode cX4_get 5 = .ok (.aload_n 0, 1) := z_dk tdX4_get_0 3 rfl
theorem dX4_get_6 : decode cX4_get 6 = .ok (.getfield 7, 3) := z_dk tdX4_get_0 4 rfl
theorem dX4_get_9 : decode cX4_get 9 = .ok (.arraylength, 1) := z_dk tdX4_get_0 5 rfl
theorem dX4_get_10 : decode cX4_get 10 = .ok (.if_icmp .ge 12, 3) := z_dk tdX4_get_0 6 rfl
theorem dX4_get_13 : decode cX4_get 13 = .ok (.aload_n 0, 1) := z_dk tdX4_get_0 7 rfl
theorem dX4_get_14 : decode cX4_get 14 = .ok (.getfield 7, 3) := z_dk tdX4_get_0 8 rfl
theorem dX4_get_17 : decode cX4_get 17 = .ok (.iload_n 1, 1) := z_dk tdX4_get_0 9 rfl
theorem dX4_get_18 : decode cX4_get 18 = .ok (.laload, 1) := z_dk tdX4_get_0 10 rfl
theorem dX4_get_19 : decode cX4_get 19 = .ok (.goto 4, 3) := z_dk tdX4_get_0 11 rfl
theorem dX4_get_22 : decode cX4_get 22 = .ok (.lconst 0, 1) := z_dk tdX4_get_0 12 rfl
theorem dX4_get_23 : decode cX4_get 23 = .ok (.lreturn, 1) := z_dk tdX4_get_0 13 rfl
theorem tdX4_put_0 : (([(0, .iload_n 1, 1), (1, .ifCond .lt 19, 3), (4, .iload_n 1, 1), (5, .aload_n 0, 1), (6, .getfield 7, 3), (9, .arraylength, 1), (10, .if_icmp .ge 10, 3), (13, .aload_n 0, 1), (14, .getfield 7, 3), (17, .iload_n 1, 1), (18, .lload_n 2, 1), (19, .lastore, 1), (20, .return_, 1)] : List (Nat × Instr × Nat)).all fun e => decide (decode cX4_put e.1 = .ok e.2)) = true := by decide +kernel
theorem dX4_put_0 : decode cX4_put 0 = .ok (.iload_n 1, 1) := z_dk tdX4_put_0 0 rfl
theorem dX4_put_1 : decode cX4_put 1 = .ok (.ifCond .lt 19, 3) := z_dk tdX4_put_0 1 rfl
theorem dX4_put_4 : decode cX4_put 4 = .ok (.iload_n 1, 1) := z_dk tdX4_put_0 2 rfl
theorem dX4_put_5 : decode cX4_put 5 = .ok (.aload_n 0, 1) := z_dk tdX4_put_0 3 rfl
theorem dX4_put_6 : decode cX4_put 6 = .ok (.getfield 7, 3) := z_dk tdX4_put_0 4 rfl
theorem dX4_put_9 : decode cX4_put 9 = .ok (.arraylength, 1) := z_dk tdX4_put_0 5 rfl
theorem dX4_put_10 : decode cX4_put 10 = .ok (.if_icmp .ge 10, 3) := z_dk tdX4_put_0 6 rfl
theorem dX4_put_13 : decode cX4_put 13 = .ok (.aload_n 0, 1) := z_dk tdX4_put_0 7 rfl
theorem dX4_put_14 : decode cX4_put 14 = .ok (.getfield 7, 3) := z_dk tdX4_put_0 8 rfl
theorem dX4_put_17 : decode cX4_put 17 = .ok (.iload_n 1, 1) := z_dk tdX4_put_0 9 rfl
theorem dX4_put_18 : decode cX4_put 18 = .ok (.lload_n 2, 1) := z_dk tdX4_put_0 10 rfl
theorem dX4_put_19 : decode cX4_put 19 = .ok (.lastore, 1) := z_dk tdX4_put_0 11 rfl
theorem dX4_put_20 : decode cX4_put 20 = .ok (.return_, 1) := z_dk tdX4_put_0 12 rfl
theorem tdX4_copyFrom_0 : (([(0, .iconst 0, 1), (1, .istore_n 3, 1), (2, .iload_n 3, 1), (3, .iload_n 2, 1), (4, .if_icmp .ge 19, 3), (7, .aload_n 0, 1), (8, .iload_n 3, 1), (9, .aload_n 1, 1), (10, .iload_n 3, 1), (11, .invokevirtual 13, 3), (14, .invokevirtual 17, 3), (17, .iinc 3 1, 3), (20, .goto (-18), 3), (23, .return_, 1)] : List (Nat × Instr × Nat)).all fun e => decide (decode cX4_copyFrom e.1 = .ok e.2)) = true := by decide +kernel
theorem dX4_copyFrom_0 : decode cX4_copyFrom 0 = .ok (.iconst 0, 1) := z_dk tdX4_copyFrom_0 0 rfl
theorem dX4_copyFrom_1 : decode cX4_copyFrom 1 = .ok (.istore_n 3, 1) := z_dk tdX4_copyFrom_0 1 rfl
theorem dX4_copyFrom_2 : decode cX4_copyFrom 2 = .ok (.iload_n 3, 1) := z_dk tdX4_copyFrom_0 2 rfl
theorem dX4_copyFrom_3 : decode cX4_copyFrom 3 = .ok (.iload_n 2, 1) := z_dk tdX4_copyFrom_0 3 rfl
theorem dX4_copyFrom_4 : decode cX4_copyFrom 4 = .ok (.if_icmp .ge 19, 3) := z_dk tdX4_copyFrom_0 4 rfl
theorem dX4_copyFrom_7 : decode cX4_copyFrom 7 = .ok (.aload_n 0, 1) := z_dk tdX4_copyFrom_0 5 rfl
theorem dX4_copyFrom_8 : decode cX4_copyFrom 8 = .ok (.iload_n 3, 1) := z_dk tdX4_copyFrom_0 6 rfl
theorem dX4_copyFrom_9 : decode cX4_copyFrom 9 = .ok (.aload_n 1, 1) := z_dk tdX4_copyFrom_0 7 rfl
theorem dX4_copyFrom_10 : decode cX4_copyFrom 10 = .ok (.iload_n 3, 1) := z_dk tdX4_copyFrom_0 8 rfl
theorem dX4_copyFrom_11 : decode cX4_copyFrom 11 = .ok (.invokevirtual 13, 3) := z_dk tdX4_copyFrom_0 9 rfl
theorem dX4_copyFrom_14 : decode cX4_copyFrom 14 = .ok (.invokevirtual 17, 3) := z_dk tdX4_copyFrom_0 10 rfl
theorem dX4_copyFrom_17 : decode cX4_copyFrom 17 = .ok (.iinc 3 1, 3) := z_dk tdX4_copyFrom_0 11 rfl
theorem dX4_copyFrom_20 : decode cX4_copyFrom 20 = .ok (.goto (-18), 3) := z_dk tdX4_copyFrom_0 12 rfl
theorem dX4_copyFrom_23 : decode cX4_copyFrom 23 = .ok (.return_, 1) := z_dk tdX4_copyFrom_0 13 rfl
theorem tdX4_close_0 : (([(0, .iload_n 2, 1), (1, .istore 4, 2), (3, .iload 4, 2), (5, .iload_n 3, 1), (6, .if_icmp .ge 25, 3), (9, .aload_n 0, 1), (10, .iload_n 1, 1), (11, .iload 4, 2), (13, .iadd, 1), (14, .iload_n 2, 1), (15, .isub, 1), (16, .aload_n 0, 1), (17, .iload 4, 2), (19, .invokevirtual 13, 3), (22, .invokevirtual 17, 3), (25, .iinc 4 1, 3), (28, .goto (-25), 3), (31, .return_, 1)] : List (Nat × Instr × Nat)).all fun e => decide (decode cX4_close e.1 = .ok e.2)) = true := by decide +kernel
theorem dX4_close_0 : decode cX4_close 0 = .ok (.iload_n 2, 1) := z_dk tdX4_close_0 0 rfl
theorem dX4_close_1 : decode cX4_close 1 = .ok (.istore 4, 2) := z_dk tdX4_close_0 1 rfl
theorem dX4_close_3 : decode cX4_close 3 = .ok (.iload 4, 2) := z_dk tdX4_close_0 2 rfl
theorem dX4_close_5 : decode cX4_close 5 = .ok (.iload_n 3, 1) := z_dk tdX4_close_0 3 rfl
theorem dX4_close_6 : decode cX4_close 6 = .ok (.if_icmp .ge 25, 3) := z_dk tdX4_close_0 4 rfl
theorem dX4_close_9 : decode cX4_close 9 = .ok (.aload_n 0, 1) := z_dk tdX4_close_0 5 rfl
theorem dX4_close_10 : decode cX4_close 10 = .ok (.iload_n 1, 1) := z_dk tdX4_close_0 6 rfl
theorem dX4_close_11 : decode cX4_close 11 = .ok (.iload 4, 2) := z_dk tdX4_close_0 7 rfl
theorem dX4_close_13 : decode cX4_close 13 = .ok (.iadd, 1) := z_dk tdX4_close_0 8 rfl
theorem dX4_close_14 : decode cX4_close 14 = .ok (.iload_n 2, 1) := z_dk tdX4_close_0 9 rfl
theorem dX4_close_15 : decode cX4_close 15 = .ok (.isub, 1) := z_dk tdX4_close_0 10 rfl
theorem dX4_close_16 : decode cX4_close 16 = .ok (.aload_n 0, 1) := z_dk tdX4_close_0 11 rfl
theorem dX4_close_17 : decode cX4_close 17 = .ok (.iload 4, 2) := z_dk tdX4_close_0 12 rfl
theorem dX4_close_19 : decode cX4_close 19 = .ok (.invokevirtual 13, 3) := z_dk tdX4_close_0 13 rfl
theorem dX4_close_22 : decode cX4_close 22 = .ok (.invokevirtual 17, 3) := z_dk tdX4_close_0 14 rfl
theorem dX4_close_25 : decode cX4_close 25 = .ok (.iinc 4 1, 3) := z_dk tdX4_close_0 15 rfl
theorem dX4_close_28 : decode cX4_close 28 = .ok (.goto (-25), 3) := z_dk tdX4_close_0 16 rfl
theorem dX4_close_31 : decode cX4_close 31 = .ok (.return_, 1) := z_dk tdX4_close_0 17 rfl
theorem tdX5_init_0 : (([(0, .aload_n 0, 1), (1, .invokespecial 3, 3), (4, .aload_n 0, 1), (5, .new 9, 3), (8, .dup, 1), (9, .sipush 20100, 3), (12, .invokespecial 11, 3), (15, .putfield 14, 3), (18, .aload_n 0, 1), (19, .aload_n 1, 1), (20, .putfield 20, 3), (23, .aload_n 0, 1), (24, .aload_n 2, 1), (25, .putfield 24, 3), (28, .aload_n 0, 1), (29, .new 27, 3), (32, .dup, 1), (33, .aload_n 1, 1), (34, .invokespecial 29, 3), (37, .putfield 32, 3), (40, .return_, 1)] : List (Nat × Instr × Nat)).all fun e => decide (decode cX5_init e.1 = .ok e.2)) = true := by decide +kernel
theorem dX5_init_0 : decode cX5_init 0 = .ok (.aload_n 0, 1) := z_dk tdX5_init_0 0 rfl
theorem dX5_init_1 : decode cX5_init 1 = .ok (.invokespecial 3, 3) := z_dk tdX5_init_0 1 rfl
theorem dX5_init_4 : decode cX5_init 4 = .ok (.aload_n 0, 1) := z_dk tdX5_init_0 2 rfl
theorem dX5_init_5 : decode cX5_init 5 = .ok (.new 9, 3) := z_dk tdX5_init_0 3 rfl
theorem dX5_init_8 : decode cX5_init 8 = .ok (.dup, 1) := z_dk tdX5_init_0 4 rfl
theorem dX5_init_9 : decode cX5_init 9 = .ok (.sipush 20100, 3) := z_dk tdX5_init_0 5 rfl
theorem dX5_init_12 : decode cX5_init 12 = .ok (.invokespecial 11, 3) := z_dk tdX5_init_0 6 rfl
theorem dX5_init_15 : decode cX5_init 15 = .ok (.putfield 14, 3) := z_dk tdX5_init_0 7 rfl
theorem dX5_init_18 : decode cX5_init 18 = .ok (.aload_n 0, 1) := z_dk tdX5_init_0 8 rfl
theorem dX5_init_19 : decode cX5_init 19 = .ok (.aload_n 1, 1) := z_dk tdX5_init_0 9 rfl
theorem dX5_init_20 : decode cX5_init 20 = .ok (.putfield 20, 3) := z_dk tdX5_init_0 10 rfl
theorem dX5_init_23 : decode cX5_init 23 = .ok (.aload_n 0, 1) := z_dk tdX5_init_0 11 rfl
theorem dX5_init_24 : decode cX5_init 24 = .ok (.aload_n 2, 1) := z_dk tdX5_init_0 12 rfl
theorem dX5_init_25 : decode cX5_init 25 = .ok (.putfield 24, 3) := z_dk tdX5_init_0 13 rfl
theorem dX5_init_28 : decode cX5_init 28 = .ok (.aload_n 0, 1) := z_dk tdX5_init_0 14 rfl
theorem dX5_init_29 : decode cX5_init 29 = .ok (.new 27, 3) := z_dk tdX5_init_0 15 rfl
theorem dX5_init_32 : decode cX5_init 32 = .ok (.dup, 1) := z_dk tdX5_init_0 16 rfl
theorem dX5_init_33 : decode cX5_init 33 = .ok (.aload_n 1, 1) := z_dk tdX5_init_0 17 rfl
theorem dX5_init_34 : decode cX5_init 34 = .ok (.invokespecial 29, 3) := z_dk tdX5_init_0 18 rfl
theorem dX5_init_37 : decode cX5_init 37 = .ok (.putfield 32, 3) := z_dk tdX5_init_0 19 rfl
theorem dX5_init_40 : decode cX5_init 40 = .ok (.return_, 1) := z_dk tdX5_init_0 20 rfl
theorem tdX5_forget_0 : (([(0, .aload_n 0, 1), (1, .getfield 14, 3), (4, .iconst 0, 1), (5, .aload_n 0, 1), (6, .getfield 20, 3), (9, .getfield 36, 3), (12, .invokestatic 42, 3), (15, .invokevirtual 46, 3), (18, .return_, 1)] : List (Nat × Instr × Nat)).all fun e => decide (decode cX5_forget e.1 = .ok e.2)) = true := by decide +kernel
theorem dX5_forget_0 : decode cX5_forget 0 = .ok (.aload_n 0, 1) := z_dk tdX5_forget_0 0 rfl
theorem dX5_forget_1 : decode cX5_forget 1 = .ok (.getfield 14, 3) := z_dk tdX5_forget_0 1 rfl
theorem dX5_forget_4 : decode cX5_forget 4 = .ok (.iconst 0, 1) := z_dk tdX5_forget_0 2 rfl
theorem dX5_forget_5 : decode cX5_forget 5 = .ok (.aload_n 0, 1) := z_dk tdX5_forget_0 3 rfl
theorem dX5_forget_6 : decode cX5_forget 6 = .ok (.getfield 20, 3) := z_dk tdX5_forget_0 4 rfl
theorem dX5_forget_9 : decode cX5_forget 9 = .ok (.getfield 36, 3) := z_dk tdX5_forget_0 5 rfl
theorem dX5_forget_12 : decode cX5_forget 12 = .ok (.invokestatic 42, 3) := z_dk tdX5_forget_0 6 rfl
theorem dX5_forget_15 : decode cX5_forget 15 = .ok (.invokevirtual 46, 3) := z_dk tdX5_forget_0 7 rfl
theorem dX5_forget_18 : decode cX5_forget 18 = .ok (.return_, 1) := z_dk tdX5_forget_0 8 rfl
theorem tdX5_slotOf_0 : (([(0, .iload_n 1, 1), (1, .iload_n 1, 1), (2, .iconst 1, 1), (3, .iadd, 1), (4, .imul, 1), (5, .iconst 2, 1), (6, .idiv, 1), (7, .iload_n 0, 1), (8, .iadd, 1), (9, .ireturn, 1)] : List (Nat × Instr × Nat)).all fun e => decide (decode cX5_slotOf e.1 = .ok e.2)) = true := by decide +kernel
theorem dX5_slotOf_0 : decode cX5_slotOf 0 = .ok (.iload_n 1, 1) := z_dk tdX5_slotOf_0 0 rfl
theorem dX5_slotOf_1 : decode cX5_slotOf 1 = .ok (.iload_n 1, 1) := z_dk tdX5_slotOf_0 1 rfl
theorem dX5_slotOf_2 : decode cX5_slotOf 2 = .ok (.iconst 1, 1) := z_dk tdX5_slotOf_0 2 rfl
theorem dX5_slotOf_3 : decode cX5_slotOf 3 = .ok (.iadd, 1) := z_dk tdX5_slotOf_0 3 rfl
theorem dX5_slotOf_4 : decode cX5_slotOf 4 = .ok (.imul, 1) := z_dk tdX5_slotOf_0 4 rfl
theorem dX5_slotOf_5 : decode cX5_slotOf 5 = .ok (.iconst 2, 1) := z_dk tdX5_slotOf_0 5 rfl
theorem dX5_slotOf_6 : decode cX5_slotOf 6 = .ok (.idiv, 1) := z_dk tdX5_slotOf_0 6 rfl
theorem dX5_slotOf_7 : decode cX5_slotOf 7 = .ok (.iload_n 0, 1) := z_dk tdX5_slotOf_0 7 rfl
theorem dX5_slotOf_8 : decode cX5_slotOf 8 = .ok (.iadd, 1) := z_dk tdX5_slotOf_0 8 rfl
theorem dX5_slotOf_9 : decode cX5_slotOf 9 = .ok (.ireturn, 1) := z_dk tdX5_slotOf_0 9 rfl
theorem tdX5_trim_0 : (([(0, .aload_n 0, 1), (1, .iload_n 1, 1), (2, .putfield 49, 3), (5, .aload_n 0, 1), (6, .iload_n 2, 1), (7, .putfield 52, 3), (10, .aload_n 0, 1), (11, .getfield 49, 3), (14, .aload_n 0, 1), (15, .getfield 52, 3), (18, .if_icmp .gt 35, 3), (21, .aload_n 0, 1), (22, .getfield 20, 3), (25, .getfield 55, 3), (28, .aload_n 0, 1), (29, .getfield 49, 3), (32, .invokevirtual 58, 3), (35, .bipush 6, 2), (37, .if_icmp .ne 16, 3), (40, .aload_n 0, 1), (41, .dup, 1), (42, .getfield 49, 3), (45, .iconst 1, 1), (46, .iadd, 1)] : List (Nat × Instr × Nat)).all fun e => decide (decode cX5_trim e.1 = .ok e.2)) = true := by decide +kernel
theorem dX5_trim_0 : decode cX5_trim 0 = .ok (.aload_n 0, 1) := z_dk tdX5_trim_0 0 rfl
theorem dX5_trim_1 : decode cX5_trim 1 = .ok (.iload_n 1, 1) := z_dk tdX5_trim_0 1 rfl
theorem dX5_trim_2 : decode cX5_trim 2 = .ok (.putfield 49, 3) := z_dk tdX5_trim_0 2 rfl
theorem dX5_trim_5 : decode cX5_trim 5 = .ok (.aload_n 0, 1) := z_dk tdX5_trim_0 3 rfl
theorem dX5_trim_6 : decode cX5_trim 6 = .ok (.iload_n 2, 1) := z_dk tdX5_trim_0 4 rfl
theorem dX5_trim_7 : decode cX5_trim 7 = .ok (.putfield 52, 3) := z_dk tdX5_trim_0 5 rfl
theorem dX5_trim_10 : decode cX5_trim 10 = .ok (.aload_n 0, 1) := z_dk tdX5_trim_0 6 rfl
theorem dX5_trim_11 : decode cX5_trim 11 = .ok (.getfield 49, 3) := z_dk tdX5_trim_0 7 rfl
theorem dX5_trim_14 : decode cX5_trim 14 = .ok (.aload_n 0, 1) := z_dk tdX5_trim_0 8 rfl
theorem dX5_trim_15 : decode cX5_trim 15 = .ok (.getfield 52, 3) := z_dk tdX5_trim_0 9 rfl
theorem dX5_trim_18 : decode cX5_trim 18 = .ok (.if_icmp .gt 35, 3) := z_dk tdX5_trim_0 10 rfl
theorem dX5_trim_21 : decode cX5_trim 21 = .ok (.aload_n 0, 1) := z_dk tdX5_trim_0 11 rfl
theorem dX5_trim_22 : decode cX5_trim 22 = .ok (.getfield 20, 3) := z_dk tdX5_trim_0 12 rfl
theorem dX5_trim_25 : decode cX5_trim 25 = .ok (.getfield 55, 3) := z_dk tdX5_trim_0 13 rfl
theorem dX5_trim_28 : decode cX5_trim 28 = .ok (.aload_n 0, 1) := z_dk tdX5_trim_0 14 rfl
theorem dX5_trim_29 : decode cX5_trim 29 = .ok (.getfield 49, 3) := z_dk tdX5_trim_0 15 rfl
theorem dX5_trim_32 : decode cX5_trim 32 = .ok (.invokevirtual 58, 3) := z_dk tdX5_trim_0 16 rfl
theorem dX5_trim_35 : decode cX5_trim 35 = .ok (.bipush 6, 2) := z_dk tdX5_trim_0 17 rfl
theorem dX5_trim_37 : decode cX5_trim 37 = .ok (.if_icmp .ne 16, 3) := z_dk tdX5_trim_0 18 rfl
theorem dX5_trim_40 : decode cX5_trim 40 = .ok (.aload_n 0, 1) := z_dk tdX5_trim_0 19 rfl
theorem dX5_trim_41 : decode cX5_trim 41 = .ok (.dup, 1) := z_dk tdX5_trim_0 20 rfl
theorem dX5_trim_42 : decode cX5_trim 42 = .ok (.getfield 49, 3) := z_dk tdX5_trim_0 21 rfl
theorem dX5_trim_45 : decode cX5_trim 45 = .ok (.iconst 1, 1) := z_dk tdX5_trim_0 22 rfl
theorem dX5_trim_46 : decode cX5_trim 46 = .ok (.iadd, 1) := z_dk tdX5_trim_0 23 rfl
theorem tdX5_trim_47 : (([(47, .putfield 49, 3), (50, .goto (-40), 3), (53, .aload_n 0, 1), (54, .getfield 49, 3), (57, .aload_n 0, 1), (58, .getfield 52, 3), (61, .if_icmp .gt 35, 3), (64, .aload_n 0, 1), (65, .getfield 20, 3), (68, .getfield 55, 3), (71, .aload_n 0, 1), (72, .getfield 52, 3), (75, .invokevirtual 58, 3), (78, .bipush 6, 2), (80, .if_icmp .ne 16, 3), (83, .aload_n 0, 1), (84, .dup, 1), (85, .getfield 52, 3), (88, .iconst 1, 1), (89, .isub, 1), (90, .putfield 52, 3), (93, .goto (-40), 3), (96, .return_, 1)] : List (Nat × Instr × Nat)).all fun e => decide (decode cX5_trim e.1 = .ok e.2)) = true := by decide +kernel
theorem dX5_trim_47 : decode cX5_trim 47 = .ok (.putfield 49, 3) := z_dk tdX5_trim_47 0 rfl
theorem dX5_trim_50 : decode cX5_trim 50 = .ok (.goto (-40), 3) := z_dk tdX5_trim_47 1 rfl
theorem dX5_trim_53 : decode cX5_trim 53 = .ok (.aload_n 0, 1) := z_dk tdX5_trim_47 2 rfl
theorem dX5_trim_54 : decode cX5_trim 54 = .ok (.getfield 49, 3) := z_dk tdX5_trim_47 3 rfl
theorem dX5_trim_57 : decode cX5_trim 57 = .ok (.aload_n 0, 1) := z_dk tdX5_trim_47 4 rfl
theorem dX5_trim_58 : decode cX5_trim 58 = .ok (.getfield 52, 3) := z_dk tdX5_trim_47 5 rfl
theorem dX5_trim_61 : decode cX5_trim 61 = .ok (.if_icmp .gt 35, 3) := z_dk tdX5_trim_47 6 rfl
theorem dX5_trim_64 : decode cX5_trim 64 = .ok (.aload_n 0, 1) := z_dk tdX5_trim_47 7 rfl
theorem dX5_trim_65 : decode cX5_trim 65 = .ok (.getfield 20, 3) := z_dk tdX5_trim_47 8 rfl
theorem dX5_trim_68 : decode cX5_trim 68 = .ok (.getfield 55, 3) := z_dk tdX5_trim_47 9 rfl
theorem dX5_trim_71 : decode cX5_trim 71 = .ok (.aload_n 0, 1) := z_dk tdX5_trim_47 10 rfl
theorem dX5_trim_72 : decode cX5_trim 72 = .ok (.getfield 52, 3) := z_dk tdX5_trim_47 11 rfl
theorem dX5_trim_75 : decode cX5_trim 75 = .ok (.invokevirtual 58, 3) := z_dk tdX5_trim_47 12 rfl
theorem dX5_trim_78 : decode cX5_trim 78 = .ok (.bipush 6, 2) := z_dk tdX5_trim_47 13 rfl
theorem dX5_trim_80 : decode cX5_trim 80 = .ok (.if_icmp .ne 16, 3) := z_dk tdX5_trim_47 14 rfl
theorem dX5_trim_83 : decode cX5_trim 83 = .ok (.aload_n 0, 1) := z_dk tdX5_trim_47 15 rfl
theorem dX5_trim_84 : decode cX5_trim 84 = .ok (.dup, 1) := z_dk tdX5_trim_47 16 rfl
theorem dX5_trim_85 : decode cX5_trim 85 = .ok (.getfield 52, 3) := z_dk tdX5_trim_47 17 rfl
theorem dX5_trim_88 : decode cX5_trim 88 = .ok (.iconst 1, 1) := z_dk tdX5_trim_47 18 rfl
theorem dX5_trim_89 : decode cX5_trim 89 = .ok (.isub, 1) := z_dk tdX5_trim_47 19 rfl
theorem dX5_trim_90 : decode cX5_trim 90 = .ok (.putfield 52, 3) := z_dk tdX5_trim_47 20 rfl
theorem dX5_trim_93 : decode cX5_trim 93 = .ok (.goto (-40), 3) := z_dk tdX5_trim_47 21 rfl
theorem dX5_trim_96 : decode cX5_trim 96 = .ok (.return_, 1) := z_dk tdX5_trim_47 22 rfl
theorem tdX5_spaceOf_0 : (([(0, .aload_n 0, 1), (1, .getfield 20, 3), (4, .getfield 55, 3), (7, .iload_n 1, 1), (8, .invokevirtual 58, 3), (11, .istore_n 2, 1), (12, .iload_n 2, 1), (13, .iconst 3, 1), (14, .if_icmp .eq 8, 3), (17, .iload_n 2, 1), (18, .iconst 5, 1), (19, .if_icmp .ne 42, 3), (22, .aload_n 0, 1), (23, .getfield 20, 3), (26, .getfield 55, 3), (29, .iload_n 1, 1), (30, .iconst 1, 1), (31, .iadd, 1), (32, .invokevirtual 58, 3), (35, .istore_n 3, 1), (36, .iload_n 1, 1), (37, .aload_n 0, 1), (38, .getfield 52, 3), (41, .if_icmp .eq 13, 3)] : List (Nat × Instr × Nat)).all fun e => decide (decode cX5_spaceOf e.1 = .ok e.2)) = true := by decide +kernel
theorem dX5_spaceOf_0 : decode cX5_spaceOf 0 = .ok (.aload_n 0, 1) := z_dk tdX5_spaceOf_0 0 rfl
theorem dX5_spaceOf_1 : decode cX5_spaceOf 1 = .ok (.getfield 20, 3) := z_dk tdX5_spaceOf_0 1 rfl
theorem dX5_spaceOf_4 : decode cX5_spaceOf 4 = .ok (.getfield 55, 3) := z_dk tdX5_spaceOf_0 2 rfl
theorem dX5_spaceOf_7 : decode cX5_spaceOf 7 = .ok (.iload_n 1, 1) := z_dk tdX5_spaceOf_0 3 rfl
theorem dX5_spaceOf_8 : decode cX5_spaceOf 8 = .ok (.invokevirtual 58, 3) := z_dk tdX5_spaceOf_0 4 rfl
theorem dX5_spaceOf_11 : decode cX5_spaceOf 11 = .ok (.istore_n 2, 1) := z_dk tdX5_spaceOf_0 5 rfl
theorem dX5_spaceOf_12 : decode cX5_spaceOf 12 = .ok (.iload_n 2, 1) := z_dk tdX5_spaceOf_0 6 rfl
theorem dX5_spaceOf_13 : decode cX5_spaceOf 13 = .ok (.iconst 3, 1) := z_dk tdX5_spaceOf_0 7 rfl
theorem dX5_spaceOf_14 : decode cX5_spaceOf 14 = .ok (.if_icmp .eq 8, 3) := z_dk tdX5_spaceOf_0 8 rfl
theorem dX5_spaceOf_17 : decode cX5_spaceOf 17 = .ok (.iload_n 2, 1) := z_dk tdX5_spaceOf_0 9 rfl
theorem dX5_spaceOf_18 : decode cX5_spaceOf 18 = .ok (.iconst 5, 1) := z_dk tdX5_spaceOf_0 10 rfl
theorem dX5_spaceOf_19 : decode cX5_spaceOf 19 = .ok (.if_icmp .ne 42, 3) := z_dk tdX5_spaceOf_0 11 rfl
theorem dX5_spaceOf_22 : decode cX5_spaceOf 22 = .ok (.aload_n 0, 1) := z_dk tdX5_spaceOf_0 12 rfl
theorem dX5_spaceOf_23 : decode cX5_spaceOf 23 = .ok (.getfield 20, 3) := z_dk tdX5_spaceOf_0 13 rfl
theorem dX5_spaceOf_26 : decode cX5_spaceOf 26 = .ok (.getfield 55, 3) := z_dk tdX5_spaceOf_0 14 rfl
theorem dX5_spaceOf_29 : decode cX5_spaceOf 29 = .ok (.iload_n 1, 1) := z_dk tdX5_spaceOf_0 15 rfl
theorem dX5_spaceOf_30 : decode cX5_spaceOf 30 = .ok (.iconst 1, 1) := z_dk tdX5_spaceOf_0 16 rfl
theorem dX5_spaceOf_31 : decode cX5_spaceOf 31 = .ok (.iadd, 1) := z_dk tdX5_spaceOf_0 17 rfl
theorem dX5_spaceOf_32 : decode cX5_spaceOf 32 = .ok (.invokevirtual 58, 3) := z_dk tdX5_spaceOf_0 18 rfl
theorem dX5_spaceOf_35 : decode cX5_spaceOf 35 = .ok (.istore_n 3, 1) := z_dk tdX5_spaceOf_0 19 rfl
theorem dX5_spaceOf_36 : decode cX5_spaceOf 36 = .ok (.iload_n 1, 1) := z_dk tdX5_spaceOf_0 20 rfl
theorem dX5_spaceOf_37 : decode cX5_spaceOf 37 = .ok (.aload_n 0, 1) := z_dk tdX5_spaceOf_0 21 rfl
theorem dX5_spaceOf_38 : decode cX5_spaceOf 38 = .ok (.getfield 52, 3) := z_dk tdX5_spaceOf_0 22 rfl
theorem dX5_spaceOf_41 : decode cX5_spaceOf 41 = .ok (.if_icmp .eq 13, 3) := z_dk tdX5_spaceOf_0 23 rfl
theorem tdX5_spaceOf_44 : (([(44, .iload_n 3, 1), (45, .iconst 3, 1), (46, .if_icmp .eq 8, 3), (49, .iload_n 3, 1), (50, .iconst 5, 1), (51, .if_icmp .ne 7, 3), (54, .iconst 0, 1), (55, .goto 5, 3), (58, .bipush 6, 2), (60, .ireturn, 1), (61, .iload_n 2, 1), (62, .iconst 4, 1), (63, .if_icmp .ne 47, 3), (66, .aload_n 0, 1), (67, .getfield 20, 3), (70, .getfield 55, 3), (73, .iload_n 1, 1), (74, .iconst 1, 1), (75, .isub, 1), (76, .invokevirtual 58, 3), (79, .istore_n 3, 1), (80, .iload_n 1, 1), (81, .aload_n 0, 1), (82, .getfield 49, 3)] : List (Nat × Instr × Nat)).all fun e => decide (decode cX5_spaceOf e.1 = .ok e.2)) = true := by decide +kernel
theorem dX5_spaceOf_44 : decode cX5_spaceOf 44 = .ok (.iload_n 3, 1) := z_dk tdX5_spaceOf_44 0 rfl
theorem dX5_spaceOf_45 : decode cX5_spaceOf 45 = .ok (.iconst 3, 1) := z_dk tdX5_spaceOf_44 1 rfl
theorem dX5_spaceOf_46 : decode cX5_spaceOf 46 = .ok (.if_icmp .eq 8, 3) := z_dk tdX5_spaceOf_44 2 rfl
theorem dX5_spaceOf_49 : decode cX5_spaceOf 49 = .ok (.iload_n 3, 1) := z_dk tdX5_spaceOf_44 3 rfl
theorem dX5_spaceOf_50 : decode cX5_spaceOf 50 = .ok (.iconst 5, 1) := z_dk tdX5_spaceOf_44 4 rfl
theorem dX5_spaceOf_51 : decode cX5_spaceOf 51 = .ok (.if_icmp .ne 7, 3) := z_dk tdX5_spaceOf_44 5 rfl
theorem dX5_spaceOf_54 : decode cX5_spaceOf 54 = .ok (.iconst 0, 1) := z_dk tdX5_spaceOf_44 6 rfl
theorem dX5_spaceOf_55 : decode cX5_spaceOf 55 = .ok (.goto 5, 3) := z_dk tdX5_spaceOf_44 7 rfl
theorem dX5_spaceOf_58 : decode cX5_spaceOf 58 = .ok (.bipush 6, 2) := z_dk tdX5_spaceOf_44 8 rfl
theorem dX5_spaceOf_60 : decode cX5_spaceOf 60 = .ok (.ireturn, 1) := z_dk tdX5_spaceOf_44 9 rfl
theorem dX5_spaceOf_61 : decode cX5_spaceOf 61 = .ok (.iload_n 2, 1) := z_dk tdX5_spaceOf_44 10 rfl
theorem dX5_spaceOf_62 : decode cX5_spaceOf 62 = .ok (.iconst 4, 1) := z_dk tdX5_spaceOf_44 11 rfl
theorem dX5_spaceOf_63 : decode cX5_spaceOf 63 = .ok (.if_icmp .ne 47, 3) := z_dk tdX5_spaceOf_44 12 rfl
theorem dX5_spaceOf_66 : decode cX5_spaceOf 66 = .ok (.aload_n 0, 1) := z_dk tdX5_spaceOf_44 13 rfl
theorem dX5_spaceOf_67 : decode cX5_spaceOf 67 = .ok (.getfield 20, 3) := z_dk tdX5_spaceOf_44 14 rfl
theorem dX5_spaceOf_70 : decode cX5_spaceOf 70 = .ok (.getfield 55, 3) := z_dk tdX5_spaceOf_44 15 rfl
theorem dX5_spaceOf_73 : decode cX5_spaceOf 73 = .ok (.iload_n 1, 1) := z_dk tdX5_spaceOf_44 16 rfl
theorem dX5_spaceOf_74 : decode cX5_spaceOf 74 = .ok (.iconst 1, 1) := z_dk tdX5_spaceOf_44 17 rfl
theorem dX5_spaceOf_75 : decode cX5_spaceOf 75 = .ok (.isub, 1) := z_dk tdX5_spaceOf_44 18 rfl
theorem dX5_spaceOf_76 : decode cX5_spaceOf 76 = .ok (.invokevirtual 58, 3) := z_dk tdX5_spaceOf_44 19 rfl
theorem dX5_spaceOf_79 : decode cX5_spaceOf 79 = .ok (.istore_n 3, 1) := z_dk tdX5_spaceOf_44 20 rfl
theorem dX5_spaceOf_80 : decode cX5_spaceOf 80 = .ok (.iload_n 1, 1) := z_dk tdX5_spaceOf_44 21 rfl
theorem dX5_spaceOf_81 : decode cX5_spaceOf 81 = .ok (.aload_n 0, 1) := z_dk tdX5_spaceOf_44 22 rfl
theorem dX5_spaceOf_82 : decode cX5_spaceOf 82 = .ok (.getfield 49, 3) := z_dk tdX5_spaceOf_44 23 rfl
theorem tdX5_spaceOf_85 : (([(85, .if_icmp .eq 18, 3), (88, .iload_n 3, 1), (89, .iconst 3, 1), (90, .if_icmp .eq 13, 3), (93, .iload_n 3, 1), (94, .iconst 5, 1), (95, .if_icmp .eq 8, 3), (98, .iload_n 3, 1), (99, .iconst 4, 1), (100, .if_icmp .ne 7, 3), (103, .iconst 0, 1), (104, .goto 5, 3), (107, .bipush 6, 2), (109, .ireturn, 1), (110, .iconst 0, 1), (111, .ireturn, 1)] : List (Nat × Instr × Nat)).all fun e => decide (decode cX5_spaceOf e.1 = .ok e.2)) = true := by decide +kernel
theorem dX5_spaceOf_85 : decode cX5_spaceOf 85 = .ok (.if_icmp .eq 18, 3) := z_dk tdX5_spaceOf_85 0 rfl
theorem dX5_spaceOf_88 : decode cX5_spaceOf 88 = .ok (.iload_n 3, 1) := z_dk tdX5_spaceOf_85 1 rfl
theorem dX5_spaceOf_89 : decode cX5_spaceOf 89 = .ok (.iconst 3, 1) := z_dk tdX5_spaceOf_85 2 rfl
theorem dX5_spaceOf_90 : decode cX5_spaceOf 90 = .ok (.if_icmp .eq 13, 3) := z_dk tdX5_spaceOf_85 3 rfl
theorem dX5_spaceOf_93 : decode cX5_spaceOf 93 = .ok (.iload_n 3, 1) := z_dk tdX5_spaceOf_85 4 rfl
theorem dX5_spaceOf_94 : decode cX5_spaceOf 94 = .ok (.iconst 5, 1) := z_dk tdX5_spaceOf_85 5 rfl
theorem dX5_spaceOf_95 : decode cX5_spaceOf 95 = .ok (.if_icmp .eq 8, 3) := z_dk tdX5_spaceOf_85 6 rfl
theorem dX5_spaceOf_98 : decode cX5_spaceOf 98 = .ok (.iload_n 3, 1) := z_dk tdX5_spaceOf_85 7 rfl
theorem dX5_spaceOf_99 : decode cX5_spaceOf 99 = .ok (.iconst 4, 1) := z_dk tdX5_spaceOf_85 8 rfl
theorem dX5_spaceOf_100 : decode cX5_spaceOf 100 = .ok (.if_icmp .ne 7, 3) := z_dk tdX5_spaceOf_85 9 rfl
theorem dX5_spaceOf_103 : decode cX5_spaceOf 103 = .ok (.iconst 0, 1) := z_dk tdX5_spaceOf_85 10 rfl
theorem dX5_spaceOf_104 : decode cX5_spaceOf 104 = .ok (.goto 5, 3) := z_dk tdX5_spaceOf_85 11 rfl
theorem dX5_spaceOf_107 : decode cX5_spaceOf 107 = .ok (.bipush 6, 2) := z_dk tdX5_spaceOf_85 12 rfl
theorem dX5_spaceOf_109 : decode cX5_spaceOf 109 = .ok (.ireturn, 1) := z_dk tdX5_spaceOf_85 13 rfl
theorem dX5_spaceOf_110 : decode cX5_spaceOf 110 = .ok (.iconst 0, 1) := z_dk tdX5_spaceOf_85 14 rfl
theorem dX5_spaceOf_111 : decode cX5_spaceOf 111 = .ok (.ireturn, 1) := z_dk tdX5_spaceOf_85 15 rfl
theorem tdX5_hangsOut_0 : (([(0, .aload_n 0, 1), (1, .getfield 24, 3), (4, .bipush 6, 2), (6, .invokevirtual 58, 3), (9, .iconst 1, 1), (10, .if_icmp .ne 30, 3), (13, .iload_n 1, 1), (14, .aload_n 0, 1), (15, .getfield 52, 3), (18, .if_icmp .ne 22, 3), (21, .aload_n 0, 1), (22, .getfield 20, 3), (25, .getfield 55, 3), (28, .iload_n 1, 1), (29, .invokevirtual 58, 3), (32, .iconst 3, 1), (33, .if_icmp .ne 7, 3), (36, .iconst 1, 1), (37, .goto 4, 3), (40, .iconst 0, 1), (41, .ireturn, 1)] : List (Nat × Instr × Nat)).all fun e => decide (decode cX5_hangsOut e.1 = .ok e.2)) = true := by decide +kernel
theorem dX5_hangsOut_0 : decode cX5_hangsOut 0 = .ok (.aload_n 0, 1) := z_dk tdX5_hangsOut_0 0 rfl
theorem dX5_hangsOut_1 : decode cX5_hangsOut 1 = .ok (.getfield 24, 3) := z_dk tdX5_hangsOut_0 1 rfl
theorem dX5_hangsOut_4 : decode cX5_hangsOut 4 = .ok (.bipush 6, 2) := z_dk tdX5_hangsOut_0 2 rfl
theorem dX5_hangsOut_6 : decode cX5_hangsOut 6 = .ok (.invokevirtual 58, 3) := z_dk tdX5_hangsOut_0 3 rfl
theorem dX5_hangsOut_9 : decode cX5_hangsOut 9 = .ok (.iconst 1, 1) := z_dk tdX5_hangsOut_0 4 rfl
theorem dX5_hangsOut_10 : decode cX5_hangsOut 10 = .ok (.if_icmp .ne 30, 3) := z_dk tdX5_hangsOut_0 5 rfl
theorem dX5_hangsOut_13 : decode cX5_hangsOut 13 = .ok (.iload_n 1, 1) := z_dk tdX5_hangsOut_0 6 rfl
theorem dX5_hangsOut_14 : decode cX5_hangsOut 14 = .ok (.aload_n 0, 1) := z_dk tdX5_hangsOut_0 7 rfl
theorem dX5_hangsOut_15 : decode cX5_hangsOut 15 = .ok (.getfield 52, 3) := z_dk tdX5_hangsOut_0 8 rfl
theorem dX5_hangsOut_18 : decode cX5_hangsOut 18 = .ok (.if_icmp .ne 22, 3) := z_dk tdX5_hangsOut_0 9 rfl
theorem dX5_hangsOut_21 : decode cX5_hangsOut 21 = .ok (.aload_n 0, 1) := z_dk tdX5_hangsOut_0 10 rfl
theorem dX5_hangsOut_22 : decode cX5_hangsOut 22 = .ok (.getfield 20, 3) := z_dk tdX5_hangsOut_0 11 rfl
theorem dX5_hangsOut_25 : decode cX5_hangsOut 25 = .ok (.getfield 55, 3) := z_dk tdX5_hangsOut_0 12 rfl
theorem dX5_hangsOut_28 : decode cX5_hangsOut 28 = .ok (.iload_n 1, 1) := z_dk tdX5_hangsOut_0 13 rfl
theorem dX5_hangsOut_29 : decode cX5_hangsOut 29 = .ok (.invokevirtual 58, 3) := z_dk tdX5_hangsOut_0 14 rfl
theorem dX5_hangsOut_32 : decode cX5_hangsOut 32 = .ok (.iconst 3, 1) := z_dk tdX5_hangsOut_0 15 rfl
theorem dX5_hangsOut_33 : decode cX5_hangsOut 33 = .ok (.if_icmp .ne 7, 3) := z_dk tdX5_hangsOut_0 16 rfl
theorem dX5_hangsOut_36 : decode cX5_hangsOut 36 = .ok (.iconst 1, 1) := z_dk tdX5_hangsOut_0 17 rfl
theorem dX5_hangsOut_37 : decode cX5_hangsOut 37 = .ok (.goto 4, 3) := z_dk tdX5_hangsOut_0 18 rfl
theorem dX5_hangsOut_40 : decode cX5_hangsOut 40 = .ok (.iconst 0, 1) := z_dk tdX5_hangsOut_0 19 rfl
theorem dX5_hangsOut_41 : decode cX5_hangsOut 41 = .ok (.ireturn, 1) := z_dk tdX5_hangsOut_0 20 rfl
theorem tdX5_widthOf_0 : (([(0, .iload_n 1, 1), (1, .aload_n 0, 1), (2, .getfield 49, 3), (5, .if_icmp .lt 19, 3), (8, .iload_n 1, 1), (9, .aload_n 0, 1), (10, .getfield 52, 3), (13, .if_icmp .gt 11, 3), (16, .aload_n 0, 1), (17, .iload_n 1, 1), (18, .invokevirtual 62, 3), (21, .ifCond .eq 7, 3), (24, .iconst 0, 1), (25, .goto 14, 3), (28, .aload_n 0, 1), (29, .getfield 20, 3), (32, .getfield 66, 3), (35, .iload_n 1, 1), (36, .invokevirtual 58, 3), (39, .ireturn, 1)] : List (Nat × Instr × Nat)).all fun e => decide (decode cX5_widthOf e.1 = .ok e.2)) = true := by decide +kernel
theorem dX5_widthOf_0 : decode cX5_widthOf 0 = .ok (.iload_n 1, 1) := z_dk tdX5_widthOf_0 0 rfl
theorem dX5_widthOf_1 : decode cX5_widthOf 1 = .ok (.aload_n 0, 1) := z_dk tdX5_widthOf_0 1 rfl
theorem dX5_widthOf_2 : decode cX5_widthOf 2 = .ok (.getfield 49, 3) := z_dk tdX5_widthOf_0 2 rfl
theorem dX5_widthOf_5 : decode cX5_widthOf 5 = .ok (.if_icmp .lt 19, 3) := z_dk tdX5_widthOf_0 3 rfl
theorem dX5_widthOf_8 : decode cX5_widthOf 8 = .ok (.iload_n 1, 1) := z_dk tdX5_widthOf_0 4 rfl
theorem dX5_widthOf_9 : decode cX5_widthOf 9 = .ok (.aload_n 0, 1) := z_dk tdX5_widthOf_0 5 rfl
theorem dX5_widthOf_10 : decode cX5_widthOf 10 = .ok (.getfield 52, 3) := z_dk tdX5_widthOf_0 6 rfl
theorem dX5_widthOf_13 : decode cX5_widthOf 13 = .ok (.if_icmp .gt 11, 3) := z_dk tdX5_widthOf_0 7 rfl
theorem dX5_widthOf_16 : decode cX5_widthOf 16 = .ok (.aload_n 0, 1) := z_dk tdX5_widthOf_0 8 rfl
theorem dX5_widthOf_17 : decode cX5_widthOf 17 = .ok (.iload_n 1, 1) := z_dk tdX5_widthOf_0 9 rfl
theorem dX5_widthOf_18 : decode cX5_widthOf 18 = .ok (.invokevirtual 62, 3) := z_dk tdX5_widthOf_0 10 rfl
theorem dX5_widthOf_21 : decode cX5_widthOf 21 = .ok (.ifCond .eq 7, 3) := z_dk tdX5_widthOf_0 11 rfl
theorem dX5_widthOf_24 : decode cX5_widthOf 24 = .ok (.iconst 0, 1) := z_dk tdX5_widthOf_0 12 rfl
theorem dX5_widthOf_25 : decode cX5_widthOf 25 = .ok (.goto 14, 3) := z_dk tdX5_widthOf_0 13 rfl
theorem dX5_widthOf_28 : decode cX5_widthOf 28 = .ok (.aload_n 0, 1) := z_dk tdX5_widthOf_0 14 rfl
theorem dX5_widthOf_29 : decode cX5_widthOf 29 = .ok (.getfield 20, 3) := z_dk tdX5_widthOf_0 15 rfl
theorem dX5_widthOf_32 : decode cX5_widthOf 32 = .ok (.getfield 66, 3) := z_dk tdX5_widthOf_0 16 rfl
theorem dX5_widthOf_35 : decode cX5_widthOf 35 = .ok (.iload_n 1, 1) := z_dk tdX5_widthOf_0 17 rfl
theorem dX5_widthOf_36 : decode cX5_widthOf 36 = .ok (.invokevirtual 58, 3) := z_dk tdX5_widthOf_0 18 rfl
theorem dX5_widthOf_39 : decode cX5_widthOf 39 = .ok (.ireturn, 1) := z_dk tdX5_widthOf_0 19 rfl
theorem tdX5_longWith_0 : (([(0, .aload_n 0, 1), (1, .iload_n 1, 1), (2, .iload_n 2, 1), (3, .invokevirtual 69, 3), (6, .aload_n 0, 1), (7, .getfield 20, 3), (10, .getfield 73, 3), (13, .aload_n 0, 1), (14, .getfield 52, 3), (17, .iconst 1, 1), (18, .iadd, 1), (19, .invokevirtual 58, 3), (22, .aload_n 0, 1), (23, .getfield 20, 3), (26, .getfield 73, 3), (29, .aload_n 0, 1), (30, .getfield 49, 3), (33, .invokevirtual 58, 3), (36, .isub, 1), (37, .istore 4, 2), (39, .aload_n 0, 1), (40, .aload_n 0, 1), (41, .getfield 52, 3), (44, .invokevirtual 62, 3)] : List (Nat × Instr × Nat)).all fun e => decide (decode cX5_longWith e.1 = .ok e.2)) = true := by decide +kernel
theorem dX5_longWith_0 : decode cX5_longWith 0 = .ok (.aload_n 0, 1) := z_dk tdX5_longWith_0 0 rfl
theorem dX5_longWith_1 : decode cX5_longWith 1 = .ok (.iload_n 1, 1) := z_dk tdX5_longWith_0 1 rfl
theorem dX5_longWith_2 : decode cX5_longWith 2 = .ok (.iload_n 2, 1) := z_dk tdX5_longWith_0 2 rfl
theorem dX5_longWith_3 : decode cX5_longWith 3 = .ok (.invokevirtual 69, 3) := z_dk tdX5_longWith_0 3 rfl
theorem dX5_longWith_6 : decode cX5_longWith 6 = .ok (.aload_n 0, 1) := z_dk tdX5_longWith_0 4 rfl
theorem dX5_longWith_7 : decode cX5_longWith 7 = .ok (.getfield 20, 3) := z_dk tdX5_longWith_0 5 rfl
theorem dX5_longWith_10 : decode cX5_longWith 10 = .ok (.getfield 73, 3) := z_dk tdX5_longWith_0 6 rfl
theorem dX5_longWith_13 : decode cX5_longWith 13 = .ok (.aload_n 0, 1) := z_dk tdX5_longWith_0 7 rfl
theorem dX5_longWith_14 : decode cX5_longWith 14 = .ok (.getfield 52, 3) := z_dk tdX5_longWith_0 8 rfl
theorem dX5_longWith_17 : decode cX5_longWith 17 = .ok (.iconst 1, 1) := z_dk tdX5_longWith_0 9 rfl
theorem dX5_longWith_18 : decode cX5_longWith 18 = .ok (.iadd, 1) := z_dk tdX5_longWith_0 10 rfl
theorem dX5_longWith_19 : decode cX5_longWith 19 = .ok (.invokevirtual 58, 3) := z_dk tdX5_longWith_0 11 rfl
theorem dX5_longWith_22 : decode cX5_longWith 22 = .ok (.aload_n 0, 1) := z_dk tdX5_longWith_0 12 rfl
theorem dX5_longWith_23 : decode cX5_longWith 23 = .ok (.getfield 20, 3) := z_dk tdX5_longWith_0 13 rfl
theorem dX5_longWith_26 : decode cX5_longWith 26 = .ok (.getfield 73, 3) := z_dk tdX5_longWith_0 14 rfl
theorem dX5_longWith_29 : decode cX5_longWith 29 = .ok (.aload_n 0, 1) := z_dk tdX5_longWith_0 15 rfl
theorem dX5_longWith_30 : decode cX5_longWith 30 = .ok (.getfield 49, 3) := z_dk tdX5_longWith_0 16 rfl
theorem dX5_longWith_33 : decode cX5_longWith 33 = .ok (.invokevirtual 58, 3) := z_dk tdX5_longWith_0 17 rfl
theorem dX5_longWith_36 : decode cX5_longWith 36 = .ok (.isub, 1) := z_dk tdX5_longWith_0 18 rfl
theorem dX5_longWith_37 : decode cX5_longWith 37 = .ok (.istore 4, 2) := z_dk tdX5_longWith_0 19 rfl
theorem dX5_longWith_39 : decode cX5_longWith 39 = .ok (.aload_n 0, 1) := z_dk tdX5_longWith_0 20 rfl
theorem dX5_longWith_40 : decode cX5_longWith 40 = .ok (.aload_n 0, 1) := z_dk tdX5_longWith_0 21 rfl
theorem dX5_longWith_41 : decode cX5_longWith 41 = .ok (.getfield 52, 3) := z_dk tdX5_longWith_0 22 rfl
theorem dX5_longWith_44 : decode cX5_longWith 44 = .ok (.invokevirtual 62, 3) := z_dk tdX5_longWith_0 23 rfl
theorem tdX5_longWith_47 : (([(47, .ifCond .eq 22, 3), (50, .iload 4, 2), (52, .aload_n 0, 1), (53, .getfield 20, 3), (56, .getfield 66, 3), (59, .aload_n 0, 1), (60, .getfield 52, 3), (63, .invokevirtual 58, 3), (66, .isub, 1), (67, .istore 4, 2), (69, .aload_n 0, 1), (70, .getfield 49, 3), (73, .istore 5, 2), (75, .iload 5, 2), (77, .aload_n 0, 1), (78, .getfield 52, 3), (81, .if_icmp .gt 20, 3), (84, .iload 4, 2), (86, .aload_n 0, 1), (87, .iload 5, 2), (89, .invokevirtual 76, 3), (92, .iadd, 1), (93, .istore 4, 2), (95, .iinc 5 1, 3)] : List (Nat × Instr × Nat)).all fun e => decide (decode cX5_longWith e.1 = .ok e.2)) = true := by decide +kernel
theorem dX5_longWith_47 : decode cX5_longWith 47 = .ok (.ifCond .eq 22, 3) := z_dk tdX5_longWith_47 0 rfl
theorem dX5_longWith_50 : decode cX5_longWith 50 = .ok (.iload 4, 2) := z_dk tdX5_longWith_47 1 rfl
theorem dX5_longWith_52 : decode cX5_longWith 52 = .ok (.aload_n 0, 1) := z_dk tdX5_longWith_47 2 rfl
theorem dX5_longWith_53 : decode cX5_longWith 53 = .ok (.getfield 20, 3) := z_dk tdX5_longWith_47 3 rfl
theorem dX5_longWith_56 : decode cX5_longWith 56 = .ok (.getfield 66, 3) := z_dk tdX5_longWith_47 4 rfl
theorem dX5_longWith_59 : decode cX5_longWith 59 = .ok (.aload_n 0, 1) := z_dk tdX5_longWith_47 5 rfl
theorem dX5_longWith_60 : decode cX5_longWith 60 = .ok (.getfield 52, 3) := z_dk tdX5_longWith_47 6 rfl
theorem dX5_longWith_63 : decode cX5_longWith 63 = .ok (.invokevirtual 58, 3) := z_dk tdX5_longWith_47 7 rfl
theorem dX5_longWith_66 : decode cX5_longWith 66 = .ok (.isub, 1) := z_dk tdX5_longWith_47 8 rfl
theorem dX5_longWith_67 : decode cX5_longWith 67 = .ok (.istore 4, 2) := z_dk tdX5_longWith_47 9 rfl
theorem dX5_longWith_69 : decode cX5_longWith 69 = .ok (.aload_n 0, 1) := z_dk tdX5_longWith_47 10 rfl
theorem dX5_longWith_70 : decode cX5_longWith 70 = .ok (.getfield 49, 3) := z_dk tdX5_longWith_47 11 rfl
theorem dX5_longWith_73 : decode cX5_longWith 73 = .ok (.istore 5, 2) := z_dk tdX5_longWith_47 12 rfl
theorem dX5_longWith_75 : decode cX5_longWith 75 = .ok (.iload 5, 2) := z_dk tdX5_longWith_47 13 rfl
theorem dX5_longWith_77 : decode cX5_longWith 77 = .ok (.aload_n 0, 1) := z_dk tdX5_longWith_47 14 rfl
theorem dX5_longWith_78 : decode cX5_longWith 78 = .ok (.getfield 52, 3) := z_dk tdX5_longWith_47 15 rfl
theorem dX5_longWith_81 : decode cX5_longWith 81 = .ok (.if_icmp .gt 20, 3) := z_dk tdX5_longWith_47 16 rfl
theorem dX5_longWith_84 : decode cX5_longWith 84 = .ok (.iload 4, 2) := z_dk tdX5_longWith_47 17 rfl
theorem dX5_longWith_86 : decode cX5_longWith 86 = .ok (.aload_n 0, 1) := z_dk tdX5_longWith_47 18 rfl
theorem dX5_longWith_87 : decode cX5_longWith 87 = .ok (.iload 5, 2) := z_dk tdX5_longWith_47 19 rfl
theorem dX5_longWith_89 : decode cX5_longWith 89 = .ok (.invokevirtual 76, 3) := z_dk tdX5_longWith_47 20 rfl
theorem dX5_longWith_92 : decode cX5_longWith 92 = .ok (.iadd, 1) := z_dk tdX5_longWith_47 21 rfl
theorem dX5_longWith_93 : decode cX5_longWith 93 = .ok (.istore 4, 2) := z_dk tdX5_longWith_47 22 rfl
theorem dX5_longWith_95 : decode cX5_longWith 95 = .ok (.iinc 5 1, 3) := z_dk tdX5_longWith_47 23 rfl
theorem tdX5_longWith_98 : (([(98, .goto (-23), 3), (101, .aload_n 0, 1), (102, .getfield 32, 3), (105, .invokevirtual 79, 3), (108, .aload_n 0, 1), (109, .getfield 32, 3), (112, .aload_n 0, 1), (113, .getfield 49, 3), (116, .aload_n 0, 1), (117, .getfield 52, 3), (120, .invokevirtual 81, 3), (123, .iload 4, 2), (125, .aload_n 0, 1), (126, .getfield 32, 3), (129, .iconst 0, 1), (130, .aload_n 0, 1), (131, .getfield 49, 3), (134, .aload_n 0, 1), (135, .getfield 52, 3), (138, .iload_n 3, 1), (139, .invokevirtual 84, 3), (142, .iadd, 1), (143, .ireturn, 1)] : List (Nat × Instr × Nat)).all fun e => decide (decode cX5_longWith e.1 = .ok e.2)) = true := by decide +kernel
theorem dX5_longWith_98 : decode cX5_longWith 98 = .ok (.goto (-23), 3) := z_dk tdX5_longWith_98 0 rfl
theorem dX5_longWith_101 : decode cX5_longWith 101 = .ok (.aload_n 0, 1) := z_dk tdX5_longWith_98 1 rfl
theorem dX5_longWith_102 : decode cX5_longWith 102 = .ok (.getfield 32, 3) := z_dk tdX5_longWith_98 2 rfl
theorem dX5_longWith_105 : decode cX5_longWith 105 = .ok (.invokevirtual 79, 3) := z_dk tdX5_longWith_98 3 rfl
theorem dX5_longWith_108 : decode cX5_longWith 108 = .ok (.aload_n 0, 1) := z_dk tdX5_longWith_98 4 rfl
theorem dX5_longWith_109 : decode cX5_longWith 109 = .ok (.getfield 32, 3) := z_dk tdX5_longWith_98 5 rfl
theorem dX5_longWith_112 : decode cX5_longWith 112 = .ok (.aload_n 0, 1) := z_dk tdX5_longWith_98 6 rfl
theorem dX5_longWith_113 : decode cX5_longWith 113 = .ok (.getfield 49, 3) := z_dk tdX5_longWith_98 7 rfl
theorem dX5_longWith_116 : decode cX5_longWith 116 = .ok (.aload_n 0, 1) := z_dk tdX5_longWith_98 8 rfl
theorem dX5_longWith_117 : decode cX5_longWith 117 = .ok (.getfield 52, 3) := z_dk tdX5_longWith_98 9 rfl
theorem dX5_longWith_120 : decode cX5_longWith 120 = .ok (.invokevirtual 81, 3) := z_dk tdX5_longWith_98 10 rfl
theorem dX5_longWith_123 : decode cX5_longWith 123 = .ok (.iload 4, 2) := z_dk tdX5_longWith_98 11 rfl
theorem dX5_longWith_125 : decode cX5_longWith 125 = .ok (.aload_n 0, 1) := z_dk tdX5_longWith_98 12 rfl
theorem dX5_longWith_126 : decode cX5_longWith 126 = .ok (.getfield 32, 3) := z_dk tdX5_longWith_98 13 rfl
theorem dX5_longWith_129 : decode cX5_longWith 129 = .ok (.iconst 0, 1) := z_dk tdX5_longWith_98 14 rfl
theorem dX5_longWith_130 : decode cX5_longWith 130 = .ok (.aload_n 0, 1) := z_dk tdX5_longWith_98 15 rfl
theorem dX5_longWith_131 : decode cX5_longWith 131 = .ok (.getfield 49, 3) := z_dk tdX5_longWith_98 16 rfl
theorem dX5_longWith_134 : decode cX5_longWith 134 = .ok (.aload_n 0, 1) := z_dk tdX5_longWith_98 17 rfl
theorem dX5_longWith_135 : decode cX5_longWith 135 = .ok (.getfield 52, 3) := z_dk tdX5_longWith_98 18 rfl
theorem dX5_longWith_138 : decode cX5_longWith 138 = .ok (.iload_n 3, 1) := z_dk tdX5_longWith_98 19 rfl
theorem dX5_longWith_139 : decode cX5_longWith 139 = .ok (.invokevirtual 84, 3) := z_dk tdX5_longWith_98 20 rfl
theorem dX5_longWith_142 : decode cX5_longWith 142 = .ok (.iadd, 1) := z_dk tdX5_longWith_98 21 rfl
theorem dX5_longWith_143 : decode cX5_longWith 143 = .ok (.ireturn, 1) := z_dk tdX5_longWith_98 22 rfl
theorem tdX5_lengthOf_0 : (([(0, .iload_n 1, 1), (1, .iload_n 2, 1), (2, .invokestatic 42, 3), (5, .istore_n 3, 1), (6, .aload_n 0, 1), (7, .getfield 14, 3), (10, .iload_n 3, 1), (11, .invokevirtual 58, 3), (14, .iconst 1, 1), (15, .isub, 1), (16, .istore 4, 2), (18, .iload 4, 2), (20, .ifCond .ge 31, 3), (23, .aload_n 0, 1), (24, .iload_n 1, 1), (25, .iload_n 2, 1), (26, .aload_n 0, 1), (27, .getfield 24, 3), (30, .iconst 2, 1), (31, .invokevirtual 58, 3), (34, .invokevirtual 88, 3), (37, .istore 4, 2), (39, .aload_n 0, 1), (40, .getfield 14, 3)] : List (Nat × Instr × Nat)).all fun e => decide (decode cX5_lengthOf e.1 = .ok e.2)) = true := by decide +kernel
theorem dX5_lengthOf_0 : decode cX5_lengthOf 0 = .ok (.iload_n 1, 1) := z_dk tdX5_lengthOf_0 0 rfl
theorem dX5_lengthOf_1 : decode cX5_lengthOf 1 = .ok (.iload_n 2, 1) := z_dk tdX5_lengthOf_0 1 rfl
theorem dX5_lengthOf_2 : decode cX5_lengthOf 2 = .ok (.invokestatic 42, 3) := z_dk tdX5_lengthOf_0 2 rfl
theorem dX5_lengthOf_5 : decode cX5_lengthOf 5 = .ok (.istore_n 3, 1) := z_dk tdX5_lengthOf_0 3 rfl
theorem dX5_lengthOf_6 : decode cX5_lengthOf 6 = .ok (.aload_n 0, 1) := z_dk tdX5_lengthOf_0 4 rfl
theorem dX5_lengthOf_7 : decode cX5_lengthOf 7 = .ok (.getfield 14, 3) := z_dk tdX5_lengthOf_0 5 rfl
theorem dX5_lengthOf_10 : decode cX5_lengthOf 10 = .ok (.iload_n 3, 1) := z_dk tdX5_lengthOf_0 6 rfl
theorem dX5_lengthOf_11 : decode cX5_lengthOf 11 = .ok (.invokevirtual 58, 3) := z_dk tdX5_lengthOf_0 7 rfl
theorem dX5_lengthOf_14 : decode cX5_lengthOf 14 = .ok (.iconst 1, 1) := z_dk tdX5_lengthOf_0 8 rfl
theorem dX5_lengthOf_15 : decode cX5_lengthOf 15 = .ok (.isub, 1) := z_dk tdX5_lengthOf_0 9 rfl
theorem dX5_lengthOf_16 : decode cX5_lengthOf 16 = .ok (.istore 4, 2) := z_dk tdX5_lengthOf_0 10 rfl
theorem dX5_lengthOf_18 : decode cX5_lengthOf 18 = .ok (.iload 4, 2) := z_dk tdX5_lengthOf_0 11 rfl
theorem dX5_lengthOf_20 : decode cX5_lengthOf 20 = .ok (.ifCond .ge 31, 3) := z_dk tdX5_lengthOf_0 12 rfl
theorem dX5_lengthOf_23 : decode cX5_lengthOf 23 = .ok (.aload_n 0, 1) := z_dk tdX5_lengthOf_0 13 rfl
theorem dX5_lengthOf_24 : decode cX5_lengthOf 24 = .ok (.iload_n 1, 1) := z_dk tdX5_lengthOf_0 14 rfl
theorem dX5_lengthOf_25 : decode cX5_lengthOf 25 = .ok (.iload_n 2, 1) := z_dk tdX5_lengthOf_0 15 rfl
theorem dX5_lengthOf_26 : decode cX5_lengthOf 26 = .ok (.aload_n 0, 1) := z_dk tdX5_lengthOf_0 16 rfl
theorem dX5_lengthOf_27 : decode cX5_lengthOf 27 = .ok (.getfield 24, 3) := z_dk tdX5_lengthOf_0 17 rfl
theorem dX5_lengthOf_30 : decode cX5_lengthOf 30 = .ok (.iconst 2, 1) := z_dk tdX5_lengthOf_0 18 rfl
theorem dX5_lengthOf_31 : decode cX5_lengthOf 31 = .ok (.invokevirtual 58, 3) := z_dk tdX5_lengthOf_0 19 rfl
theorem dX5_lengthOf_34 : decode cX5_lengthOf 34 = .ok (.invokevirtual 88, 3) := z_dk tdX5_lengthOf_0 20 rfl
theorem dX5_lengthOf_37 : decode cX5_lengthOf 37 = .ok (.istore 4, 2) := z_dk tdX5_lengthOf_0 21 rfl
theorem dX5_lengthOf_39 : decode cX5_lengthOf 39 = .ok (.aload_n 0, 1) := z_dk tdX5_lengthOf_0 22 rfl
theorem dX5_lengthOf_40 : decode cX5_lengthOf 40 = .ok (.getfield 14, 3) := z_dk tdX5_lengthOf_0 23 rfl
theorem tdX5_lengthOf_43 : (([(43, .iload_n 3, 1), (44, .iload 4, 2), (46, .iconst 1, 1), (47, .iadd, 1), (48, .invokevirtual 92, 3), (51, .iload 4, 2), (53, .ireturn, 1)] : List (Nat × Instr × Nat)).all fun e => decide (decode cX5_lengthOf e.1 = .ok e.2)) = true := by decide +kernel
theorem dX5_lengthOf_43 : decode cX5_lengthOf 43 = .ok (.iload_n 3, 1) := z_dk tdX5_lengthOf_43 0 rfl
theorem dX5_lengthOf_44 : decode cX5_lengthOf 44 = .ok (.iload 4, 2) := z_dk tdX5_lengthOf_43 1 rfl
theorem dX5_lengthOf_46 : decode cX5_lengthOf 46 = .ok (.iconst 1, 1) := z_dk tdX5_lengthOf_43 2 rfl
theorem dX5_lengthOf_47 : decode cX5_lengthOf 47 = .ok (.iadd, 1) := z_dk tdX5_lengthOf_43 3 rfl
theorem dX5_lengthOf_48 : decode cX5_lengthOf 48 = .ok (.invokevirtual 92, 3) := z_dk tdX5_lengthOf_43 4 rfl
theorem dX5_lengthOf_51 : decode cX5_lengthOf 51 = .ok (.iload 4, 2) := z_dk tdX5_lengthOf_43 5 rfl
theorem dX5_lengthOf_53 : decode cX5_lengthOf 53 = .ok (.ireturn, 1) := z_dk tdX5_lengthOf_43 6 rfl
theorem tdX6_init_0 : (([(0, .aload_n 0, 1), (1, .invokespecial 3, 3), (4, .aload_n 0, 1), (5, .aload_n 1, 1), (6, .putfield 9, 3), (9, .return_, 1)] : List (Nat × Instr × Nat)).all fun e => decide (decode cX6_init e.1 = .ok e.2)) = true := by decide +kernel
theorem dX6_init_0 : decode cX6_init 0 = .ok (.aload_n 0, 1) := z_dk tdX6_init_0 0 rfl
theorem dX6_init_1 : decode cX6_init 1 = .ok (.invokespecial 3, 3) := z_dk tdX6_init_0 1 rfl
theorem dX6_init_4 : decode cX6_init 4 = .ok (.aload_n 0, 1) := z_dk tdX6_init_0 2 rfl
theorem dX6_init_5 : decode cX6_init 5 = .ok (.aload_n 1, 1) := z_dk tdX6_init_0 3 rfl
theorem dX6_init_6 : decode cX6_init 6 = .ok (.putfield 9, 3) := z_dk tdX6_init_0 4 rfl
theorem dX6_init_9 : decode cX6_init 9 = .ok (.return_, 1) := z_dk tdX6_init_0 5 rfl
theorem tdX6_read_0 : (([(0, .aload_n 0, 1), (1, .iconst 0, 1), (2, .putfield 15, 3), (5, .aload_n 0, 1), (6, .iconst 0, 1), (7, .putfield 19, 3), (10, .aload_n 0, 1), (11, .getfield 19, 3), (14, .iload_n 2, 1), (15, .if_icmp .ge 35, 3), (18, .aload_n 0, 1), (19, .aload_n 1, 1), (20, .aload_n 0, 1), (21, .getfield 19, 3), (24, .invokevirtual 22, 3), (27, .invokevirtual 28, 3), (30, .istore_n 3, 1), (31, .iload_n 3, 1), (32, .ifCond .eq 5, 3), (35, .iload_n 3, 1), (36, .ireturn, 1), (37, .aload_n 0, 1), (38, .dup, 1), (39, .getfield 19, 3)] : List (Nat × Instr × Nat)).all fun e => decide (decode cX6_read e.1 = .ok e.2)) = true := by decide +kernel
theorem dX6_read_0 : decode cX6_read 0 = .ok (.aload_n 0, 1) := z_dk tdX6_read_0 0 rfl
theorem dX6_read_1 : decode cX6_read 1 = .ok (.iconst 0, 1) := z_dk tdX6_read_0 1 rfl
theorem dX6_read_2 : decode cX6_read 2 = .ok (.putfield 15, 3) := z_dk tdX6_read_0 2 rfl
theorem dX6_read_5 : decode cX6_read 5 = .ok (.aload_n 0, 1) := z_dk tdX6_read_0 3 rfl
theorem dX6_read_6 : decode cX6_read 6 = .ok (.iconst 0, 1) := z_dk tdX6_read_0 4 rfl
theorem dX6_read_7 : decode cX6_read 7 = .ok (.putfield 19, 3) := z_dk tdX6_read_0 5 rfl
theorem dX6_read_10 : decode cX6_read 10 = .ok (.aload_n 0, 1) := z_dk tdX6_read_0 6 rfl
theorem dX6_read_11 : decode cX6_read 11 = .ok (.getfield 19, 3) := z_dk tdX6_read_0 7 rfl
theorem dX6_read_14 : decode cX6_read 14 = .ok (.iload_n 2, 1) := z_dk tdX6_read_0 8 rfl
theorem dX6_read_15 : decode cX6_read 15 = .ok (.if_icmp .ge 35, 3) := z_dk tdX6_read_0 9 rfl
theorem dX6_read_18 : decode cX6_read 18 = .ok (.aload_n 0, 1) := z_dk tdX6_read_0 10 rfl
theorem dX6_read_19 : decode cX6_read 19 = .ok (.aload_n 1, 1) := z_dk tdX6_read_0 11 rfl
theorem dX6_read_20 : decode cX6_read 20 = .ok (.aload_n 0, 1) := z_dk tdX6_read_0 12 rfl
theorem dX6_read_21 : decode cX6_read 21 = .ok (.getfield 19, 3) := z_dk tdX6_read_0 13 rfl
theorem dX6_read_24 : decode cX6_read 24 = .ok (.invokevirtual 22, 3) := z_dk tdX6_read_0 14 rfl
theorem dX6_read_27 : decode cX6_read 27 = .ok (.invokevirtual 28, 3) := z_dk tdX6_read_0 15 rfl
theorem dX6_read_30 : decode cX6_read 30 = .ok (.istore_n 3, 1) := z_dk tdX6_read_0 16 rfl
theorem dX6_read_31 : decode cX6_read 31 = .ok (.iload_n 3, 1) := z_dk tdX6_read_0 17 rfl
theorem dX6_read_32 : decode cX6_read 32 = .ok (.ifCond .eq 5, 3) := z_dk tdX6_read_0 18 rfl
theorem dX6_read_35 : decode cX6_read 35 = .ok (.iload_n 3, 1) := z_dk tdX6_read_0 19 rfl
theorem dX6_read_36 : decode cX6_read 36 = .ok (.ireturn, 1) := z_dk tdX6_read_0 20 rfl
theorem dX6_read_37 : decode cX6_read 37 = .ok (.aload_n 0, 1) := z_dk tdX6_read_0 21 rfl
theorem dX6_read_38 : decode cX6_read 38 = .ok (.dup, 1) := z_dk tdX6_read_0 22 rfl
theorem dX6_read_39 : decode cX6_read 39 = .ok (.getfield 19, 3) := z_dk tdX6_read_0 23 rfl
theorem tdX6_read_42 : (([(42, .iconst 1, 1), (43, .iadd, 1), (44, .putfield 19, 3), (47, .goto (-37), 3), (50, .aload_n 0, 1), (51, .getfield 15, 3), (54, .ifCond .ne 7, 3), (57, .iconst 0, 1), (58, .goto 4, 3), (61, .iconst 1, 1), (62, .ireturn, 1)] : List (Nat × Instr × Nat)).all fun e => decide (decode cX6_read e.1 = .ok e.2)) = true := by decide +kernel
theorem dX6_read_42 : decode cX6_read 42 = .ok (.iconst 1, 1) := z_dk tdX6_read_42 0 rfl
theorem dX6_read_43 : decode cX6_read 43 = .ok (.iadd, 1) := z_dk tdX6_read_42 1 rfl
theorem dX6_read_44 : decode cX6_read 44 = .ok (.putfield 19, 3) := z_dk tdX6_read_42 2 rfl
theorem dX6_read_47 : decode cX6_read 47 = .ok (.goto (-37), 3) := z_dk tdX6_read_42 3 rfl
theorem dX6_read_50 : decode cX6_read 50 = .ok (.aload_n 0, 1) := z_dk tdX6_read_42 4 rfl
theorem dX6_read_51 : decode cX6_read 51 = .ok (.getfield 15, 3) := z_dk tdX6_read_42 5 rfl
theorem dX6_read_54 : decode cX6_read 54 = .ok (.ifCond .ne 7, 3) := z_dk tdX6_read_42 6 rfl
theorem dX6_read_57 : decode cX6_read 57 = .ok (.iconst 0, 1) := z_dk tdX6_read_42 7 rfl
theorem dX6_read_58 : decode cX6_read 58 = .ok (.goto 4, 3) := z_dk tdX6_read_42 8 rfl
theorem dX6_read_61 : decode cX6_read 61 = .ok (.iconst 1, 1) := z_dk tdX6_read_42 9 rfl
theorem dX6_read_62 : decode cX6_read 62 = .ok (.ireturn, 1) := z_dk tdX6_read_42 10 rfl
theorem tdX6_step_0 : (([(0, .aload_n 0, 1), (1, .getfield 15, 3), (4, .tableswitch 46 0 2 #[28, 34, 40], 28), (32, .aload_n 0, 1), (33, .iload_n 1, 1), (34, .invokevirtual 31, 3), (37, .ireturn, 1), (38, .aload_n 0, 1), (39, .iload_n 1, 1), (40, .invokevirtual 34, 3), (43, .ireturn, 1), (44, .aload_n 0, 1), (45, .iload_n 1, 1), (46, .invokevirtual 37, 3), (49, .ireturn, 1), (50, .aload_n 0, 1), (51, .iload_n 1, 1), (52, .invokevirtual 40, 3), (55, .ireturn, 1)] : List (Nat × Instr × Nat)).all fun e => decide (decode cX6_step e.1 = .ok e.2)) = true := by decide +kernel
theorem dX6_step_0 : decode cX6_step 0 = .ok (.aload_n 0, 1) := z_dk tdX6_step_0 0 rfl
theorem dX6_step_1 : decode cX6_step 1 = .ok (.getfield 15, 3) := z_dk tdX6_step_0 1 rfl
theorem dX6_step_4 : decode cX6_step 4 = .ok (.tableswitch 46 0 2 #[28, 34, 40], 28) := z_dk tdX6_step_0 2 rfl
theorem dX6_step_32 : decode cX6_step 32 = .ok (.aload_n 0, 1) := z_dk tdX6_step_0 3 rfl
theorem dX6_step_33 : decode cX6_step 33 = .ok (.iload_n 1, 1) := z_dk tdX6_step_0 4 rfl
theorem dX6_step_34 : decode cX6_step 34 = .ok (.invokevirtual 31, 3) := z_dk tdX6_step_0 5 rfl
theorem dX6_step_37 : decode cX6_step 37 = .ok (.ireturn, 1) := z_dk tdX6_step_0 6 rfl
theorem dX6_step_38 : decode cX6_step 38 = .ok (.aload_n 0, 1) := z_dk tdX6_step_0 7 rfl
theorem dX6_step_39 : decode cX6_step 39 = .ok (.iload_n 1, 1) := z_dk tdX6_step_0 8 rfl
theorem dX6_step_40 : decode cX6_step 40 = .ok (.invokevirtual 34, 3) := z_dk tdX6_step_0 9 rfl
theorem dX6_step_43 : decode cX6_step 43 = .ok (.ireturn, 1) := z_dk tdX6_step_0 10 rfl
theorem dX6_step_44 : decode cX6_step 44 = .ok (.aload_n 0, 1) := z_dk tdX6_step_0 11 rfl
theorem dX6_step_45 : decode cX6_step 45 = .ok (.iload_n 1, 1) := z_dk tdX6_step_0 12 rfl
theorem dX6_step_46 : decode cX6_step 46 = .ok (.invokevirtual 37, 3) := z_dk tdX6_step_0 13 rfl
theorem dX6_step_49 : decode cX6_step 49 = .ok (.ireturn, 1) := z_dk tdX6_step_0 14 rfl
theorem dX6_step_50 : decode cX6_step 50 = .ok (.aload_n 0, 1) := z_dk tdX6_step_0 15 rfl
theorem dX6_step_51 : decode cX6_step 51 = .ok (.iload_n 1, 1) := z_dk tdX6_step_0 16 rfl
theorem dX6_step_52 : decode cX6_step 52 = .ok (.invokevirtual 40, 3) := z_dk tdX6_step_0 17 rfl
theorem dX6_step_55 : decode cX6_step 55 = .ok (.ireturn, 1) := z_dk tdX6_step_0 18 rfl
theorem tdX6_stepOutside_0 : (([(0, .iload_n 1, 1), (1, .bipush 42, 2), (3, .if_icmp .ne 21, 3), (6, .aload_n 0, 1), (7, .getfield 9, 3), (10, .dup, 1), (11, .getfield 43, 3), (14, .iconst 0, 1), (15, .invokestatic 48, 3), (18, .ixor, 1), (19, .putfield 43, 3), (22, .iconst 0, 1), (23, .ireturn, 1), (24, .iload_n 1, 1), (25, .bipush 95, 2), (27, .if_icmp .ne 21, 3), (30, .aload_n 0, 1), (31, .getfield 9, 3), (34, .dup, 1), (35, .getfield 43, 3), (38, .iconst 1, 1), (39, .invokestatic 48, 3), (42, .ixor, 1), (43, .putfield 43, 3)] : List (Nat × Instr × Nat)).all fun e => decide (decode cX6_stepOutside e.1 = .ok e.2)) = true := by decide +kernel
theorem dX6_stepOutside_0 : decode cX6_stepOutside 0 = .ok (.iload_n 1, 1) := z_dk tdX6_stepOutside_0 0 rfl
theorem dX6_stepOutside_1 : decode cX6_stepOutside 1 = .ok (.bipush 42, 2) := z_dk tdX6_stepOutside_0 1 rfl
theorem dX6_stepOutside_3 : decode cX6_stepOutside 3 = .ok (.if_icmp .ne 21, 3) := z_dk tdX6_stepOutside_0 2 rfl
theorem dX6_stepOutside_6 : decode cX6_stepOutside 6 = .ok (.aload_n 0, 1) := z_dk tdX6_stepOutside_0 3 rfl
theorem dX6_stepOutside_7 : decode cX6_stepOutside 7 = .ok (.getfield 9, 3) := z_dk tdX6_stepOutside_0 4 rfl
theorem dX6_stepOutside_10 : decode cX6_stepOutside 10 = .ok (.dup, 1) := z_dk tdX6_stepOutside_0 5 rfl
theorem dX6_stepOutside_11 : decode cX6_stepOutside 11 = .ok (.getfield 43, 3) := z_dk tdX6_stepOutside_0 6 rfl
theorem dX6_stepOutside_14 : decode cX6_stepOutside 14 = .ok (.iconst 0, 1) := z_dk tdX6_stepOutside_0 7 rfl
theorem dX6_stepOutside_15 : decode cX6_stepOutside 15 = .ok (.invokestatic 48, 3) := z_dk tdX6_stepOutside_0 8 rfl
theorem dX6_stepOutside_18 : decode cX6_stepOutside 18 = .ok (.ixor, 1) := z_dk tdX6_stepOutside_0 9 rfl
theorem dX6_stepOutside_19 : decode cX6_stepOutside 19 = .ok (.putfield 43, 3) := z_dk tdX6_stepOutside_0 10 rfl
theorem dX6_stepOutside_22 : decode cX6_stepOutside 22 = .ok (.iconst 0, 1) := z_dk tdX6_stepOutside_0 11 rfl
theorem dX6_stepOutside_23 : decode cX6_stepOutside 23 = .ok (.ireturn, 1) := z_dk tdX6_stepOutside_0 12 rfl
theorem dX6_stepOutside_24 : decode cX6_stepOutside 24 = .ok (.iload_n 1, 1) := z_dk tdX6_stepOutside_0 13 rfl
theorem dX6_stepOutside_25 : decode cX6_stepOutside 25 = .ok (.bipush 95, 2) := z_dk tdX6_stepOutside_0 14 rfl
theorem dX6_stepOutside_27 : decode cX6_stepOutside 27 = .ok (.if_icmp .ne 21, 3) := z_dk tdX6_stepOutside_0 15 rfl
theorem dX6_stepOutside_30 : decode cX6_stepOutside 30 = .ok (.aload_n 0, 1) := z_dk tdX6_stepOutside_0 16 rfl
theorem dX6_stepOutside_31 : decode cX6_stepOutside 31 = .ok (.getfield 9, 3) := z_dk tdX6_stepOutside_0 17 rfl
theorem dX6_stepOutside_34 : decode cX6_stepOutside 34 = .ok (.dup, 1) := z_dk tdX6_stepOutside_0 18 rfl
theorem dX6_stepOutside_35 : decode cX6_stepOutside 35 = .ok (.getfield 43, 3) := z_dk tdX6_stepOutside_0 19 rfl
theorem dX6_stepOutside_38 : decode cX6_stepOutside 38 = .ok (.iconst 1, 1) := z_dk tdX6_stepOutside_0 20 rfl
theorem dX6_stepOutside_39 : decode cX6_stepOutside 39 = .ok (.invokestatic 48, 3) := z_dk tdX6_stepOutside_0 21 rfl
theorem dX6_stepOutside_42 : decode cX6_stepOutside 42 = .ok (.ixor, 1) := z_dk tdX6_stepOutside_0 22 rfl
theorem dX6_stepOutside_43 : decode cX6_stepOutside 43 = .ok (.putfield 43, 3) := z_dk tdX6_stepOutside_0 23 rfl
theorem tdX6_stepOutside_46 : (([(46, .iconst 0, 1), (47, .ireturn, 1), (48, .iload_n 1, 1), (49, .bipush 123, 2), (51, .if_icmp .ne 28, 3), (54, .aload_n 0, 1), (55, .getfield 9, 3), (58, .dup, 1), (59, .getfield 53, 3), (62, .iconst 1, 1), (63, .iadd, 1), (64, .putfield 53, 3), (67, .aload_n 0, 1), (68, .iconst 0, 1), (69, .putfield 56, 3), (72, .aload_n 0, 1), (73, .iconst 1, 1), (74, .putfield 15, 3), (77, .iconst 0, 1), (78, .ireturn, 1), (79, .iload_n 1, 1), (80, .invokestatic 59, 3), (83, .ifCond .eq 18, 3), (86, .aload_n 0, 1)] : List (Nat × Instr × Nat)).all fun e => decide (decode cX6_stepOutside e.1 = .ok e.2)) = true := by decide +kernel
theorem dX6_stepOutside_46 : decode cX6_stepOutside 46 = .ok (.iconst 0, 1) := z_dk tdX6_stepOutside_46 0 rfl
theorem dX6_stepOutside_47 : decode cX6_stepOutside 47 = .ok (.ireturn, 1) := z_dk tdX6_stepOutside_46 1 rfl
theorem dX6_stepOutside_48 : decode cX6_stepOutside 48 = .ok (.iload_n 1, 1) := z_dk tdX6_stepOutside_46 2 rfl
theorem dX6_stepOutside_49 : decode cX6_stepOutside 49 = .ok (.bipush 123, 2) := z_dk tdX6_stepOutside_46 3 rfl
theorem dX6_stepOutside_51 : decode cX6_stepOutside 51 = .ok (.if_icmp .ne 28, 3) := z_dk tdX6_stepOutside_46 4 rfl
theorem dX6_stepOutside_54 : decode cX6_stepOutside 54 = .ok (.aload_n 0, 1) := z_dk tdX6_stepOutside_46 5 rfl
theorem dX6_stepOutside_55 : decode cX6_stepOutside 55 = .ok (.getfield 9, 3) := z_dk tdX6_stepOutside_46 6 rfl
theorem dX6_stepOutside_58 : decode cX6_stepOutside 58 = .ok (.dup, 1) := z_dk tdX6_stepOutside_46 7 rfl
theorem dX6_stepOutside_59 : decode cX6_stepOutside 59 = .ok (.getfield 53, 3) := z_dk tdX6_stepOutside_46 8 rfl
theorem dX6_stepOutside_62 : decode cX6_stepOutside 62 = .ok (.iconst 1, 1) := z_dk tdX6_stepOutside_46 9 rfl
theorem dX6_stepOutside_63 : decode cX6_stepOutside 63 = .ok (.iadd, 1) := z_dk tdX6_stepOutside_46 10 rfl
theorem dX6_stepOutside_64 : decode cX6_stepOutside 64 = .ok (.putfield 53, 3) := z_dk tdX6_stepOutside_46 11 rfl
theorem dX6_stepOutside_67 : decode cX6_stepOutside 67 = .ok (.aload_n 0, 1) := z_dk tdX6_stepOutside_46 12 rfl
theorem dX6_stepOutside_68 : decode cX6_stepOutside 68 = .ok (.iconst 0, 1) := z_dk tdX6_stepOutside_46 13 rfl
theorem dX6_stepOutside_69 : decode cX6_stepOutside 69 = .ok (.putfield 56, 3) := z_dk tdX6_stepOutside_46 14 rfl
theorem dX6_stepOutside_72 : decode cX6_stepOutside 72 = .ok (.aload_n 0, 1) := z_dk tdX6_stepOutside_46 15 rfl
theorem dX6_stepOutside_73 : decode cX6_stepOutside 73 = .ok (.iconst 1, 1) := z_dk tdX6_stepOutside_46 16 rfl
theorem dX6_stepOutside_74 : decode cX6_stepOutside 74 = .ok (.putfield 15, 3) := z_dk tdX6_stepOutside_46 17 rfl
theorem dX6_stepOutside_77 : decode cX6_stepOutside 77 = .ok (.iconst 0, 1) := z_dk tdX6_stepOutside_46 18 rfl
theorem dX6_stepOutside_78 : decode cX6_stepOutside 78 = .ok (.ireturn, 1) := z_dk tdX6_stepOutside_46 19 rfl
theorem dX6_stepOutside_79 : decode cX6_stepOutside 79 = .ok (.iload_n 1, 1) := z_dk tdX6_stepOutside_46 20 rfl
theorem dX6_stepOutside_80 : decode cX6_stepOutside 80 = .ok (.invokestatic 59, 3) := z_dk tdX6_stepOutside_46 21 rfl
theorem dX6_stepOutside_83 : decode cX6_stepOutside 83 = .ok (.ifCond .eq 18, 3) := z_dk tdX6_stepOutside_46 22 rfl
theorem dX6_stepOutside_86 : decode cX6_stepOutside 86 = .ok (.aload_n 0, 1) := z_dk tdX6_stepOutside_46 23 rfl
theorem tdX6_stepOutside_87 : (([(87, .iload_n 1, 1), (88, .iconst (-1), 1), (89, .iconst 0, 1), (90, .aload_n 0, 1), (91, .getfield 9, 3), (94, .getfield 43, 3), (97, .invokevirtual 63, 3), (100, .ireturn, 1), (101, .iload_n 1, 1), (102, .invokestatic 67, 3), (105, .ifCond .eq 14, 3), (108, .aload_n 0, 1), (109, .iload_n 1, 1), (110, .iconst (-1), 1), (111, .iconst 0, 1), (112, .iconst 0, 1), (113, .invokevirtual 63, 3), (116, .goto 4, 3), (119, .iconst 1, 1), (120, .ireturn, 1)] : List (Nat × Instr × Nat)).all fun e => decide (decode cX6_stepOutside e.1 = .ok e.2)) = true := by decide +kernel
theorem dX6_stepOutside_87 : decode cX6_stepOutside 87 = .ok (.iload_n 1, 1) := z_dk tdX6_stepOutside_87 0 rfl
theorem dX6_stepOutside_88 : decode cX6_stepOutside 88 = .ok (.iconst (-1), 1) := z_dk tdX6_stepOutside_87 1 rfl
theorem dX6_stepOutside_89 : decode cX6_stepOutside 89 = .ok (.iconst 0, 1) := z_dk tdX6_stepOutside_87 2 rfl
theorem dX6_stepOutside_90 : decode cX6_stepOutside 90 = .ok (.aload_n 0, 1) := z_dk tdX6_stepOutside_87 3 rfl
theorem dX6_stepOutside_91 : decode cX6_stepOutside 91 = .ok (.getfield 9, 3) := z_dk tdX6_stepOutside_87 4 rfl
theorem dX6_stepOutside_94 : decode cX6_stepOutside 94 = .ok (.getfield 43, 3) := z_dk tdX6_stepOutside_87 5 rfl
theorem dX6_stepOutside_97 : decode cX6_stepOutside 97 = .ok (.invokevirtual 63, 3) := z_dk tdX6_stepOutside_87 6 rfl
theorem dX6_stepOutside_100 : decode cX6_stepOutside 100 = .ok (.ireturn, 1) := z_dk tdX6_stepOutside_87 7 rfl
theorem dX6_stepOutside_101 : decode cX6_stepOutside 101 = .ok (.iload_n 1, 1) := z_dk tdX6_stepOutside_87 8 rfl
theorem dX6_stepOutside_102 : decode cX6_stepOutside 102 = .ok (.invokestatic 67, 3) := z_dk tdX6_stepOutside_87 9 rfl
theorem dX6_stepOutside_105 : decode cX6_stepOutside 105 = .ok (.ifCond .eq 14, 3) := z_dk tdX6_stepOutside_87 10 rfl
theorem dX6_stepOutside_108 : decode cX6_stepOutside 108 = .ok (.aload_n 0, 1) := z_dk tdX6_stepOutside_87 11 rfl
theorem dX6_stepOutside_109 : decode cX6_stepOutside 109 = .ok (.iload_n 1, 1) := z_dk tdX6_stepOutside_87 12 rfl
theorem dX6_stepOutside_110 : decode cX6_stepOutside 110 = .ok (.iconst (-1), 1) := z_dk tdX6_stepOutside_87 13 rfl
theorem dX6_stepOutside_111 : decode cX6_stepOutside 111 = .ok (.iconst 0, 1) := z_dk tdX6_stepOutside_87 14 rfl
theorem dX6_stepOutside_112 : decode cX6_stepOutside 112 = .ok (.iconst 0, 1) := z_dk tdX6_stepOutside_87 15 rfl
theorem dX6_stepOutside_113 : decode cX6_stepOutside 113 = .ok (.invokevirtual 63, 3) := z_dk tdX6_stepOutside_87 16 rfl
theorem dX6_stepOutside_116 : decode cX6_stepOutside 116 = .ok (.goto 4, 3) := z_dk tdX6_stepOutside_87 17 rfl
theorem dX6_stepOutside_119 : decode cX6_stepOutside 119 = .ok (.iconst 1, 1) := z_dk tdX6_stepOutside_87 18 rfl
theorem dX6_stepOutside_120 : decode cX6_stepOutside 120 = .ok (.ireturn, 1) := z_dk tdX6_stepOutside_87 19 rfl
theorem tdX6_stepBaseDue_0 : (([(0, .aload_n 0, 1), (1, .getfield 56, 3), (4, .iconst 4, 1), (5, .if_icmp .eq 10, 3), (8, .iload_n 1, 1), (9, .invokestatic 59, 3), (12, .ifCond .ne 5, 3), (15, .iconst 1, 1), (16, .ireturn, 1), (17, .aload_n 0, 1), (18, .dup, 1), (19, .getfield 56, 3), (22, .iconst 1, 1), (23, .iadd, 1), (24, .putfield 56, 3), (27, .aload_n 0, 1), (28, .iconst 1, 1), (29, .putfield 70, 3), (32, .aload_n 0, 1), (33, .aload_n 0, 1), (34, .getfield 9, 3), (37, .getfield 73, 3), (40, .putfield 76, 3), (43, .aload_n 0, 1)] : List (Nat × Instr × Nat)).all fun e => decide (decode cX6_stepBaseDue e.1 = .ok e.2)) = true := by decide +kernel
theorem dX6_stepBaseDue_0 : decode cX6_stepBaseDue 0 = .ok (.aload_n 0, 1) := z_dk tdX6_stepBaseDue_0 0 rfl
theorem dX6_stepBaseDue_1 : decode cX6_stepBaseDue 1 = .ok (.getfield 56, 3) := z_dk tdX6_stepBaseDue_0 1 rfl
theorem dX6_stepBaseDue_4 : decode cX6_stepBaseDue 4 = .ok (.iconst 4, 1) := z_dk tdX6_stepBaseDue_0 2 rfl
theorem dX6_stepBaseDue_5 : decode cX6_stepBaseDue 5 = .ok (.if_icmp .eq 10, 3) := z_dk tdX6_stepBaseDue_0 3 rfl
theorem dX6_stepBaseDue_8 : decode cX6_stepBaseDue 8 = .ok (.iload_n 1, 1) := z_dk tdX6_stepBaseDue_0 4 rfl
theorem dX6_stepBaseDue_9 : decode cX6_stepBaseDue 9 = .ok (.invokestatic 59, 3) := z_dk tdX6_stepBaseDue_0 5 rfl
theorem dX6_stepBaseDue_12 : decode cX6_stepBaseDue 12 = .ok (.ifCond .ne 5, 3) := z_dk tdX6_stepBaseDue_0 6 rfl
theorem dX6_stepBaseDue_15 : decode cX6_stepBaseDue 15 = .ok (.iconst 1, 1) := z_dk tdX6_stepBaseDue_0 7 rfl
theorem dX6_stepBaseDue_16 : decode cX6_stepBaseDue 16 = .ok (.ireturn, 1) := z_dk tdX6_stepBaseDue_0 8 rfl
theorem dX6_stepBaseDue_17 : decode cX6_stepBaseDue 17 = .ok (.aload_n 0, 1) := z_dk tdX6_stepBaseDue_0 9 rfl
theorem dX6_stepBaseDue_18 : decode cX6_stepBaseDue 18 = .ok (.dup, 1) := z_dk tdX6_stepBaseDue_0 10 rfl
theorem dX6_stepBaseDue_19 : decode cX6_stepBaseDue 19 = .ok (.getfield 56, 3) := z_dk tdX6_stepBaseDue_0 11 rfl
theorem dX6_stepBaseDue_22 : decode cX6_stepBaseDue 22 = .ok (.iconst 1, 1) := z_dk tdX6_stepBaseDue_0 12 rfl
theorem dX6_stepBaseDue_23 : decode cX6_stepBaseDue 23 = .ok (.iadd, 1) := z_dk tdX6_stepBaseDue_0 13 rfl
theorem dX6_stepBaseDue_24 : decode cX6_stepBaseDue 24 = .ok (.putfield 56, 3) := z_dk tdX6_stepBaseDue_0 14 rfl
theorem dX6_stepBaseDue_27 : decode cX6_stepBaseDue 27 = .ok (.aload_n 0, 1) := z_dk tdX6_stepBaseDue_0 15 rfl
theorem dX6_stepBaseDue_28 : decode cX6_stepBaseDue 28 = .ok (.iconst 1, 1) := z_dk tdX6_stepBaseDue_0 16 rfl
theorem dX6_stepBaseDue_29 : decode cX6_stepBaseDue 29 = .ok (.putfield 70, 3) := z_dk tdX6_stepBaseDue_0 17 rfl
theorem dX6_stepBaseDue_32 : decode cX6_stepBaseDue 32 = .ok (.aload_n 0, 1) := z_dk tdX6_stepBaseDue_0 18 rfl
theorem dX6_stepBaseDue_33 : decode cX6_stepBaseDue 33 = .ok (.aload_n 0, 1) := z_dk tdX6_stepBaseDue_0 19 rfl
theorem dX6_stepBaseDue_34 : decode cX6_stepBaseDue 34 = .ok (.getfield 9, 3) := z_dk tdX6_stepBaseDue_0 20 rfl
theorem dX6_stepBaseDue_37 : decode cX6_stepBaseDue 37 = .ok (.getfield 73, 3) := z_dk tdX6_stepBaseDue_0 21 rfl
theorem dX6_stepBaseDue_40 : decode cX6_stepBaseDue 40 = .ok (.putfield 76, 3) := z_dk tdX6_stepBaseDue_0 22 rfl
theorem dX6_stepBaseDue_43 : decode cX6_stepBaseDue 43 = .ok (.aload_n 0, 1) := z_dk tdX6_stepBaseDue_0 23 rfl
theorem tdX6_stepBaseDue_44 : (([(44, .iconst 2, 1), (45, .putfield 15, 3), (48, .aload_n 0, 1), (49, .iload_n 1, 1), (50, .aload_n 0, 1), (51, .getfield 9, 3), (54, .getfield 53, 3), (57, .iconst 1, 1), (58, .isub, 1), (59, .iconst 1, 1), (60, .aload_n 0, 1), (61, .getfield 9, 3), (64, .getfield 43, 3), (67, .invokevirtual 63, 3), (70, .ireturn, 1)] : List (Nat × Instr × Nat)).all fun e => decide (decode cX6_stepBaseDue e.1 = .ok e.2)) = true := by decide +kernel
theorem dX6_stepBaseDue_44 : decode cX6_stepBaseDue 44 = .ok (.iconst 2, 1) := z_dk tdX6_stepBaseDue_44 0 rfl
theorem dX6_stepBaseDue_45 : decode cX6_stepBaseDue 45 = .ok (.putfield 15, 3) := z_dk tdX6_stepBaseDue_44 1 rfl
theorem dX6_stepBaseDue_48 : decode cX6_stepBaseDue 48 = .ok (.aload_n 0, 1) := z_dk tdX6_stepBaseDue_44 2 rfl
theorem dX6_stepBaseDue_49 : decode cX6_stepBaseDue 49 = .ok (.iload_n 1, 1) := z_dk tdX6_stepBaseDue_44 3 rfl
theorem dX6_stepBaseDue_50 : decode cX6_stepBaseDue 50 = .ok (.aload_n 0, 1) := z_dk tdX6_stepBaseDue_44 4 rfl
theorem dX6_stepBaseDue_51 : decode cX6_stepBaseDue 51 = .ok (.getfield 9, 3) := z_dk tdX6_stepBaseDue_44 5 rfl
theorem dX6_stepBaseDue_54 : decode cX6_stepBaseDue 54 = .ok (.getfield 53, 3) := z_dk tdX6_stepBaseDue_44 6 rfl
theorem dX6_stepBaseDue_57 : decode cX6_stepBaseDue 57 = .ok (.iconst 1, 1) := z_dk tdX6_stepBaseDue_44 7 rfl
theorem dX6_stepBaseDue_58 : decode cX6_stepBaseDue 58 = .ok (.isub, 1) := z_dk tdX6_stepBaseDue_44 8 rfl
theorem dX6_stepBaseDue_59 : decode cX6_stepBaseDue 59 = .ok (.iconst 1, 1) := z_dk tdX6_stepBaseDue_44 9 rfl
theorem dX6_stepBaseDue_60 : decode cX6_stepBaseDue 60 = .ok (.aload_n 0, 1) := z_dk tdX6_stepBaseDue_44 10 rfl
theorem dX6_stepBaseDue_61 : decode cX6_stepBaseDue 61 = .ok (.getfield 9, 3) := z_dk tdX6_stepBaseDue_44 11 rfl
theorem dX6_stepBaseDue_64 : decode cX6_stepBaseDue 64 = .ok (.getfield 43, 3) := z_dk tdX6_stepBaseDue_44 12 rfl
theorem dX6_stepBaseDue_67 : decode cX6_stepBaseDue 67 = .ok (.invokevirtual 63, 3) := z_dk tdX6_stepBaseDue_44 13 rfl
theorem dX6_stepBaseDue_70 : decode cX6_stepBaseDue 70 = .ok (.ireturn, 1) := z_dk tdX6_stepBaseDue_44 14 rfl
theorem tdX6_stepInBase_0 : (([(0, .iload_n 1, 1), (1, .bipush 124, 2), (3, .if_icmp .ne 20, 3), (6, .aload_n 0, 1), (7, .iconst 0, 1), (8, .putfield 79, 3), (11, .aload_n 0, 1), (12, .iconst 0, 1), (13, .putfield 82, 3), (16, .aload_n 0, 1), (17, .iconst 3, 1), (18, .putfield 15, 3), (21, .iconst 0, 1), (22, .ireturn, 1), (23, .aload_n 0, 1), (24, .getfield 70, 3), (27, .iconst 3, 1), (28, .if_icmp .eq 10, 3), (31, .iload_n 1, 1), (32, .invokestatic 59, 3), (35, .ifCond .ne 5, 3), (38, .iconst 1, 1), (39, .ireturn, 1), (40, .aload_n 0, 1)] : List (Nat × Instr × Nat)).all fun e => decide (decode cX6_stepInBase e.1 = .ok e.2)) = true := by decide +kernel
theorem dX6_stepInBase_0 : decode cX6_stepInBase 0 = .ok (.iload_n 1, 1) := z_dk tdX6_stepInBase_0 0 rfl
theorem dX6_stepInBase_1 : decode cX6_stepInBase 1 = .ok (.bipush 124, 2) := z_dk tdX6_stepInBase_0 1 rfl
theorem dX6_stepInBase_3 : decode cX6_stepInBase 3 = .ok (.if_icmp .ne 20, 3) := z_dk tdX6_stepInBase_0 2 rfl
theorem dX6_stepInBase_6 : decode cX6_stepInBase 6 = .ok (.aload_n 0, 1) := z_dk tdX6_stepInBase_0 3 rfl
theorem dX6_stepInBase_7 : decode cX6_stepInBase 7 = .ok (.iconst 0, 1) := z_dk tdX6_stepInBase_0 4 rfl
theorem dX6_stepInBase_8 : decode cX6_stepInBase 8 = .ok (.putfield 79, 3) := z_dk tdX6_stepInBase_0 5 rfl
theorem dX6_stepInBase_11 : decode cX6_stepInBase 11 = .ok (.aload_n 0, 1) := z_dk tdX6_stepInBase_0 6 rfl
theorem dX6_stepInBase_12 : decode cX6_stepInBase 12 = .ok (.iconst 0, 1) := z_dk tdX6_stepInBase_0 7 rfl
theorem dX6_stepInBase_13 : decode cX6_stepInBase 13 = .ok (.putfield 82, 3) := z_dk tdX6_stepInBase_0 8 rfl
theorem dX6_stepInBase_16 : decode cX6_stepInBase 16 = .ok (.aload_n 0, 1) := z_dk tdX6_stepInBase_0 9 rfl
theorem dX6_stepInBase_17 : decode cX6_stepInBase 17 = .ok (.iconst 3, 1) := z_dk tdX6_stepInBase_0 10 rfl
theorem dX6_stepInBase_18 : decode cX6_stepInBase 18 = .ok (.putfield 15, 3) := z_dk tdX6_stepInBase_0 11 rfl
theorem dX6_stepInBase_21 : decode cX6_stepInBase 21 = .ok (.iconst 0, 1) := z_dk tdX6_stepInBase_0 12 rfl
theorem dX6_stepInBase_22 : decode cX6_stepInBase 22 = .ok (.ireturn, 1) := z_dk tdX6_stepInBase_0 13 rfl
theorem dX6_stepInBase_23 : decode cX6_stepInBase 23 = .ok (.aload_n 0, 1) := z_dk tdX6_stepInBase_0 14 rfl
theorem dX6_stepInBase_24 : decode cX6_stepInBase 24 = .ok (.getfield 70, 3) := z_dk tdX6_stepInBase_0 15 rfl
theorem dX6_stepInBase_27 : decode cX6_stepInBase 27 = .ok (.iconst 3, 1) := z_dk tdX6_stepInBase_0 16 rfl
theorem dX6_stepInBase_28 : decode cX6_stepInBase 28 = .ok (.if_icmp .eq 10, 3) := z_dk tdX6_stepInBase_0 17 rfl
theorem dX6_stepInBase_31 : decode cX6_stepInBase 31 = .ok (.iload_n 1, 1) := z_dk tdX6_stepInBase_0 18 rfl
theorem dX6_stepInBase_32 : decode cX6_stepInBase 32 = .ok (.invokestatic 59, 3) := z_dk tdX6_stepInBase_0 19 rfl
theorem dX6_stepInBase_35 : decode cX6_stepInBase 35 = .ok (.ifCond .ne 5, 3) := z_dk tdX6_stepInBase_0 20 rfl
theorem dX6_stepInBase_38 : decode cX6_stepInBase 38 = .ok (.iconst 1, 1) := z_dk tdX6_stepInBase_0 21 rfl
theorem dX6_stepInBase_39 : decode cX6_stepInBase 39 = .ok (.ireturn, 1) := z_dk tdX6_stepInBase_0 22 rfl
theorem dX6_stepInBase_40 : decode cX6_stepInBase 40 = .ok (.aload_n 0, 1) := z_dk tdX6_stepInBase_0 23 rfl
theorem tdX6_stepInBase_41 : (([(41, .dup, 1), (42, .getfield 70, 3), (45, .iconst 1, 1), (46, .iadd, 1), (47, .putfield 70, 3), (50, .aload_n 0, 1), (51, .iload_n 1, 1), (52, .aload_n 0, 1), (53, .getfield 9, 3), (56, .getfield 53, 3), (59, .iconst 1, 1), (60, .isub, 1), (61, .iconst 0, 1), (62, .aload_n 0, 1), (63, .getfield 9, 3), (66, .getfield 43, 3), (69, .invokevirtual 63, 3), (72, .ireturn, 1)] : List (Nat × Instr × Nat)).all fun e => decide (decode cX6_stepInBase e.1 = .ok e.2)) = true := by decide +kernel
theorem dX6_stepInBase_41 : decode cX6_stepInBase 41 = .ok (.dup, 1) := z_dk tdX6_stepInBase_41 0 rfl
theorem dX6_stepInBase_42 : decode cX6_stepInBase 42 = .ok (.getfield 70, 3) := z_dk tdX6_stepInBase_41 1 rfl
theorem dX6_stepInBase_45 : decode cX6_stepInBase 45 = .ok (.iconst 1, 1) := z_dk tdX6_stepInBase_41 2 rfl
theorem dX6_stepInBase_46 : decode cX6_stepInBase 46 = .ok (.iadd, 1) := z_dk tdX6_stepInBase_41 3 rfl
theorem dX6_stepInBase_47 : decode cX6_stepInBase 47 = .ok (.putfield 70, 3) := z_dk tdX6_stepInBase_41 4 rfl
theorem dX6_stepInBase_50 : decode cX6_stepInBase 50 = .ok (.aload_n 0, 1) := z_dk tdX6_stepInBase_41 5 rfl
theorem dX6_stepInBase_51 : decode cX6_stepInBase 51 = .ok (.iload_n 1, 1) := z_dk tdX6_stepInBase_41 6 rfl
theorem dX6_stepInBase_52 : decode cX6_stepInBase 52 = .ok (.aload_n 0, 1) := z_dk tdX6_stepInBase_41 7 rfl
theorem dX6_stepInBase_53 : decode cX6_stepInBase 53 = .ok (.getfield 9, 3) := z_dk tdX6_stepInBase_41 8 rfl
theorem dX6_stepInBase_56 : decode cX6_stepInBase 56 = .ok (.getfield 53, 3) := z_dk tdX6_stepInBase_41 9 rfl
theorem dX6_stepInBase_59 : decode cX6_stepInBase 59 = .ok (.iconst 1, 1) := z_dk tdX6_stepInBase_41 10 rfl
theorem dX6_stepInBase_60 : decode cX6_stepInBase 60 = .ok (.isub, 1) := z_dk tdX6_stepInBase_41 11 rfl
theorem dX6_stepInBase_61 : decode cX6_stepInBase 61 = .ok (.iconst 0, 1) := z_dk tdX6_stepInBase_41 12 rfl
theorem dX6_stepInBase_62 : decode cX6_stepInBase 62 = .ok (.aload_n 0, 1) := z_dk tdX6_stepInBase_41 13 rfl
theorem dX6_stepInBase_63 : decode cX6_stepInBase 63 = .ok (.getfield 9, 3) := z_dk tdX6_stepInBase_41 14 rfl
theorem dX6_stepInBase_66 : decode cX6_stepInBase 66 = .ok (.getfield 43, 3) := z_dk tdX6_stepInBase_41 15 rfl
theorem dX6_stepInBase_69 : decode cX6_stepInBase 69 = .ok (.invokevirtual 63, 3) := z_dk tdX6_stepInBase_41 16 rfl
theorem dX6_stepInBase_72 : decode cX6_stepInBase 72 = .ok (.ireturn, 1) := z_dk tdX6_stepInBase_41 17 rfl
theorem tdX6_stepInReading_0 : (([(0, .iload_n 1, 1), (1, .invokestatic 85, 3), (4, .ifCond .eq 40, 3), (7, .aload_n 0, 1), (8, .getfield 82, 3), (11, .bipush 9, 2), (13, .if_icmp .ge 31, 3), (16, .aload_n 0, 1), (17, .dup, 1), (18, .getfield 82, 3), (21, .iconst 1, 1), (22, .iadd, 1), (23, .putfield 82, 3), (26, .aload_n 0, 1), (27, .getfield 9, 3), (30, .aload_n 0, 1), (31, .getfield 79, 3), (34, .aload_n 0, 1), (35, .getfield 76, 3), (38, .iload_n 1, 1), (39, .invokevirtual 88, 3), (42, .iconst 0, 1), (43, .ireturn, 1), (44, .aload_n 0, 1)] : List (Nat × Instr × Nat)).all fun e => decide (decode cX6_stepInReading e.1 = .ok e.2)) = true := by decide +kernel
theorem dX6_stepInReading_0 : decode cX6_stepInReading 0 = .ok (.iload_n 1, 1) := z_dk tdX6_stepInReading_0 0 rfl
theorem dX6_stepInReading_1 : decode cX6_stepInReading 1 = .ok (.invokestatic 85, 3) := z_dk tdX6_stepInReading_0 1 rfl
theorem dX6_stepInReading_4 : decode cX6_stepInReading 4 = .ok (.ifCond .eq 40, 3) := z_dk tdX6_stepInReading_0 2 rfl
theorem dX6_stepInReading_7 : decode cX6_stepInReading 7 = .ok (.aload_n 0, 1) := z_dk tdX6_stepInReading_0 3 rfl
theorem dX6_stepInReading_8 : decode cX6_stepInReading 8 = .ok (.getfield 82, 3) := z_dk tdX6_stepInReading_0 4 rfl
theorem dX6_stepInReading_11 : decode cX6_stepInReading 11 = .ok (.bipush 9, 2) := z_dk tdX6_stepInReading_0 5 rfl
theorem dX6_stepInReading_13 : decode cX6_stepInReading 13 = .ok (.if_icmp .ge 31, 3) := z_dk tdX6_stepInReading_0 6 rfl
theorem dX6_stepInReading_16 : decode cX6_stepInReading 16 = .ok (.aload_n 0, 1) := z_dk tdX6_stepInReading_0 7 rfl
theorem dX6_stepInReading_17 : decode cX6_stepInReading 17 = .ok (.dup, 1) := z_dk tdX6_stepInReading_0 8 rfl
theorem dX6_stepInReading_18 : decode cX6_stepInReading 18 = .ok (.getfield 82, 3) := z_dk tdX6_stepInReading_0 9 rfl
theorem dX6_stepInReading_21 : decode cX6_stepInReading 21 = .ok (.iconst 1, 1) := z_dk tdX6_stepInReading_0 10 rfl
theorem dX6_stepInReading_22 : decode cX6_stepInReading 22 = .ok (.iadd, 1) := z_dk tdX6_stepInReading_0 11 rfl
theorem dX6_stepInReading_23 : decode cX6_stepInReading 23 = .ok (.putfield 82, 3) := z_dk tdX6_stepInReading_0 12 rfl
theorem dX6_stepInReading_26 : decode cX6_stepInReading 26 = .ok (.aload_n 0, 1) := z_dk tdX6_stepInReading_0 13 rfl
theorem dX6_stepInReading_27 : decode cX6_stepInReading 27 = .ok (.getfield 9, 3) := z_dk tdX6_stepInReading_0 14 rfl
theorem dX6_stepInReading_30 : decode cX6_stepInReading 30 = .ok (.aload_n 0, 1) := z_dk tdX6_stepInReading_0 15 rfl
theorem dX6_stepInReading_31 : decode cX6_stepInReading 31 = .ok (.getfield 79, 3) := z_dk tdX6_stepInReading_0 16 rfl
theorem dX6_stepInReading_34 : decode cX6_stepInReading 34 = .ok (.aload_n 0, 1) := z_dk tdX6_stepInReading_0 17 rfl
theorem dX6_stepInReading_35 : decode cX6_stepInReading 35 = .ok (.getfield 76, 3) := z_dk tdX6_stepInReading_0 18 rfl
theorem dX6_stepInReading_38 : decode cX6_stepInReading 38 = .ok (.iload_n 1, 1) := z_dk tdX6_stepInReading_0 19 rfl
theorem dX6_stepInReading_39 : decode cX6_stepInReading 39 = .ok (.invokevirtual 88, 3) := z_dk tdX6_stepInReading_0 20 rfl
theorem dX6_stepInReading_42 : decode cX6_stepInReading 42 = .ok (.iconst 0, 1) := z_dk tdX6_stepInReading_0 21 rfl
theorem dX6_stepInReading_43 : decode cX6_stepInReading 43 = .ok (.ireturn, 1) := z_dk tdX6_stepInReading_0 22 rfl
theorem dX6_stepInReading_44 : decode cX6_stepInReading 44 = .ok (.aload_n 0, 1) := z_dk tdX6_stepInReading_0 23 rfl
theorem tdX6_stepInReading_45 : (([(45, .getfield 82, 3), (48, .ifCond .eq 10, 3), (51, .iload_n 1, 1), (52, .invokestatic 85, 3), (55, .ifCond .eq 5, 3), (58, .iconst 1, 1), (59, .ireturn, 1), (60, .iload_n 1, 1), (61, .bipush 124, 2), (63, .if_icmp .ne 22, 3), (66, .aload_n 0, 1), (67, .getfield 79, 3), (70, .ifCond .ne 15, 3), (73, .aload_n 0, 1), (74, .iconst 1, 1), (75, .putfield 79, 3), (78, .aload_n 0, 1), (79, .iconst 0, 1), (80, .putfield 82, 3), (83, .iconst 0, 1), (84, .ireturn, 1), (85, .iload_n 1, 1), (86, .bipush 59, 2), (88, .if_icmp .eq 9, 3)] : List (Nat × Instr × Nat)).all fun e => decide (decode cX6_stepInReading e.1 = .ok e.2)) = true := by decide +kernel
theorem dX6_stepInReading_45 : decode cX6_stepInReading 45 = .ok (.getfield 82, 3) := z_dk tdX6_stepInReading_45 0 rfl
theorem dX6_stepInReading_48 : decode cX6_stepInReading 48 = .ok (.ifCond .eq 10, 3) := z_dk tdX6_stepInReading_45 1 rfl
theorem dX6_stepInReading_51 : decode cX6_stepInReading 51 = .ok (.iload_n 1, 1) := z_dk tdX6_stepInReading_45 2 rfl
theorem dX6_stepInReading_52 : decode cX6_stepInReading 52 = .ok (.invokestatic 85, 3) := z_dk tdX6_stepInReading_45 3 rfl
theorem dX6_stepInReading_55 : decode cX6_stepInReading 55 = .ok (.ifCond .eq 5, 3) := z_dk tdX6_stepInReading_45 4 rfl
theorem dX6_stepInReading_58 : decode cX6_stepInReading 58 = .ok (.iconst 1, 1) := z_dk tdX6_stepInReading_45 5 rfl
theorem dX6_stepInReading_59 : decode cX6_stepInReading 59 = .ok (.ireturn, 1) := z_dk tdX6_stepInReading_45 6 rfl
theorem dX6_stepInReading_60 : decode cX6_stepInReading 60 = .ok (.iload_n 1, 1) := z_dk tdX6_stepInReading_45 7 rfl
theorem dX6_stepInReading_61 : decode cX6_stepInReading 61 = .ok (.bipush 124, 2) := z_dk tdX6_stepInReading_45 8 rfl
theorem dX6_stepInReading_63 : decode cX6_stepInReading 63 = .ok (.if_icmp .ne 22, 3) := z_dk tdX6_stepInReading_45 9 rfl
theorem dX6_stepInReading_66 : decode cX6_stepInReading 66 = .ok (.aload_n 0, 1) := z_dk tdX6_stepInReading_45 10 rfl
theorem dX6_stepInReading_67 : decode cX6_stepInReading 67 = .ok (.getfield 79, 3) := z_dk tdX6_stepInReading_45 11 rfl
theorem dX6_stepInReading_70 : decode cX6_stepInReading 70 = .ok (.ifCond .ne 15, 3) := z_dk tdX6_stepInReading_45 12 rfl
theorem dX6_stepInReading_73 : decode cX6_stepInReading 73 = .ok (.aload_n 0, 1) := z_dk tdX6_stepInReading_45 13 rfl
theorem dX6_stepInReading_74 : decode cX6_stepInReading 74 = .ok (.iconst 1, 1) := z_dk tdX6_stepInReading_45 14 rfl
theorem dX6_stepInReading_75 : decode cX6_stepInReading 75 = .ok (.putfield 79, 3) := z_dk tdX6_stepInReading_45 15 rfl
theorem dX6_stepInReading_78 : decode cX6_stepInReading 78 = .ok (.aload_n 0, 1) := z_dk tdX6_stepInReading_45 16 rfl
theorem dX6_stepInReading_79 : decode cX6_stepInReading 79 = .ok (.iconst 0, 1) := z_dk tdX6_stepInReading_45 17 rfl
theorem dX6_stepInReading_80 : decode cX6_stepInReading 80 = .ok (.putfield 82, 3) := z_dk tdX6_stepInReading_45 18 rfl
theorem dX6_stepInReading_83 : decode cX6_stepInReading 83 = .ok (.iconst 0, 1) := z_dk tdX6_stepInReading_45 19 rfl
theorem dX6_stepInReading_84 : decode cX6_stepInReading 84 = .ok (.ireturn, 1) := z_dk tdX6_stepInReading_45 20 rfl
theorem dX6_stepInReading_85 : decode cX6_stepInReading 85 = .ok (.iload_n 1, 1) := z_dk tdX6_stepInReading_45 21 rfl
theorem dX6_stepInReading_86 : decode cX6_stepInReading 86 = .ok (.bipush 59, 2) := z_dk tdX6_stepInReading_45 22 rfl
theorem dX6_stepInReading_88 : decode cX6_stepInReading 88 = .ok (.if_icmp .eq 9, 3) := z_dk tdX6_stepInReading_45 23 rfl
theorem tdX6_stepInReading_91 : (([(91, .iload_n 1, 1), (92, .bipush 125, 2), (94, .if_icmp .ne 20, 3), (97, .aload_n 0, 1), (98, .iload_n 1, 1), (99, .bipush 59, 2), (101, .if_icmp .ne 7, 3), (104, .iconst 1, 1), (105, .goto 4, 3), (108, .iconst 0, 1), (109, .putfield 15, 3), (112, .iconst 0, 1), (113, .ireturn, 1), (114, .iconst 1, 1), (115, .ireturn, 1)] : List (Nat × Instr × Nat)).all fun e => decide (decode cX6_stepInReading e.1 = .ok e.2)) = true := by decide +kernel
theorem dX6_stepInReading_91 : decode cX6_stepInReading 91 = .ok (.iload_n 1, 1) := z_dk tdX6_stepInReading_91 0 rfl
theorem dX6_stepInReading_92 : decode cX6_stepInReading 92 = .ok (.bipush 125, 2) := z_dk tdX6_stepInReading_91 1 rfl
theorem dX6_stepInReading_94 : decode cX6_stepInReading 94 = .ok (.if_icmp .ne 20, 3) := z_dk tdX6_stepInReading_91 2 rfl
theorem dX6_stepInReading_97 : decode cX6_stepInReading 97 = .ok (.aload_n 0, 1) := z_dk tdX6_stepInReading_91 3 rfl
theorem dX6_stepInReading_98 : decode cX6_stepInReading 98 = .ok (.iload_n 1, 1) := z_dk tdX6_stepInReading_91 4 rfl
theorem dX6_stepInReading_99 : decode cX6_stepInReading 99 = .ok (.bipush 59, 2) := z_dk tdX6_stepInReading_91 5 rfl
theorem dX6_stepInReading_101 : decode cX6_stepInReading 101 = .ok (.if_icmp .ne 7, 3) := z_dk tdX6_stepInReading_91 6 rfl
theorem dX6_stepInReading_104 : decode cX6_stepInReading 104 = .ok (.iconst 1, 1) := z_dk tdX6_stepInReading_91 7 rfl
theorem dX6_stepInReading_105 : decode cX6_stepInReading 105 = .ok (.goto 4, 3) := z_dk tdX6_stepInReading_91 8 rfl
theorem dX6_stepInReading_108 : decode cX6_stepInReading 108 = .ok (.iconst 0, 1) := z_dk tdX6_stepInReading_91 9 rfl
theorem dX6_stepInReading_109 : decode cX6_stepInReading 109 = .ok (.putfield 15, 3) := z_dk tdX6_stepInReading_91 10 rfl
theorem dX6_stepInReading_112 : decode cX6_stepInReading 112 = .ok (.iconst 0, 1) := z_dk tdX6_stepInReading_91 11 rfl
theorem dX6_stepInReading_113 : decode cX6_stepInReading 113 = .ok (.ireturn, 1) := z_dk tdX6_stepInReading_91 12 rfl
theorem dX6_stepInReading_114 : decode cX6_stepInReading 114 = .ok (.iconst 1, 1) := z_dk tdX6_stepInReading_91 13 rfl
theorem dX6_stepInReading_115 : decode cX6_stepInReading 115 = .ok (.ireturn, 1) := z_dk tdX6_stepInReading_91 14 rfl
theorem tdX6_addSign_0 : (([(0, .aload_n 0, 1), (1, .getfield 9, 3), (4, .getfield 73, 3), (7, .sipush 200, 3), (10, .if_icmp .lt 5, 3), (13, .iconst 2, 1), (14, .ireturn, 1), (15, .aload_n 0, 1), (16, .getfield 9, 3), (19, .iload_n 1, 1), (20, .iload_n 2, 1), (21, .iload_n 3, 1), (22, .iload 4, 2), (24, .invokevirtual 92, 3), (27, .iconst 0, 1), (28, .ireturn, 1)] : List (Nat × Instr × Nat)).all fun e => decide (decode cX6_addSign e.1 = .ok e.2)) = true := by decide +kernel
theorem dX6_addSign_0 : decode cX6_addSign 0 = .ok (.aload_n 0, 1) := z_dk tdX6_addSign_0 0 rfl
theorem dX6_addSign_1 : decode cX6_addSign 1 = .ok (.getfield 9, 3) := z_dk tdX6_addSign_0 1 rfl
theorem dX6_addSign_4 : decode cX6_addSign 4 = .ok (.getfield 73, 3) := z_dk tdX6_addSign_0 2 rfl
theorem dX6_addSign_7 : decode cX6_addSign 7 = .ok (.sipush 200, 3) := z_dk tdX6_addSign_0 3 rfl
theorem dX6_addSign_10 : decode cX6_addSign 10 = .ok (.if_icmp .lt 5, 3) := z_dk tdX6_addSign_0 4 rfl
theorem dX6_addSign_13 : decode cX6_addSign 13 = .ok (.iconst 2, 1) := z_dk tdX6_addSign_0 5 rfl
theorem dX6_addSign_14 : decode cX6_addSign 14 = .ok (.ireturn, 1) := z_dk tdX6_addSign_0 6 rfl
theorem dX6_addSign_15 : decode cX6_addSign 15 = .ok (.aload_n 0, 1) := z_dk tdX6_addSign_0 7 rfl
theorem dX6_addSign_16 : decode cX6_addSign 16 = .ok (.getfield 9, 3) := z_dk tdX6_addSign_0 8 rfl
theorem dX6_addSign_19 : decode cX6_addSign 19 = .ok (.iload_n 1, 1) := z_dk tdX6_addSign_0 9 rfl
theorem dX6_addSign_20 : decode cX6_addSign 20 = .ok (.iload_n 2, 1) := z_dk tdX6_addSign_0 10 rfl
theorem dX6_addSign_21 : decode cX6_addSign 21 = .ok (.iload_n 3, 1) := z_dk tdX6_addSign_0 11 rfl
theorem dX6_addSign_22 : decode cX6_addSign 22 = .ok (.iload 4, 2) := z_dk tdX6_addSign_0 12 rfl
theorem dX6_addSign_24 : decode cX6_addSign 24 = .ok (.invokevirtual 92, 3) := z_dk tdX6_addSign_0 13 rfl
theorem dX6_addSign_27 : decode cX6_addSign 27 = .ok (.iconst 0, 1) := z_dk tdX6_addSign_0 14 rfl
theorem dX6_addSign_28 : decode cX6_addSign 28 = .ok (.ireturn, 1) := z_dk tdX6_addSign_0 15 rfl
theorem tdX6_standsAlone_0 : (([(0, .iload_n 0, 1), (1, .invokestatic 85, 3), (4, .ifCond .ne 45, 3), (7, .iload_n 0, 1), (8, .bipush 48, 2), (10, .if_icmp .lt 9, 3), (13, .iload_n 0, 1), (14, .bipush 57, 2), (16, .if_icmp .le 33, 3), (19, .iload_n 0, 1), (20, .bipush 46, 2), (22, .if_icmp .eq 27, 3), (25, .iload_n 0, 1), (26, .bipush 44, 2), (28, .if_icmp .eq 21, 3), (31, .iload_n 0, 1), (32, .bipush 40, 2), (34, .if_icmp .eq 15, 3), (37, .iload_n 0, 1), (38, .bipush 41, 2), (40, .if_icmp .eq 9, 3), (43, .iload_n 0, 1), (44, .bipush 32, 2), (46, .if_icmp .ne 7, 3)] : List (Nat × Instr × Nat)).all fun e => decide (decode cX6_standsAlone e.1 = .ok e.2)) = true := by decide +kernel
theorem dX6_standsAlone_0 : decode cX6_standsAlone 0 = .ok (.iload_n 0, 1) := z_dk tdX6_standsAlone_0 0 rfl
theorem dX6_standsAlone_1 : decode cX6_standsAlone 1 = .ok (.invokestatic 85, 3) := z_dk tdX6_standsAlone_0 1 rfl
theorem dX6_standsAlone_4 : decode cX6_standsAlone 4 = .ok (.ifCond .ne 45, 3) := z_dk tdX6_standsAlone_0 2 rfl
theorem dX6_standsAlone_7 : decode cX6_standsAlone 7 = .ok (.iload_n 0, 1) := z_dk tdX6_standsAlone_0 3 rfl
theorem dX6_standsAlone_8 : decode cX6_standsAlone 8 = .ok (.bipush 48, 2) := z_dk tdX6_standsAlone_0 4 rfl
theorem dX6_standsAlone_10 : decode cX6_standsAlone 10 = .ok (.if_icmp .lt 9, 3) := z_dk tdX6_standsAlone_0 5 rfl
theorem dX6_standsAlone_13 : decode cX6_standsAlone 13 = .ok (.iload_n 0, 1) := z_dk tdX6_standsAlone_0 6 rfl
theorem dX6_standsAlone_14 : decode cX6_standsAlone 14 = .ok (.bipush 57, 2) := z_dk tdX6_standsAlone_0 7 rfl
theorem dX6_standsAlone_16 : decode cX6_standsAlone 16 = .ok (.if_icmp .le 33, 3) := z_dk tdX6_standsAlone_0 8 rfl
theorem dX6_standsAlone_19 : decode cX6_standsAlone 19 = .ok (.iload_n 0, 1) := z_dk tdX6_standsAlone_0 9 rfl
theorem dX6_standsAlone_20 : decode cX6_standsAlone 20 = .ok (.bipush 46, 2) := z_dk tdX6_standsAlone_0 10 rfl
theorem dX6_standsAlone_22 : decode cX6_standsAlone 22 = .ok (.if_icmp .eq 27, 3) := z_dk tdX6_standsAlone_0 11 rfl
theorem dX6_standsAlone_25 : decode cX6_standsAlone 25 = .ok (.iload_n 0, 1) := z_dk tdX6_standsAlone_0 12 rfl
theorem dX6_standsAlone_26 : decode cX6_standsAlone 26 = .ok (.bipush 44, 2) := z_dk tdX6_standsAlone_0 13 rfl
theorem dX6_standsAlone_28 : decode cX6_standsAlone 28 = .ok (.if_icmp .eq 21, 3) := z_dk tdX6_standsAlone_0 14 rfl
theorem dX6_standsAlone_31 : decode cX6_standsAlone 31 = .ok (.iload_n 0, 1) := z_dk tdX6_standsAlone_0 15 rfl
theorem dX6_standsAlone_32 : decode cX6_standsAlone 32 = .ok (.bipush 40, 2) := z_dk tdX6_standsAlone_0 16 rfl
theorem dX6_standsAlone_34 : decode cX6_standsAlone 34 = .ok (.if_icmp .eq 15, 3) := z_dk tdX6_standsAlone_0 17 rfl
theorem dX6_standsAlone_37 : decode cX6_standsAlone 37 = .ok (.iload_n 0, 1) := z_dk tdX6_standsAlone_0 18 rfl
theorem dX6_standsAlone_38 : decode cX6_standsAlone 38 = .ok (.bipush 41, 2) := z_dk tdX6_standsAlone_0 19 rfl
theorem dX6_standsAlone_40 : decode cX6_standsAlone 40 = .ok (.if_icmp .eq 9, 3) := z_dk tdX6_standsAlone_0 20 rfl
theorem dX6_standsAlone_43 : decode cX6_standsAlone 43 = .ok (.iload_n 0, 1) := z_dk tdX6_standsAlone_0 21 rfl
theorem dX6_standsAlone_44 : decode cX6_standsAlone 44 = .ok (.bipush 32, 2) := z_dk tdX6_standsAlone_0 22 rfl
theorem dX6_standsAlone_46 : decode cX6_standsAlone 46 = .ok (.if_icmp .ne 7, 3) := z_dk tdX6_standsAlone_0 23 rfl
theorem tdX6_standsAlone_49 : (([(49, .iconst 1, 1), (50, .goto 4, 3), (53, .iconst 0, 1), (54, .ireturn, 1)] : List (Nat × Instr × Nat)).all fun e => decide (decode cX6_standsAlone e.1 = .ok e.2)) = true := by decide +kernel
theorem dX6_standsAlone_49 : decode cX6_standsAlone 49 = .ok (.iconst 1, 1) := z_dk tdX6_standsAlone_49 0 rfl
theorem dX6_standsAlone_50 : decode cX6_standsAlone 50 = .ok (.goto 4, 3) := z_dk tdX6_standsAlone_49 1 rfl
theorem dX6_standsAlone_53 : decode cX6_standsAlone 53 = .ok (.iconst 0, 1) := z_dk tdX6_standsAlone_49 2 rfl
theorem dX6_standsAlone_54 : decode cX6_standsAlone 54 = .ok (.ireturn, 1) := z_dk tdX6_standsAlone_49 3 rfl
theorem tdX6_isBig_0 : (([(0, .iload_n 0, 1), (1, .bipush 65, 2), (3, .if_icmp .lt 13, 3), (6, .iload_n 0, 1), (7, .bipush 90, 2), (9, .if_icmp .gt 7, 3), (12, .iconst 1, 1), (13, .goto 4, 3), (16, .iconst 0, 1), (17, .ireturn, 1)] : List (Nat × Instr × Nat)).all fun e => decide (decode cX6_isBig e.1 = .ok e.2)) = true := by decide +kernel
theorem dX6_isBig_0 : decode cX6_isBig 0 = .ok (.iload_n 0, 1) := z_dk tdX6_isBig_0 0 rfl
theorem dX6_isBig_1 : decode cX6_isBig 1 = .ok (.bipush 65, 2) := z_dk tdX6_isBig_0 1 rfl
theorem dX6_isBig_3 : decode cX6_isBig 3 = .ok (.if_icmp .lt 13, 3) := z_dk tdX6_isBig_0 2 rfl
theorem dX6_isBig_6 : decode cX6_isBig 6 = .ok (.iload_n 0, 1) := z_dk tdX6_isBig_0 3 rfl
theorem dX6_isBig_7 : decode cX6_isBig 7 = .ok (.bipush 90, 2) := z_dk tdX6_isBig_0 4 rfl
theorem dX6_isBig_9 : decode cX6_isBig 9 = .ok (.if_icmp .gt 7, 3) := z_dk tdX6_isBig_0 5 rfl
theorem dX6_isBig_12 : decode cX6_isBig 12 = .ok (.iconst 1, 1) := z_dk tdX6_isBig_0 6 rfl
theorem dX6_isBig_13 : decode cX6_isBig 13 = .ok (.goto 4, 3) := z_dk tdX6_isBig_0 7 rfl
theorem dX6_isBig_16 : decode cX6_isBig 16 = .ok (.iconst 0, 1) := z_dk tdX6_isBig_0 8 rfl
theorem dX6_isBig_17 : decode cX6_isBig 17 = .ok (.ireturn, 1) := z_dk tdX6_isBig_0 9 rfl
theorem tdX6_isSmall_0 : (([(0, .iload_n 0, 1), (1, .bipush 97, 2), (3, .if_icmp .lt 13, 3), (6, .iload_n 0, 1), (7, .bipush 122, 2), (9, .if_icmp .gt 7, 3), (12, .iconst 1, 1), (13, .goto 4, 3), (16, .iconst 0, 1), (17, .ireturn, 1)] : List (Nat × Instr × Nat)).all fun e => decide (decode cX6_isSmall e.1 = .ok e.2)) = true := by decide +kernel
theorem dX6_isSmall_0 : decode cX6_isSmall 0 = .ok (.iload_n 0, 1) := z_dk tdX6_isSmall_0 0 rfl
theorem dX6_isSmall_1 : decode cX6_isSmall 1 = .ok (.bipush 97, 2) := z_dk tdX6_isSmall_0 1 rfl
theorem dX6_isSmall_3 : decode cX6_isSmall 3 = .ok (.if_icmp .lt 13, 3) := z_dk tdX6_isSmall_0 2 rfl
theorem dX6_isSmall_6 : decode cX6_isSmall 6 = .ok (.iload_n 0, 1) := z_dk tdX6_isSmall_0 3 rfl
theorem dX6_isSmall_7 : decode cX6_isSmall 7 = .ok (.bipush 122, 2) := z_dk tdX6_isSmall_0 4 rfl
theorem dX6_isSmall_9 : decode cX6_isSmall 9 = .ok (.if_icmp .gt 7, 3) := z_dk tdX6_isSmall_0 5 rfl
theorem dX6_isSmall_12 : decode cX6_isSmall 12 = .ok (.iconst 1, 1) := z_dk tdX6_isSmall_0 6 rfl
theorem dX6_isSmall_13 : decode cX6_isSmall 13 = .ok (.goto 4, 3) := z_dk tdX6_isSmall_0 7 rfl
theorem dX6_isSmall_16 : decode cX6_isSmall 16 = .ok (.iconst 0, 1) := z_dk tdX6_isSmall_0 8 rfl
theorem dX6_isSmall_17 : decode cX6_isSmall 17 = .ok (.ireturn, 1) := z_dk tdX6_isSmall_0 9 rfl
theorem tdX7_init_0 : (([(0, .aload_n 0, 1), (1, .invokespecial 1, 3), (4, .aload_n 0, 1), (5, .iload_n 1, 1), (6, .ifCond .le 7, 3), (9, .iload_n 1, 1), (10, .goto 4, 3), (13, .iconst 0, 1), (14, .newarray .int, 2), (16, .putfield 7, 3), (19, .return_, 1)] : List (Nat × Instr × Nat)).all fun e => decide (decode cX7_init e.1 = .ok e.2)) = true := by decide +kernel
theorem dX7_init_0 : decode cX7_init 0 = .ok (.aload_n 0, 1) := z_dk tdX7_init_0 0 rfl
theorem dX7_init_1 : decode cX7_init 1 = .ok (.invokespecial 1, 3) := z_dk tdX7_init_0 1 rfl
theorem dX7_init_4 : decode cX7_init 4 = .ok (.aload_n 0, 1) := z_dk tdX7_init_0 2 rfl
theorem dX7_init_5 : decode cX7_init 5 = .ok (.iload_n 1, 1) := z_dk tdX7_init_0 3 rfl
theorem dX7_init_6 : decode cX7_init 6 = .ok (.ifCond .le 7, 3) := z_dk tdX7_init_0 4 rfl
theorem dX7_init_9 : decode cX7_init 9 = .ok (.iload_n 1, 1) := z_dk tdX7_init_0 5 rfl
theorem dX7_init_10 : decode cX7_init 10 = .ok (.goto 4, 3) := z_dk tdX7_init_0 6 rfl
theorem dX7_init_13 : decode cX7_init 13 = .ok (.iconst 0, 1) := z_dk tdX7_init_0 7 rfl
theorem dX7_init_14 : decode cX7_init 14 = .ok (.newarray .int, 2) := z_dk tdX7_init_0 8 rfl
theorem dX7_init_16 : decode cX7_init 16 = .ok (.putfield 7, 3) := z_dk tdX7_init_0 9 rfl
theorem dX7_init_19 : decode cX7_init 19 = .ok (.return_, 1) := z_dk tdX7_init_0 10 rfl
theorem tdX7_get_0 : (([(0, .iload_n 1, 1), (1, .ifCond .lt 21, 3), (4, .iload_n 1, 1), (5, .aload_n 0, 1), (6, .getfield 7, 3), (9, .arraylength, 1), (10, .if_icmp .ge 12, 3), (13, .aload_n 0, 1), (14, .getfield 7, 3), (17, .iload_n 1, 1), (18, .iaload, 1), (19, .goto 4, 3), (22, .iconst 0, 1), (23, .ireturn, 1)] : List (Nat × Instr × Nat)).all fun e => decide (decode cX7_get e.1 = .ok e.2)) = true := by decide +kernel
theorem dX7_get_0 : decode cX7_get 0 = .ok (.iload_n 1, 1) := z_dk tdX7_get_0 0 rfl
theorem dX7_get_1 : decode cX7_get 1 = .ok (.ifCond .lt 21, 3) := z_dk tdX7_get_0 1 rfl
theorem dX7_get_4 : decode cX7_get 4 = .ok (.iload_n 1, 1) := z_dk tdX7_get_0 2 rfl
theorem dX7_get_5 : decode cX7_get 5 = .ok (.aload_n 0, 1) := z_dk tdX7_get_0 3 rfl
theorem dX7_get_6 : decode cX7_get 6 = .ok (.getfield 7, 3) := z_dk tdX7_get_0 4 rfl
theorem dX7_get_9 : decode cX7_get 9 = .ok (.arraylength, 1) := z_dk tdX7_get_0 5 rfl
theorem dX7_get_10 : decode cX7_get 10 = .ok (.if_icmp .ge 12, 3) := z_dk tdX7_get_0 6 rfl
theorem dX7_get_13 : decode cX7_get 13 = .ok (.aload_n 0, 1) := z_dk tdX7_get_0 7 rfl
theorem dX7_get_14 : decode cX7_get 14 = .ok (.getfield 7, 3) := z_dk tdX7_get_0 8 rfl
theorem dX7_get_17 : decode cX7_get 17 = .ok (.iload_n 1, 1) := z_dk tdX7_get_0 9 rfl
theorem dX7_get_18 : decode cX7_get 18 = .ok (.iaload, 1) := z_dk tdX7_get_0 10 rfl
theorem dX7_get_19 : decode cX7_get 19 = .ok (.goto 4, 3) := z_dk tdX7_get_0 11 rfl
theorem dX7_get_22 : decode cX7_get 22 = .ok (.iconst 0, 1) := z_dk tdX7_get_0 12 rfl
theorem dX7_get_23 : decode cX7_get 23 = .ok (.ireturn, 1) := z_dk tdX7_get_0 13 rfl
theorem tdX7_put_0 : (([(0, .iload_n 1, 1), (1, .ifCond .lt 19, 3), (4, .iload_n 1, 1), (5, .aload_n 0, 1), (6, .getfield 7, 3), (9, .arraylength, 1), (10, .if_icmp .ge 10, 3), (13, .aload_n 0, 1), (14, .getfield 7, 3), (17, .iload_n 1, 1), (18, .iload_n 2, 1), (19, .iastore, 1), (20, .return_, 1)] : List (Nat × Instr × Nat)).all fun e => decide (decode cX7_put e.1 = .ok e.2)) = true := by decide +kernel
theorem dX7_put_0 : decode cX7_put 0 = .ok (.iload_n 1, 1) := z_dk tdX7_put_0 0 rfl
theorem dX7_put_1 : decode cX7_put 1 = .ok (.ifCond .lt 19, 3) := z_dk tdX7_put_0 1 rfl
theorem dX7_put_4 : decode cX7_put 4 = .ok (.iload_n 1, 1) := z_dk tdX7_put_0 2 rfl
theorem dX7_put_5 : decode cX7_put 5 = .ok (.aload_n 0, 1) := z_dk tdX7_put_0 3 rfl
theorem dX7_put_6 : decode cX7_put 6 = .ok (.getfield 7, 3) := z_dk tdX7_put_0 4 rfl
theorem dX7_put_9 : decode cX7_put 9 = .ok (.arraylength, 1) := z_dk tdX7_put_0 5 rfl
theorem dX7_put_10 : decode cX7_put 10 = .ok (.if_icmp .ge 10, 3) := z_dk tdX7_put_0 6 rfl
theorem dX7_put_13 : decode cX7_put 13 = .ok (.aload_n 0, 1) := z_dk tdX7_put_0 7 rfl
theorem dX7_put_14 : decode cX7_put 14 = .ok (.getfield 7, 3) := z_dk tdX7_put_0 8 rfl
theorem dX7_put_17 : decode cX7_put 17 = .ok (.iload_n 1, 1) := z_dk tdX7_put_0 9 rfl
theorem dX7_put_18 : decode cX7_put 18 = .ok (.iload_n 2, 1) := z_dk tdX7_put_0 10 rfl
theorem dX7_put_19 : decode cX7_put 19 = .ok (.iastore, 1) := z_dk tdX7_put_0 11 rfl
theorem dX7_put_20 : decode cX7_put 20 = .ok (.return_, 1) := z_dk tdX7_put_0 12 rfl
theorem tdX7_add_0 : (([(0, .iload_n 1, 1), (1, .ifCond .lt 22, 3), (4, .iload_n 1, 1), (5, .aload_n 0, 1), (6, .getfield 7, 3), (9, .arraylength, 1), (10, .if_icmp .ge 13, 3), (13, .aload_n 0, 1), (14, .getfield 7, 3), (17, .iload_n 1, 1), (18, .dup2, 1), (19, .iaload, 1), (20, .iload_n 2, 1), (21, .iadd, 1), (22, .iastore, 1), (23, .return_, 1)] : List (Nat × Instr × Nat)).all fun e => decide (decode cX7_add e.1 = .ok e.2)) = true := by decide +kernel
theorem dX7_add_0 : decode cX7_add 0 = .ok (.iload_n 1, 1) := z_dk tdX7_add_0 0 rfl
theorem dX7_add_1 : decode cX7_add 1 = .ok (.ifCond .lt 22, 3) := z_dk tdX7_add_0 1 rfl
theorem dX7_add_4 : decode cX7_add 4 = .ok (.iload_n 1, 1) := z_dk tdX7_add_0 2 rfl
theorem dX7_add_5 : decode cX7_add 5 = .ok (.aload_n 0, 1) := z_dk tdX7_add_0 3 rfl
theorem dX7_add_6 : decode cX7_add 6 = .ok (.getfield 7, 3) := z_dk tdX7_add_0 4 rfl
theorem dX7_add_9 : decode cX7_add 9 = .ok (.arraylength, 1) := z_dk tdX7_add_0 5 rfl
theorem dX7_add_10 : decode cX7_add 10 = .ok (.if_icmp .ge 13, 3) := z_dk tdX7_add_0 6 rfl
theorem dX7_add_13 : decode cX7_add 13 = .ok (.aload_n 0, 1) := z_dk tdX7_add_0 7 rfl
theorem dX7_add_14 : decode cX7_add 14 = .ok (.getfield 7, 3) := z_dk tdX7_add_0 8 rfl
theorem dX7_add_17 : decode cX7_add 17 = .ok (.iload_n 1, 1) := z_dk tdX7_add_0 9 rfl
theorem dX7_add_18 : decode cX7_add 18 = .ok (.dup2, 1) := z_dk tdX7_add_0 10 rfl
theorem dX7_add_19 : decode cX7_add 19 = .ok (.iaload, 1) := z_dk tdX7_add_0 11 rfl
theorem dX7_add_20 : decode cX7_add 20 = .ok (.iload_n 2, 1) := z_dk tdX7_add_0 12 rfl
theorem dX7_add_21 : decode cX7_add 21 = .ok (.iadd, 1) := z_dk tdX7_add_0 13 rfl
theorem dX7_add_22 : decode cX7_add 22 = .ok (.iastore, 1) := z_dk tdX7_add_0 14 rfl
theorem dX7_add_23 : decode cX7_add 23 = .ok (.return_, 1) := z_dk tdX7_add_0 15 rfl
theorem tdX7_clear_0 : (([(0, .iconst 0, 1), (1, .istore_n 2, 1), (2, .iload_n 2, 1), (3, .iload_n 1, 1), (4, .if_icmp .ge 15, 3), (7, .aload_n 0, 1), (8, .iload_n 2, 1), (9, .iconst 0, 1), (10, .invokevirtual 13, 3), (13, .iinc 2 1, 3), (16, .goto (-14), 3), (19, .return_, 1)] : List (Nat × Instr × Nat)).all fun e => decide (decode cX7_clear e.1 = .ok e.2)) = true := by decide +kernel
theorem dX7_clear_0 : decode cX7_clear 0 = .ok (.iconst 0, 1) := z_dk tdX7_clear_0 0 rfl
theorem dX7_clear_1 : decode cX7_clear 1 = .ok (.istore_n 2, 1) := z_dk tdX7_clear_0 1 rfl
theorem dX7_clear_2 : decode cX7_clear 2 = .ok (.iload_n 2, 1) := z_dk tdX7_clear_0 2 rfl
theorem dX7_clear_3 : decode cX7_clear 3 = .ok (.iload_n 1, 1) := z_dk tdX7_clear_0 3 rfl
theorem dX7_clear_4 : decode cX7_clear 4 = .ok (.if_icmp .ge 15, 3) := z_dk tdX7_clear_0 4 rfl
theorem dX7_clear_7 : decode cX7_clear 7 = .ok (.aload_n 0, 1) := z_dk tdX7_clear_0 5 rfl
theorem dX7_clear_8 : decode cX7_clear 8 = .ok (.iload_n 2, 1) := z_dk tdX7_clear_0 6 rfl
theorem dX7_clear_9 : decode cX7_clear 9 = .ok (.iconst 0, 1) := z_dk tdX7_clear_0 7 rfl
theorem dX7_clear_10 : decode cX7_clear 10 = .ok (.invokevirtual 13, 3) := z_dk tdX7_clear_0 8 rfl
theorem dX7_clear_13 : decode cX7_clear 13 = .ok (.iinc 2 1, 3) := z_dk tdX7_clear_0 9 rfl
theorem dX7_clear_16 : decode cX7_clear 16 = .ok (.goto (-14), 3) := z_dk tdX7_clear_0 10 rfl
theorem dX7_clear_19 : decode cX7_clear 19 = .ok (.return_, 1) := z_dk tdX7_clear_0 11 rfl
theorem tdX7_copyFrom_0 : (([(0, .iconst 0, 1), (1, .istore_n 3, 1), (2, .iload_n 3, 1), (3, .iload_n 2, 1), (4, .if_icmp .ge 19, 3), (7, .aload_n 0, 1), (8, .iload_n 3, 1), (9, .aload_n 1, 1), (10, .iload_n 3, 1), (11, .invokevirtual 17, 3), (14, .invokevirtual 13, 3), (17, .iinc 3 1, 3), (20, .goto (-18), 3), (23, .return_, 1)] : List (Nat × Instr × Nat)).all fun e => decide (decode cX7_copyFrom e.1 = .ok e.2)) = true := by decide +kernel
theorem dX7_copyFrom_0 : decode cX7_copyFrom 0 = .ok (.iconst 0, 1) := z_dk tdX7_copyFrom_0 0 rfl
theorem dX7_copyFrom_1 : decode cX7_copyFrom 1 = .ok (.istore_n 3, 1) := z_dk tdX7_copyFrom_0 1 rfl
theorem dX7_copyFrom_2 : decode cX7_copyFrom 2 = .ok (.iload_n 3, 1) := z_dk tdX7_copyFrom_0 2 rfl
theorem dX7_copyFrom_3 : decode cX7_copyFrom 3 = .ok (.iload_n 2, 1) := z_dk tdX7_copyFrom_0 3 rfl
theorem dX7_copyFrom_4 : decode cX7_copyFrom 4 = .ok (.if_icmp .ge 19, 3) := z_dk tdX7_copyFrom_0 4 rfl
theorem dX7_copyFrom_7 : decode cX7_copyFrom 7 = .ok (.aload_n 0, 1) := z_dk tdX7_copyFrom_0 5 rfl
theorem dX7_copyFrom_8 : decode cX7_copyFrom 8 = .ok (.iload_n 3, 1) := z_dk tdX7_copyFrom_0 6 rfl
theorem dX7_copyFrom_9 : decode cX7_copyFrom 9 = .ok (.aload_n 1, 1) := z_dk tdX7_copyFrom_0 7 rfl
theorem dX7_copyFrom_10 : decode cX7_copyFrom 10 = .ok (.iload_n 3, 1) := z_dk tdX7_copyFrom_0 8 rfl
theorem dX7_copyFrom_11 : decode cX7_copyFrom 11 = .ok (.invokevirtual 17, 3) := z_dk tdX7_copyFrom_0 9 rfl
theorem dX7_copyFrom_14 : decode cX7_copyFrom 14 = .ok (.invokevirtual 13, 3) := z_dk tdX7_copyFrom_0 10 rfl
theorem dX7_copyFrom_17 : decode cX7_copyFrom 17 = .ok (.iinc 3 1, 3) := z_dk tdX7_copyFrom_0 11 rfl
theorem dX7_copyFrom_20 : decode cX7_copyFrom 20 = .ok (.goto (-18), 3) := z_dk tdX7_copyFrom_0 12 rfl
theorem dX7_copyFrom_23 : decode cX7_copyFrom 23 = .ok (.return_, 1) := z_dk tdX7_copyFrom_0 13 rfl
theorem tdX7_close_0 : (([(0, .iload_n 2, 1), (1, .istore 4, 2), (3, .iload 4, 2), (5, .iload_n 3, 1), (6, .if_icmp .ge 25, 3), (9, .aload_n 0, 1), (10, .iload_n 1, 1), (11, .iload 4, 2), (13, .iadd, 1), (14, .iload_n 2, 1), (15, .isub, 1), (16, .aload_n 0, 1), (17, .iload 4, 2), (19, .invokevirtual 17, 3), (22, .invokevirtual 13, 3), (25, .iinc 4 1, 3), (28, .goto (-25), 3), (31, .return_, 1)] : List (Nat × Instr × Nat)).all fun e => decide (decode cX7_close e.1 = .ok e.2)) = true := by decide +kernel
theorem dX7_close_0 : decode cX7_close 0 = .ok (.iload_n 2, 1) := z_dk tdX7_close_0 0 rfl
theorem dX7_close_1 : decode cX7_close 1 = .ok (.istore 4, 2) := z_dk tdX7_close_0 1 rfl
theorem dX7_close_3 : decode cX7_close 3 = .ok (.iload 4, 2) := z_dk tdX7_close_0 2 rfl
theorem dX7_close_5 : decode cX7_close 5 = .ok (.iload_n 3, 1) := z_dk tdX7_close_0 3 rfl
theorem dX7_close_6 : decode cX7_close 6 = .ok (.if_icmp .ge 25, 3) := z_dk tdX7_close_0 4 rfl
theorem dX7_close_9 : decode cX7_close 9 = .ok (.aload_n 0, 1) := z_dk tdX7_close_0 5 rfl
theorem dX7_close_10 : decode cX7_close 10 = .ok (.iload_n 1, 1) := z_dk tdX7_close_0 6 rfl
theorem dX7_close_11 : decode cX7_close 11 = .ok (.iload 4, 2) := z_dk tdX7_close_0 7 rfl
theorem dX7_close_13 : decode cX7_close 13 = .ok (.iadd, 1) := z_dk tdX7_close_0 8 rfl
theorem dX7_close_14 : decode cX7_close 14 = .ok (.iload_n 2, 1) := z_dk tdX7_close_0 9 rfl
theorem dX7_close_15 : decode cX7_close 15 = .ok (.isub, 1) := z_dk tdX7_close_0 10 rfl
theorem dX7_close_16 : decode cX7_close 16 = .ok (.aload_n 0, 1) := z_dk tdX7_close_0 11 rfl
theorem dX7_close_17 : decode cX7_close 17 = .ok (.iload 4, 2) := z_dk tdX7_close_0 12 rfl
theorem dX7_close_19 : decode cX7_close 19 = .ok (.invokevirtual 17, 3) := z_dk tdX7_close_0 13 rfl
theorem dX7_close_22 : decode cX7_close 22 = .ok (.invokevirtual 13, 3) := z_dk tdX7_close_0 14 rfl
theorem dX7_close_25 : decode cX7_close 25 = .ok (.iinc 4 1, 3) := z_dk tdX7_close_0 15 rfl
theorem dX7_close_28 : decode cX7_close 28 = .ok (.goto (-25), 3) := z_dk tdX7_close_0 16 rfl
theorem dX7_close_31 : decode cX7_close 31 = .ok (.return_, 1) := z_dk tdX7_close_0 17 rfl
theorem tdX8_init_0 : (([(0, .aload_n 0, 1), (1, .invokespecial 3, 3), (4, .aload_n 0, 1), (5, .new 9, 3), (8, .dup, 1), (9, .sipush 12000, 3), (12, .invokespecial 13, 3), (15, .putfield 16, 3), (18, .aload_n 0, 1), (19, .new 9, 3), (22, .dup, 1), (23, .sipush 200, 3), (26, .invokespecial 13, 3), (29, .putfield 20, 3), (32, .aload_n 0, 1), (33, .new 9, 3), (36, .dup, 1), (37, .sipush 200, 3), (40, .invokespecial 13, 3), (43, .putfield 23, 3), (46, .aload_n 0, 1), (47, .new 9, 3), (50, .dup, 1), (51, .sipush 201, 3)] : List (Nat × Instr × Nat)).all fun e => decide (decode cX8_init e.1 = .ok e.2)) = true := by decide +kernel
theorem dX8_init_0 : decode cX8_init 0 = .ok (.aload_n 0, 1) := z_dk tdX8_init_0 0 rfl
theorem dX8_init_1 : decode cX8_init 1 = .ok (.invokespecial 3, 3) := z_dk tdX8_init_0 1 rfl
theorem dX8_init_4 : decode cX8_init 4 = .ok (.aload_n 0, 1) := z_dk tdX8_init_0 2 rfl
theorem dX8_init_5 : decode cX8_init 5 = .ok (.new 9, 3) := z_dk tdX8_init_0 3 rfl
theorem dX8_init_8 : decode cX8_init 8 = .ok (.dup, 1) := z_dk tdX8_init_0 4 rfl
theorem dX8_init_9 : decode cX8_init 9 = .ok (.sipush 12000, 3) := z_dk tdX8_init_0 5 rfl
theorem dX8_init_12 : decode cX8_init 12 = .ok (.invokespecial 13, 3) := z_dk tdX8_init_0 6 rfl
theorem dX8_init_15 : decode cX8_init 15 = .ok (.putfield 16, 3) := z_dk tdX8_init_0 7 rfl
theorem dX8_init_18 : decode cX8_init 18 = .ok (.aload_n 0, 1) := z_dk tdX8_init_0 8 rfl
theorem dX8_init_19 : decode cX8_init 19 = .ok (.new 9, 3) := z_dk tdX8_init_0 9 rfl
theorem dX8_init_22 : decode cX8_init 22 = .ok (.dup, 1) := z_dk tdX8_init_0 10 rfl
theorem dX8_init_23 : decode cX8_init 23 = .ok (.sipush 200, 3) := z_dk tdX8_init_0 11 rfl
theorem dX8_init_26 : decode cX8_init 26 = .ok (.invokespecial 13, 3) := z_dk tdX8_init_0 12 rfl
theorem dX8_init_29 : decode cX8_init 29 = .ok (.putfield 20, 3) := z_dk tdX8_init_0 13 rfl
theorem dX8_init_32 : decode cX8_init 32 = .ok (.aload_n 0, 1) := z_dk tdX8_init_0 14 rfl
theorem dX8_init_33 : decode cX8_init 33 = .ok (.new 9, 3) := z_dk tdX8_init_0 15 rfl
theorem dX8_init_36 : decode cX8_init 36 = .ok (.dup, 1) := z_dk tdX8_init_0 16 rfl
theorem dX8_init_37 : decode cX8_init 37 = .ok (.sipush 200, 3) := z_dk tdX8_init_0 17 rfl
theorem dX8_init_40 : decode cX8_init 40 = .ok (.invokespecial 13, 3) := z_dk tdX8_init_0 18 rfl
theorem dX8_init_43 : decode cX8_init 43 = .ok (.putfield 23, 3) := z_dk tdX8_init_0 19 rfl
theorem dX8_init_46 : decode cX8_init 46 = .ok (.aload_n 0, 1) := z_dk tdX8_init_0 20 rfl
theorem dX8_init_47 : decode cX8_init 47 = .ok (.new 9, 3) := z_dk tdX8_init_0 21 rfl
theorem dX8_init_50 : decode cX8_init 50 = .ok (.dup, 1) := z_dk tdX8_init_0 22 rfl
theorem dX8_init_51 : decode cX8_init 51 = .ok (.sipush 201, 3) := z_dk tdX8_init_0 23 rfl
theorem tdX8_init_54 : (([(54, .invokespecial 13, 3), (57, .putfield 26, 3), (60, .aload_n 0, 1), (61, .new 9, 3), (64, .dup, 1), (65, .sipush 200, 3), (68, .invokespecial 13, 3), (71, .putfield 29, 3), (74, .aload_n 0, 1), (75, .new 9, 3), (78, .dup, 1), (79, .sipush 200, 3), (82, .invokespecial 13, 3), (85, .putfield 32, 3), (88, .aload_n 0, 1), (89, .aload_n 1, 1), (90, .putfield 35, 3), (93, .aload_n 0, 1), (94, .aload_n 2, 1), (95, .putfield 39, 3), (98, .aload_n 0, 1), (99, .aload_n 3, 1), (100, .putfield 43, 3), (103, .return_, 1)] : List (Nat × Instr × Nat)).all fun e => decide (decode cX8_init e.1 = .ok e.2)) = true := by decide +kernel
theorem dX8_init_54 : decode cX8_init 54 = .ok (.invokespecial 13, 3) := z_dk tdX8_init_54 0 rfl
theorem dX8_init_57 : decode cX8_init 57 = .ok (.putfield 26, 3) := z_dk tdX8_init_54 1 rfl
theorem dX8_init_60 : decode cX8_init 60 = .ok (.aload_n 0, 1) := z_dk tdX8_init_54 2 rfl
theorem dX8_init_61 : decode cX8_init 61 = .ok (.new 9, 3) := z_dk tdX8_init_54 3 rfl
theorem dX8_init_64 : decode cX8_init 64 = .ok (.dup, 1) := z_dk tdX8_init_54 4 rfl
theorem dX8_init_65 : decode cX8_init 65 = .ok (.sipush 200, 3) := z_dk tdX8_init_54 5 rfl
theorem dX8_init_68 : decode cX8_init 68 = .ok (.invokespecial 13, 3) := z_dk tdX8_init_54 6 rfl
theorem dX8_init_71 : decode cX8_init 71 = .ok (.putfield 29, 3) := z_dk tdX8_init_54 7 rfl
theorem dX8_init_74 : decode cX8_init 74 = .ok (.aload_n 0, 1) := z_dk tdX8_init_54 8 rfl
theorem dX8_init_75 : decode cX8_init 75 = .ok (.new 9, 3) := z_dk tdX8_init_54 9 rfl
theorem dX8_init_78 : decode cX8_init 78 = .ok (.dup, 1) := z_dk tdX8_init_54 10 rfl
theorem dX8_init_79 : decode cX8_init 79 = .ok (.sipush 200, 3) := z_dk tdX8_init_54 11 rfl
theorem dX8_init_82 : decode cX8_init 82 = .ok (.invokespecial 13, 3) := z_dk tdX8_init_54 12 rfl
theorem dX8_init_85 : decode cX8_init 85 = .ok (.putfield 32, 3) := z_dk tdX8_init_54 13 rfl
theorem dX8_init_88 : decode cX8_init 88 = .ok (.aload_n 0, 1) := z_dk tdX8_init_54 14 rfl
theorem dX8_init_89 : decode cX8_init 89 = .ok (.aload_n 1, 1) := z_dk tdX8_init_54 15 rfl
theorem dX8_init_90 : decode cX8_init 90 = .ok (.putfield 35, 3) := z_dk tdX8_init_54 16 rfl
theorem dX8_init_93 : decode cX8_init 93 = .ok (.aload_n 0, 1) := z_dk tdX8_init_54 17 rfl
theorem dX8_init_94 : decode cX8_init 94 = .ok (.aload_n 2, 1) := z_dk tdX8_init_54 18 rfl
theorem dX8_init_95 : decode cX8_init 95 = .ok (.putfield 39, 3) := z_dk tdX8_init_54 19 rfl
theorem dX8_init_98 : decode cX8_init 98 = .ok (.aload_n 0, 1) := z_dk tdX8_init_54 20 rfl
theorem dX8_init_99 : decode cX8_init 99 = .ok (.aload_n 3, 1) := z_dk tdX8_init_54 21 rfl
theorem dX8_init_100 : decode cX8_init 100 = .ok (.putfield 43, 3) := z_dk tdX8_init_54 22 rfl
theorem dX8_init_103 : decode cX8_init 103 = .ok (.return_, 1) := z_dk tdX8_init_54 23 rfl
theorem tdX8_build_0 : (([(0, .aload_n 0, 1), (1, .getfield 35, 3), (4, .invokevirtual 46, 3), (7, .istore_n 1, 1), (8, .iconst 0, 1), (9, .istore_n 2, 1), (10, .iload_n 2, 1), (11, .iload_n 1, 1), (12, .if_icmp .ge 37, 3), (15, .aload_n 0, 1), (16, .getfield 29, 3), (19, .iload_n 2, 1), (20, .aload_n 0, 1), (21, .iload_n 2, 1), (22, .iconst 0, 1), (23, .invokevirtual 52, 3), (26, .invokevirtual 56, 3), (29, .aload_n 0, 1), (30, .getfield 32, 3), (33, .iload_n 2, 1), (34, .aload_n 0, 1), (35, .iload_n 2, 1), (36, .iconst 1, 1), (37, .invokevirtual 52, 3)] : List (Nat × Instr × Nat)).all fun e => decide (decode cX8_build e.1 = .ok e.2)) = true := by decide +kernel
theorem dX8_build_0 : decode cX8_build 0 = .ok (.aload_n 0, 1) := z_dk tdX8_build_0 0 rfl
theorem dX8_build_1 : decode cX8_build 1 = .ok (.getfield 35, 3) := z_dk tdX8_build_0 1 rfl
theorem dX8_build_4 : decode cX8_build 4 = .ok (.invokevirtual 46, 3) := z_dk tdX8_build_0 2 rfl
theorem dX8_build_7 : decode cX8_build 7 = .ok (.istore_n 1, 1) := z_dk tdX8_build_0 3 rfl
theorem dX8_build_8 : decode cX8_build 8 = .ok (.iconst 0, 1) := z_dk tdX8_build_0 4 rfl
theorem dX8_build_9 : decode cX8_build 9 = .ok (.istore_n 2, 1) := z_dk tdX8_build_0 5 rfl
theorem dX8_build_10 : decode cX8_build 10 = .ok (.iload_n 2, 1) := z_dk tdX8_build_0 6 rfl
theorem dX8_build_11 : decode cX8_build 11 = .ok (.iload_n 1, 1) := z_dk tdX8_build_0 7 rfl
theorem dX8_build_12 : decode cX8_build 12 = .ok (.if_icmp .ge 37, 3) := z_dk tdX8_build_0 8 rfl
theorem dX8_build_15 : decode cX8_build 15 = .ok (.aload_n 0, 1) := z_dk tdX8_build_0 9 rfl
theorem dX8_build_16 : decode cX8_build 16 = .ok (.getfield 29, 3) := z_dk tdX8_build_0 10 rfl
theorem dX8_build_19 : decode cX8_build 19 = .ok (.iload_n 2, 1) := z_dk tdX8_build_0 11 rfl
theorem dX8_build_20 : decode cX8_build 20 = .ok (.aload_n 0, 1) := z_dk tdX8_build_0 12 rfl
theorem dX8_build_21 : decode cX8_build 21 = .ok (.iload_n 2, 1) := z_dk tdX8_build_0 13 rfl
theorem dX8_build_22 : decode cX8_build 22 = .ok (.iconst 0, 1) := z_dk tdX8_build_0 14 rfl
theorem dX8_build_23 : decode cX8_build 23 = .ok (.invokevirtual 52, 3) := z_dk tdX8_build_0 15 rfl
theorem dX8_build_26 : decode cX8_build 26 = .ok (.invokevirtual 56, 3) := z_dk tdX8_build_0 16 rfl
theorem dX8_build_29 : decode cX8_build 29 = .ok (.aload_n 0, 1) := z_dk tdX8_build_0 17 rfl
theorem dX8_build_30 : decode cX8_build 30 = .ok (.getfield 32, 3) := z_dk tdX8_build_0 18 rfl
theorem dX8_build_33 : decode cX8_build 33 = .ok (.iload_n 2, 1) := z_dk tdX8_build_0 19 rfl
theorem dX8_build_34 : decode cX8_build 34 = .ok (.aload_n 0, 1) := z_dk tdX8_build_0 20 rfl
theorem dX8_build_35 : decode cX8_build 35 = .ok (.iload_n 2, 1) := z_dk tdX8_build_0 21 rfl
theorem dX8_build_36 : decode cX8_build 36 = .ok (.iconst 1, 1) := z_dk tdX8_build_0 22 rfl
theorem dX8_build_37 : decode cX8_build 37 = .ok (.invokevirtual 52, 3) := z_dk tdX8_build_0 23 rfl
theorem tdX8_build_40 : (([(40, .invokevirtual 56, 3), (43, .iinc 2 1, 3), (46, .goto (-36), 3), (49, .iconst 0, 1), (50, .istore_n 2, 1), (51, .iload_n 2, 1), (52, .iload_n 1, 1), (53, .if_icmp .ge 151, 3), (56, .aload_n 0, 1), (57, .dup, 1), (58, .getfield 60, 3), (61, .iconst 1, 1), (62, .iadd, 1), (63, .putfield 60, 3), (66, .aload_n 0, 1), (67, .iload_n 2, 1), (68, .iconst 1, 1), (69, .iconst 1, 1), (70, .invokevirtual 64, 3), (73, .pop, 1), (74, .iload_n 2, 1), (75, .iconst 1, 1), (76, .iadd, 1), (77, .iload_n 1, 1)] : List (Nat × Instr × Nat)).all fun e => decide (decode cX8_build e.1 = .ok e.2)) = true := by decide +kernel
theorem dX8_build_40 : decode cX8_build 40 = .ok (.invokevirtual 56, 3) := z_dk tdX8_build_40 0 rfl
theorem dX8_build_43 : decode cX8_build 43 = .ok (.iinc 2 1, 3) := z_dk tdX8_build_40 1 rfl
theorem dX8_build_46 : decode cX8_build 46 = .ok (.goto (-36), 3) := z_dk tdX8_build_40 2 rfl
theorem dX8_build_49 : decode cX8_build 49 = .ok (.iconst 0, 1) := z_dk tdX8_build_40 3 rfl
theorem dX8_build_50 : decode cX8_build 50 = .ok (.istore_n 2, 1) := z_dk tdX8_build_40 4 rfl
theorem dX8_build_51 : decode cX8_build 51 = .ok (.iload_n 2, 1) := z_dk tdX8_build_40 5 rfl
theorem dX8_build_52 : decode cX8_build 52 = .ok (.iload_n 1, 1) := z_dk tdX8_build_40 6 rfl
theorem dX8_build_53 : decode cX8_build 53 = .ok (.if_icmp .ge 151, 3) := z_dk tdX8_build_40 7 rfl
theorem dX8_build_56 : decode cX8_build 56 = .ok (.aload_n 0, 1) := z_dk tdX8_build_40 8 rfl
theorem dX8_build_57 : decode cX8_build 57 = .ok (.dup, 1) := z_dk tdX8_build_40 9 rfl
theorem dX8_build_58 : decode cX8_build 58 = .ok (.getfield 60, 3) := z_dk tdX8_build_40 10 rfl
theorem dX8_build_61 : decode cX8_build 61 = .ok (.iconst 1, 1) := z_dk tdX8_build_40 11 rfl
theorem dX8_build_62 : decode cX8_build 62 = .ok (.iadd, 1) := z_dk tdX8_build_40 12 rfl
theorem dX8_build_63 : decode cX8_build 63 = .ok (.putfield 60, 3) := z_dk tdX8_build_40 13 rfl
theorem dX8_build_66 : decode cX8_build 66 = .ok (.aload_n 0, 1) := z_dk tdX8_build_40 14 rfl
theorem dX8_build_67 : decode cX8_build 67 = .ok (.iload_n 2, 1) := z_dk tdX8_build_40 15 rfl
theorem dX8_build_68 : decode cX8_build 68 = .ok (.iconst 1, 1) := z_dk tdX8_build_40 16 rfl
theorem dX8_build_69 : decode cX8_build 69 = .ok (.iconst 1, 1) := z_dk tdX8_build_40 17 rfl
theorem dX8_build_70 : decode cX8_build 70 = .ok (.invokevirtual 64, 3) := z_dk tdX8_build_40 18 rfl
theorem dX8_build_73 : decode cX8_build 73 = .ok (.pop, 1) := z_dk tdX8_build_40 19 rfl
theorem dX8_build_74 : decode cX8_build 74 = .ok (.iload_n 2, 1) := z_dk tdX8_build_40 20 rfl
theorem dX8_build_75 : decode cX8_build 75 = .ok (.iconst 1, 1) := z_dk tdX8_build_40 21 rfl
theorem dX8_build_76 : decode cX8_build 76 = .ok (.iadd, 1) := z_dk tdX8_build_40 22 rfl
theorem dX8_build_77 : decode cX8_build 77 = .ok (.iload_n 1, 1) := z_dk tdX8_build_40 23 rfl
theorem tdX8_build_78 : (([(78, .if_icmp .ge 15, 3), (81, .aload_n 0, 1), (82, .iload_n 2, 1), (83, .iconst 1, 1), (84, .iadd, 1), (85, .iconst 0, 1), (86, .iconst 0, 1), (87, .invokevirtual 64, 3), (90, .goto 5, 3), (93, .ldc 68, 2), (95, .istore_n 3, 1), (96, .aload_n 0, 1), (97, .getfield 20, 3), (100, .iload_n 2, 1), (101, .iload_n 3, 1), (102, .ldc 68, 2), (104, .if_icmp .ne 9, 3), (107, .sipush (-1000), 3), (110, .goto 4, 3), (113, .iload_n 3, 1), (114, .invokevirtual 56, 3), (117, .aload_n 0, 1), (118, .getfield 32, 3), (121, .iload_n 2, 1)] : List (Nat × Instr × Nat)).all fun e => decide (decode cX8_build e.1 = .ok e.2)) = true := by decide +kernel
theorem dX8_build_78 : decode cX8_build 78 = .ok (.if_icmp .ge 15, 3) := z_dk tdX8_build_78 0 rfl
theorem dX8_build_81 : decode cX8_build 81 = .ok (.aload_n 0, 1) := z_dk tdX8_build_78 1 rfl
theorem dX8_build_82 : decode cX8_build 82 = .ok (.iload_n 2, 1) := z_dk tdX8_build_78 2 rfl
theorem dX8_build_83 : decode cX8_build 83 = .ok (.iconst 1, 1) := z_dk tdX8_build_78 3 rfl
theorem dX8_build_84 : decode cX8_build 84 = .ok (.iadd, 1) := z_dk tdX8_build_78 4 rfl
theorem dX8_build_85 : decode cX8_build 85 = .ok (.iconst 0, 1) := z_dk tdX8_build_78 5 rfl
theorem dX8_build_86 : decode cX8_build 86 = .ok (.iconst 0, 1) := z_dk tdX8_build_78 6 rfl
theorem dX8_build_87 : decode cX8_build 87 = .ok (.invokevirtual 64, 3) := z_dk tdX8_build_78 7 rfl
theorem dX8_build_90 : decode cX8_build 90 = .ok (.goto 5, 3) := z_dk tdX8_build_78 8 rfl
theorem dX8_build_93 : decode cX8_build 93 = .ok (.ldc 68, 2) := z_dk tdX8_build_78 9 rfl
theorem dX8_build_95 : decode cX8_build 95 = .ok (.istore_n 3, 1) := z_dk tdX8_build_78 10 rfl
theorem dX8_build_96 : decode cX8_build 96 = .ok (.aload_n 0, 1) := z_dk tdX8_build_78 11 rfl
theorem dX8_build_97 : decode cX8_build 97 = .ok (.getfield 20, 3) := z_dk tdX8_build_78 12 rfl
theorem dX8_build_100 : decode cX8_build 100 = .ok (.iload_n 2, 1) := z_dk tdX8_build_78 13 rfl
theorem dX8_build_101 : decode cX8_build 101 = .ok (.iload_n 3, 1) := z_dk tdX8_build_78 14 rfl
theorem dX8_build_102 : decode cX8_build 102 = .ok (.ldc 68, 2) := z_dk tdX8_build_78 15 rfl
theorem dX8_build_104 : decode cX8_build 104 = .ok (.if_icmp .ne 9, 3) := z_dk tdX8_build_78 16 rfl
theorem dX8_build_107 : decode cX8_build 107 = .ok (.sipush (-1000), 3) := z_dk tdX8_build_78 17 rfl
theorem dX8_build_110 : decode cX8_build 110 = .ok (.goto 4, 3) := z_dk tdX8_build_78 18 rfl
theorem dX8_build_113 : decode cX8_build 113 = .ok (.iload_n 3, 1) := z_dk tdX8_build_78 19 rfl
theorem dX8_build_114 : decode cX8_build 114 = .ok (.invokevirtual 56, 3) := z_dk tdX8_build_78 20 rfl
theorem dX8_build_117 : decode cX8_build 117 = .ok (.aload_n 0, 1) := z_dk tdX8_build_78 21 rfl
theorem dX8_build_118 : decode cX8_build 118 = .ok (.getfield 32, 3) := z_dk tdX8_build_78 22 rfl
theorem dX8_build_121 : decode cX8_build 121 = .ok (.iload_n 2, 1) := z_dk tdX8_build_78 23 rfl
theorem tdX8_build_122 : (([(122, .invokevirtual 69, 3), (125, .aload_n 0, 1), (126, .getfield 29, 3), (129, .iload_n 2, 1), (130, .iconst 1, 1), (131, .iadd, 1), (132, .invokevirtual 69, 3), (135, .invokestatic 73, 3), (138, .istore 4, 2), (140, .aload_n 0, 1), (141, .getfield 23, 3), (144, .iload_n 2, 1), (145, .aload_n 0, 1), (146, .getfield 43, 3), (149, .bipush 8, 2), (151, .invokevirtual 69, 3), (154, .iload_n 3, 1), (155, .ldc 68, 2), (157, .if_icmp .ne 8, 3), (160, .iload 4, 2), (162, .goto 5, 3), (165, .bipush 12, 2), (167, .iadd, 1), (168, .invokevirtual 56, 3)] : List (Nat × Instr × Nat)).all fun e => decide (decode cX8_build e.1 = .ok e.2)) = true := by decide +kernel
theorem dX8_build_122 : decode cX8_build 122 = .ok (.invokevirtual 69, 3) := z_dk tdX8_build_122 0 rfl
theorem dX8_build_125 : decode cX8_build 125 = .ok (.aload_n 0, 1) := z_dk tdX8_build_122 1 rfl
theorem dX8_build_126 : decode cX8_build 126 = .ok (.getfield 29, 3) := z_dk tdX8_build_122 2 rfl
theorem dX8_build_129 : decode cX8_build 129 = .ok (.iload_n 2, 1) := z_dk tdX8_build_122 3 rfl
theorem dX8_build_130 : decode cX8_build 130 = .ok (.iconst 1, 1) := z_dk tdX8_build_122 4 rfl
theorem dX8_build_131 : decode cX8_build 131 = .ok (.iadd, 1) := z_dk tdX8_build_122 5 rfl
theorem dX8_build_132 : decode cX8_build 132 = .ok (.invokevirtual 69, 3) := z_dk tdX8_build_122 6 rfl
theorem dX8_build_135 : decode cX8_build 135 = .ok (.invokestatic 73, 3) := z_dk tdX8_build_122 7 rfl
theorem dX8_build_138 : decode cX8_build 138 = .ok (.istore 4, 2) := z_dk tdX8_build_122 8 rfl
theorem dX8_build_140 : decode cX8_build 140 = .ok (.aload_n 0, 1) := z_dk tdX8_build_122 9 rfl
theorem dX8_build_141 : decode cX8_build 141 = .ok (.getfield 23, 3) := z_dk tdX8_build_122 10 rfl
theorem dX8_build_144 : decode cX8_build 144 = .ok (.iload_n 2, 1) := z_dk tdX8_build_122 11 rfl
theorem dX8_build_145 : decode cX8_build 145 = .ok (.aload_n 0, 1) := z_dk tdX8_build_122 12 rfl
theorem dX8_build_146 : decode cX8_build 146 = .ok (.getfield 43, 3) := z_dk tdX8_build_122 13 rfl
theorem dX8_build_149 : decode cX8_build 149 = .ok (.bipush 8, 2) := z_dk tdX8_build_122 14 rfl
theorem dX8_build_151 : decode cX8_build 151 = .ok (.invokevirtual 69, 3) := z_dk tdX8_build_122 15 rfl
theorem dX8_build_154 : decode cX8_build 154 = .ok (.iload_n 3, 1) := z_dk tdX8_build_122 16 rfl
theorem dX8_build_155 : decode cX8_build 155 = .ok (.ldc 68, 2) := z_dk tdX8_build_122 17 rfl
theorem dX8_build_157 : decode cX8_build 157 = .ok (.if_icmp .ne 8, 3) := z_dk tdX8_build_122 18 rfl
theorem dX8_build_160 : decode cX8_build 160 = .ok (.iload 4, 2) := z_dk tdX8_build_122 19 rfl
theorem dX8_build_162 : decode cX8_build 162 = .ok (.goto 5, 3) := z_dk tdX8_build_122 20 rfl
theorem dX8_build_165 : decode cX8_build 165 = .ok (.bipush 12, 2) := z_dk tdX8_build_122 21 rfl
theorem dX8_build_167 : decode cX8_build 167 = .ok (.iadd, 1) := z_dk tdX8_build_122 22 rfl
theorem dX8_build_168 : decode cX8_build 168 = .ok (.invokevirtual 56, 3) := z_dk tdX8_build_122 23 rfl
theorem tdX8_build_171 : (([(171, .aload_n 0, 1), (172, .getfield 26, 3), (175, .iload_n 2, 1), (176, .iconst 1, 1), (177, .iadd, 1), (178, .aload_n 0, 1), (179, .getfield 26, 3), (182, .iload_n 2, 1), (183, .invokevirtual 69, 3), (186, .aload_n 0, 1), (187, .getfield 23, 3), (190, .iload_n 2, 1), (191, .invokevirtual 69, 3), (194, .iadd, 1), (195, .invokevirtual 56, 3), (198, .iinc 2 1, 3), (201, .goto (-150), 3), (204, .return_, 1)] : List (Nat × Instr × Nat)).all fun e => decide (decode cX8_build e.1 = .ok e.2)) = true := by decide +kernel
theorem dX8_build_171 : decode cX8_build 171 = .ok (.aload_n 0, 1) := z_dk tdX8_build_171 0 rfl
theorem dX8_build_172 : decode cX8_build 172 = .ok (.getfield 26, 3) := z_dk tdX8_build_171 1 rfl
theorem dX8_build_175 : decode cX8_build 175 = .ok (.iload_n 2, 1) := z_dk tdX8_build_171 2 rfl
theorem dX8_build_176 : decode cX8_build 176 = .ok (.iconst 1, 1) := z_dk tdX8_build_171 3 rfl
theorem dX8_build_177 : decode cX8_build 177 = .ok (.iadd, 1) := z_dk tdX8_build_171 4 rfl
theorem dX8_build_178 : decode cX8_build 178 = .ok (.aload_n 0, 1) := z_dk tdX8_build_171 5 rfl
theorem dX8_build_179 : decode cX8_build 179 = .ok (.getfield 26, 3) := z_dk tdX8_build_171 6 rfl
theorem dX8_build_182 : decode cX8_build 182 = .ok (.iload_n 2, 1) := z_dk tdX8_build_171 7 rfl
theorem dX8_build_183 : decode cX8_build 183 = .ok (.invokevirtual 69, 3) := z_dk tdX8_build_171 8 rfl
theorem dX8_build_186 : decode cX8_build 186 = .ok (.aload_n 0, 1) := z_dk tdX8_build_171 9 rfl
theorem dX8_build_187 : decode cX8_build 187 = .ok (.getfield 23, 3) := z_dk tdX8_build_171 10 rfl
theorem dX8_build_190 : decode cX8_build 190 = .ok (.iload_n 2, 1) := z_dk tdX8_build_171 11 rfl
theorem dX8_build_191 : decode cX8_build 191 = .ok (.invokevirtual 69, 3) := z_dk tdX8_build_171 12 rfl
theorem dX8_build_194 : decode cX8_build 194 = .ok (.iadd, 1) := z_dk tdX8_build_171 13 rfl
theorem dX8_build_195 : decode cX8_build 195 = .ok (.invokevirtual 56, 3) := z_dk tdX8_build_171 14 rfl
theorem dX8_build_198 : decode cX8_build 198 = .ok (.iinc 2 1, 3) := z_dk tdX8_build_171 15 rfl
theorem dX8_build_201 : decode cX8_build 201 = .ok (.goto (-150), 3) := z_dk tdX8_build_171 16 rfl
theorem dX8_build_204 : decode cX8_build 204 = .ok (.return_, 1) := z_dk tdX8_build_171 17 rfl
theorem tdX8_outerOn_0 : (([(0, .aload_n 0, 1), (1, .getfield 35, 3), (4, .iload_n 1, 1), (5, .iload_n 2, 1), (6, .invokevirtual 78, 3), (9, .aload_n 0, 1), (10, .getfield 35, 3), (13, .iload_n 1, 1), (14, .iload_n 2, 1), (15, .invokevirtual 81, 3), (18, .iadd, 1), (19, .ifCond .le 8, 3), (22, .bipush 6, 2), (24, .goto 4, 3), (27, .iconst 0, 1), (28, .ireturn, 1)] : List (Nat × Instr × Nat)).all fun e => decide (decode cX8_outerOn e.1 = .ok e.2)) = true := by decide +kernel
theorem dX8_outerOn_0 : decode cX8_outerOn 0 = .ok (.aload_n 0, 1) := z_dk tdX8_outerOn_0 0 rfl
theorem dX8_outerOn_1 : decode cX8_outerOn 1 = .ok (.getfield 35, 3) := z_dk tdX8_outerOn_0 1 rfl
theorem dX8_outerOn_4 : decode cX8_outerOn 4 = .ok (.iload_n 1, 1) := z_dk tdX8_outerOn_0 2 rfl
theorem dX8_outerOn_5 : decode cX8_outerOn 5 = .ok (.iload_n 2, 1) := z_dk tdX8_outerOn_0 3 rfl
theorem dX8_outerOn_6 : decode cX8_outerOn 6 = .ok (.invokevirtual 78, 3) := z_dk tdX8_outerOn_0 4 rfl
theorem dX8_outerOn_9 : decode cX8_outerOn 9 = .ok (.aload_n 0, 1) := z_dk tdX8_outerOn_0 5 rfl
theorem dX8_outerOn_10 : decode cX8_outerOn 10 = .ok (.getfield 35, 3) := z_dk tdX8_outerOn_0 6 rfl
theorem dX8_outerOn_13 : decode cX8_outerOn 13 = .ok (.iload_n 1, 1) := z_dk tdX8_outerOn_0 7 rfl
theorem dX8_outerOn_14 : decode cX8_outerOn 14 = .ok (.iload_n 2, 1) := z_dk tdX8_outerOn_0 8 rfl
theorem dX8_outerOn_15 : decode cX8_outerOn 15 = .ok (.invokevirtual 81, 3) := z_dk tdX8_outerOn_0 9 rfl
theorem dX8_outerOn_18 : decode cX8_outerOn 18 = .ok (.iadd, 1) := z_dk tdX8_outerOn_0 10 rfl
theorem dX8_outerOn_19 : decode cX8_outerOn 19 = .ok (.ifCond .le 8, 3) := z_dk tdX8_outerOn_0 11 rfl
theorem dX8_outerOn_22 : decode cX8_outerOn 22 = .ok (.bipush 6, 2) := z_dk tdX8_outerOn_0 12 rfl
theorem dX8_outerOn_24 : decode cX8_outerOn 24 = .ok (.goto 4, 3) := z_dk tdX8_outerOn_0 13 rfl
theorem dX8_outerOn_27 : decode cX8_outerOn 27 = .ok (.iconst 0, 1) := z_dk tdX8_outerOn_0 14 rfl
theorem dX8_outerOn_28 : decode cX8_outerOn 28 = .ok (.ireturn, 1) := z_dk tdX8_outerOn_0 15 rfl
theorem tdX8_visit_0 : (([(0, .ldc 68, 2), (2, .istore 4, 2), (4, .aload_n 0, 1), (5, .getfield 35, 3), (8, .getfield 84, 3), (11, .iload_n 1, 1), (12, .invokevirtual 69, 3), (15, .istore 5, 2), (17, .iload 5, 2), (19, .aload_n 0, 1), (20, .getfield 35, 3), (23, .getfield 84, 3), (26, .iload_n 1, 1), (27, .iconst 1, 1), (28, .iadd, 1), (29, .invokevirtual 69, 3), (32, .if_icmp .ge 66, 3), (35, .iconst 0, 1), (36, .istore 6, 2), (38, .iload 6, 2), (40, .aload_n 0, 1), (41, .getfield 35, 3), (44, .getfield 87, 3), (47, .iload 5, 2)] : List (Nat × Instr × Nat)).all fun e => decide (decode cX8_visit e.1 = .ok e.2)) = true := by decide +kernel
theorem dX8_visit_0 : decode cX8_visit 0 = .ok (.ldc 68, 2) := z_dk tdX8_visit_0 0 rfl
theorem dX8_visit_2 : decode cX8_visit 2 = .ok (.istore 4, 2) := z_dk tdX8_visit_0 1 rfl
theorem dX8_visit_4 : decode cX8_visit 4 = .ok (.aload_n 0, 1) := z_dk tdX8_visit_0 2 rfl
theorem dX8_visit_5 : decode cX8_visit 5 = .ok (.getfield 35, 3) := z_dk tdX8_visit_0 3 rfl
theorem dX8_visit_8 : decode cX8_visit 8 = .ok (.getfield 84, 3) := z_dk tdX8_visit_0 4 rfl
theorem dX8_visit_11 : decode cX8_visit 11 = .ok (.iload_n 1, 1) := z_dk tdX8_visit_0 5 rfl
theorem dX8_visit_12 : decode cX8_visit 12 = .ok (.invokevirtual 69, 3) := z_dk tdX8_visit_0 6 rfl
theorem dX8_visit_15 : decode cX8_visit 15 = .ok (.istore 5, 2) := z_dk tdX8_visit_0 7 rfl
theorem dX8_visit_17 : decode cX8_visit 17 = .ok (.iload 5, 2) := z_dk tdX8_visit_0 8 rfl
theorem dX8_visit_19 : decode cX8_visit 19 = .ok (.aload_n 0, 1) := z_dk tdX8_visit_0 9 rfl
theorem dX8_visit_20 : decode cX8_visit 20 = .ok (.getfield 35, 3) := z_dk tdX8_visit_0 10 rfl
theorem dX8_visit_23 : decode cX8_visit 23 = .ok (.getfield 84, 3) := z_dk tdX8_visit_0 11 rfl
theorem dX8_visit_26 : decode cX8_visit 26 = .ok (.iload_n 1, 1) := z_dk tdX8_visit_0 12 rfl
theorem dX8_visit_27 : decode cX8_visit 27 = .ok (.iconst 1, 1) := z_dk tdX8_visit_0 13 rfl
theorem dX8_visit_28 : decode cX8_visit 28 = .ok (.iadd, 1) := z_dk tdX8_visit_0 14 rfl
theorem dX8_visit_29 : decode cX8_visit 29 = .ok (.invokevirtual 69, 3) := z_dk tdX8_visit_0 15 rfl
theorem dX8_visit_32 : decode cX8_visit 32 = .ok (.if_icmp .ge 66, 3) := z_dk tdX8_visit_0 16 rfl
theorem dX8_visit_35 : decode cX8_visit 35 = .ok (.iconst 0, 1) := z_dk tdX8_visit_0 17 rfl
theorem dX8_visit_36 : decode cX8_visit 36 = .ok (.istore 6, 2) := z_dk tdX8_visit_0 18 rfl
theorem dX8_visit_38 : decode cX8_visit 38 = .ok (.iload 6, 2) := z_dk tdX8_visit_0 19 rfl
theorem dX8_visit_40 : decode cX8_visit 40 = .ok (.aload_n 0, 1) := z_dk tdX8_visit_0 20 rfl
theorem dX8_visit_41 : decode cX8_visit 41 = .ok (.getfield 35, 3) := z_dk tdX8_visit_0 21 rfl
theorem dX8_visit_44 : decode cX8_visit 44 = .ok (.getfield 87, 3) := z_dk tdX8_visit_0 22 rfl
theorem dX8_visit_47 : decode cX8_visit 47 = .ok (.iload 5, 2) := z_dk tdX8_visit_0 23 rfl
theorem tdX8_visit_49 : (([(49, .iload_n 2, 1), (50, .invokevirtual 91, 3), (53, .if_icmp .ge 39, 3), (56, .aload_n 0, 1), (57, .getfield 35, 3), (60, .iload 5, 2), (62, .iload_n 2, 1), (63, .iload 6, 2), (65, .invokevirtual 96, 3), (68, .istore 7, 2), (70, .iload 4, 2), (72, .aload_n 0, 1), (73, .iload 7, 2), (75, .bipush 6, 2), (77, .iload_n 3, 1), (78, .invokevirtual 100, 3), (81, .invokestatic 103, 3), (84, .istore 4, 2), (86, .iinc 6 1, 3), (89, .goto (-51), 3), (92, .iinc 5 1, 3), (95, .goto (-78), 3), (98, .aload_n 0, 1), (99, .getfield 35, 3)] : List (Nat × Instr × Nat)).all fun e => decide (decode cX8_visit e.1 = .ok e.2)) = true := by decide +kernel
theorem dX8_visit_49 : decode cX8_visit 49 = .ok (.iload_n 2, 1) := z_dk tdX8_visit_49 0 rfl
theorem dX8_visit_50 : decode cX8_visit 50 = .ok (.invokevirtual 91, 3) := z_dk tdX8_visit_49 1 rfl
theorem dX8_visit_53 : decode cX8_visit 53 = .ok (.if_icmp .ge 39, 3) := z_dk tdX8_visit_49 2 rfl
theorem dX8_visit_56 : decode cX8_visit 56 = .ok (.aload_n 0, 1) := z_dk tdX8_visit_49 3 rfl
theorem dX8_visit_57 : decode cX8_visit 57 = .ok (.getfield 35, 3) := z_dk tdX8_visit_49 4 rfl
theorem dX8_visit_60 : decode cX8_visit 60 = .ok (.iload 5, 2) := z_dk tdX8_visit_49 5 rfl
theorem dX8_visit_62 : decode cX8_visit 62 = .ok (.iload_n 2, 1) := z_dk tdX8_visit_49 6 rfl
theorem dX8_visit_63 : decode cX8_visit 63 = .ok (.iload 6, 2) := z_dk tdX8_visit_49 7 rfl
theorem dX8_visit_65 : decode cX8_visit 65 = .ok (.invokevirtual 96, 3) := z_dk tdX8_visit_49 8 rfl
theorem dX8_visit_68 : decode cX8_visit 68 = .ok (.istore 7, 2) := z_dk tdX8_visit_49 9 rfl
theorem dX8_visit_70 : decode cX8_visit 70 = .ok (.iload 4, 2) := z_dk tdX8_visit_49 10 rfl
theorem dX8_visit_72 : decode cX8_visit 72 = .ok (.aload_n 0, 1) := z_dk tdX8_visit_49 11 rfl
theorem dX8_visit_73 : decode cX8_visit 73 = .ok (.iload 7, 2) := z_dk tdX8_visit_49 12 rfl
theorem dX8_visit_75 : decode cX8_visit 75 = .ok (.bipush 6, 2) := z_dk tdX8_visit_49 13 rfl
theorem dX8_visit_77 : decode cX8_visit 77 = .ok (.iload_n 3, 1) := z_dk tdX8_visit_49 14 rfl
theorem dX8_visit_78 : decode cX8_visit 78 = .ok (.invokevirtual 100, 3) := z_dk tdX8_visit_49 15 rfl
theorem dX8_visit_81 : decode cX8_visit 81 = .ok (.invokestatic 103, 3) := z_dk tdX8_visit_49 16 rfl
theorem dX8_visit_84 : decode cX8_visit 84 = .ok (.istore 4, 2) := z_dk tdX8_visit_49 17 rfl
theorem dX8_visit_86 : decode cX8_visit 86 = .ok (.iinc 6 1, 3) := z_dk tdX8_visit_49 18 rfl
theorem dX8_visit_89 : decode cX8_visit 89 = .ok (.goto (-51), 3) := z_dk tdX8_visit_49 19 rfl
theorem dX8_visit_92 : decode cX8_visit 92 = .ok (.iinc 5 1, 3) := z_dk tdX8_visit_49 20 rfl
theorem dX8_visit_95 : decode cX8_visit 95 = .ok (.goto (-78), 3) := z_dk tdX8_visit_49 21 rfl
theorem dX8_visit_98 : decode cX8_visit 98 = .ok (.aload_n 0, 1) := z_dk tdX8_visit_49 22 rfl
theorem dX8_visit_99 : decode cX8_visit 99 = .ok (.getfield 35, 3) := z_dk tdX8_visit_49 23 rfl
theorem tdX8_visit_102 : (([(102, .iload_n 1, 1), (103, .invokevirtual 106, 3), (106, .istore 5, 2), (108, .iload 5, 2), (110, .aload_n 0, 1), (111, .getfield 35, 3), (114, .iload_n 1, 1), (115, .iconst 1, 1), (116, .iadd, 1), (117, .invokevirtual 106, 3), (120, .if_icmp .ge 54, 3), (123, .aload_n 0, 1), (124, .getfield 39, 3), (127, .iload 5, 2), (129, .iload_n 2, 1), (130, .invokevirtual 109, 3), (133, .iconst 1, 1), (134, .if_icmp .ne 34, 3), (137, .aload_n 0, 1), (138, .getfield 35, 3), (141, .getfield 114, 3), (144, .iload 5, 2), (146, .invokevirtual 69, 3), (149, .iconst 4, 1)] : List (Nat × Instr × Nat)).all fun e => decide (decode cX8_visit e.1 = .ok e.2)) = true := by decide +kernel
theorem dX8_visit_102 : decode cX8_visit 102 = .ok (.iload_n 1, 1) := z_dk tdX8_visit_102 0 rfl
theorem dX8_visit_103 : decode cX8_visit 103 = .ok (.invokevirtual 106, 3) := z_dk tdX8_visit_102 1 rfl
theorem dX8_visit_106 : decode cX8_visit 106 = .ok (.istore 5, 2) := z_dk tdX8_visit_102 2 rfl
theorem dX8_visit_108 : decode cX8_visit 108 = .ok (.iload 5, 2) := z_dk tdX8_visit_102 3 rfl
theorem dX8_visit_110 : decode cX8_visit 110 = .ok (.aload_n 0, 1) := z_dk tdX8_visit_102 4 rfl
theorem dX8_visit_111 : decode cX8_visit 111 = .ok (.getfield 35, 3) := z_dk tdX8_visit_102 5 rfl
theorem dX8_visit_114 : decode cX8_visit 114 = .ok (.iload_n 1, 1) := z_dk tdX8_visit_102 6 rfl
theorem dX8_visit_115 : decode cX8_visit 115 = .ok (.iconst 1, 1) := z_dk tdX8_visit_102 7 rfl
theorem dX8_visit_116 : decode cX8_visit 116 = .ok (.iadd, 1) := z_dk tdX8_visit_102 8 rfl
theorem dX8_visit_117 : decode cX8_visit 117 = .ok (.invokevirtual 106, 3) := z_dk tdX8_visit_102 9 rfl
theorem dX8_visit_120 : decode cX8_visit 120 = .ok (.if_icmp .ge 54, 3) := z_dk tdX8_visit_102 10 rfl
theorem dX8_visit_123 : decode cX8_visit 123 = .ok (.aload_n 0, 1) := z_dk tdX8_visit_102 11 rfl
theorem dX8_visit_124 : decode cX8_visit 124 = .ok (.getfield 39, 3) := z_dk tdX8_visit_102 12 rfl
theorem dX8_visit_127 : decode cX8_visit 127 = .ok (.iload 5, 2) := z_dk tdX8_visit_102 13 rfl
theorem dX8_visit_129 : decode cX8_visit 129 = .ok (.iload_n 2, 1) := z_dk tdX8_visit_102 14 rfl
theorem dX8_visit_130 : decode cX8_visit 130 = .ok (.invokevirtual 109, 3) := z_dk tdX8_visit_102 15 rfl
theorem dX8_visit_133 : decode cX8_visit 133 = .ok (.iconst 1, 1) := z_dk tdX8_visit_102 16 rfl
theorem dX8_visit_134 : decode cX8_visit 134 = .ok (.if_icmp .ne 34, 3) := z_dk tdX8_visit_102 17 rfl
theorem dX8_visit_137 : decode cX8_visit 137 = .ok (.aload_n 0, 1) := z_dk tdX8_visit_102 18 rfl
theorem dX8_visit_138 : decode cX8_visit 138 = .ok (.getfield 35, 3) := z_dk tdX8_visit_102 19 rfl
theorem dX8_visit_141 : decode cX8_visit 141 = .ok (.getfield 114, 3) := z_dk tdX8_visit_102 20 rfl
theorem dX8_visit_144 : decode cX8_visit 144 = .ok (.iload 5, 2) := z_dk tdX8_visit_102 21 rfl
theorem dX8_visit_146 : decode cX8_visit 146 = .ok (.invokevirtual 69, 3) := z_dk tdX8_visit_102 22 rfl
theorem dX8_visit_149 : decode cX8_visit 149 = .ok (.iconst 4, 1) := z_dk tdX8_visit_102 23 rfl
theorem tdX8_visit_150 : (([(150, .iadd, 1), (151, .istore 6, 2), (153, .iload 4, 2), (155, .aload_n 0, 1), (156, .iload 6, 2), (158, .iconst 4, 1), (159, .iload_n 3, 1), (160, .invokevirtual 100, 3), (163, .invokestatic 103, 3), (166, .istore 4, 2), (168, .iinc 5 1, 3), (171, .goto (-63), 3), (174, .iload 4, 2), (176, .ireturn, 1)] : List (Nat × Instr × Nat)).all fun e => decide (decode cX8_visit e.1 = .ok e.2)) = true := by decide +kernel
theorem dX8_visit_150 : decode cX8_visit 150 = .ok (.iadd, 1) := z_dk tdX8_visit_150 0 rfl
theorem dX8_visit_151 : decode cX8_visit 151 = .ok (.istore 6, 2) := z_dk tdX8_visit_150 1 rfl
theorem dX8_visit_153 : decode cX8_visit 153 = .ok (.iload 4, 2) := z_dk tdX8_visit_150 2 rfl
theorem dX8_visit_155 : decode cX8_visit 155 = .ok (.aload_n 0, 1) := z_dk tdX8_visit_150 3 rfl
theorem dX8_visit_156 : decode cX8_visit 156 = .ok (.iload 6, 2) := z_dk tdX8_visit_150 4 rfl
theorem dX8_visit_158 : decode cX8_visit 158 = .ok (.iconst 4, 1) := z_dk tdX8_visit_150 5 rfl
theorem dX8_visit_159 : decode cX8_visit 159 = .ok (.iload_n 3, 1) := z_dk tdX8_visit_150 6 rfl
theorem dX8_visit_160 : decode cX8_visit 160 = .ok (.invokevirtual 100, 3) := z_dk tdX8_visit_150 7 rfl
theorem dX8_visit_163 : decode cX8_visit 163 = .ok (.invokestatic 103, 3) := z_dk tdX8_visit_150 8 rfl
theorem dX8_visit_166 : decode cX8_visit 166 = .ok (.istore 4, 2) := z_dk tdX8_visit_150 9 rfl
theorem dX8_visit_168 : decode cX8_visit 168 = .ok (.iinc 5 1, 3) := z_dk tdX8_visit_150 10 rfl
theorem dX8_visit_171 : decode cX8_visit 171 = .ok (.goto (-63), 3) := z_dk tdX8_visit_150 11 rfl
theorem dX8_visit_174 : decode cX8_visit 174 = .ok (.iload 4, 2) := z_dk tdX8_visit_150 12 rfl
theorem dX8_visit_176 : decode cX8_visit 176 = .ok (.ireturn, 1) := z_dk tdX8_visit_150 13 rfl
theorem tdX8_span_0 : (([(0, .iload_n 1, 1), (1, .istore 4, 2), (3, .iload 4, 2), (5, .iload_n 1, 1), (6, .iload_n 2, 1), (7, .iadd, 1), (8, .if_icmp .ge 54, 3), (11, .iload_n 3, 1), (12, .ifCond .eq 22, 3), (15, .aload_n 0, 1), (16, .getfield 16, 3), (19, .iload 4, 2), (21, .bipush 100, 2), (23, .iadd, 1), (24, .aload_n 0, 1), (25, .getfield 60, 3), (28, .invokevirtual 56, 3), (31, .goto 25, 3), (34, .aload_n 0, 1), (35, .getfield 16, 3), (38, .iload 4, 2), (40, .bipush 100, 2), (42, .iadd, 1), (43, .invokevirtual 69, 3)] : List (Nat × Instr × Nat)).all fun e => decide (decode cX8_span e.1 = .ok e.2)) = true := by decide +kernel
theorem dX8_span_0 : decode cX8_span 0 = .ok (.iload_n 1, 1) := z_dk tdX8_span_0 0 rfl
theorem dX8_span_1 : decode cX8_span 1 = .ok (.istore 4, 2) := z_dk tdX8_span_0 1 rfl
theorem dX8_span_3 : decode cX8_span 3 = .ok (.iload 4, 2) := z_dk tdX8_span_0 2 rfl
theorem dX8_span_5 : decode cX8_span 5 = .ok (.iload_n 1, 1) := z_dk tdX8_span_0 3 rfl
theorem dX8_span_6 : decode cX8_span 6 = .ok (.iload_n 2, 1) := z_dk tdX8_span_0 4 rfl
theorem dX8_span_7 : decode cX8_span 7 = .ok (.iadd, 1) := z_dk tdX8_span_0 5 rfl
theorem dX8_span_8 : decode cX8_span 8 = .ok (.if_icmp .ge 54, 3) := z_dk tdX8_span_0 6 rfl
theorem dX8_span_11 : decode cX8_span 11 = .ok (.iload_n 3, 1) := z_dk tdX8_span_0 7 rfl
theorem dX8_span_12 : decode cX8_span 12 = .ok (.ifCond .eq 22, 3) := z_dk tdX8_span_0 8 rfl
theorem dX8_span_15 : decode cX8_span 15 = .ok (.aload_n 0, 1) := z_dk tdX8_span_0 9 rfl
theorem dX8_span_16 : decode cX8_span 16 = .ok (.getfield 16, 3) := z_dk tdX8_span_0 10 rfl
theorem dX8_span_19 : decode cX8_span 19 = .ok (.iload 4, 2) := z_dk tdX8_span_0 11 rfl
theorem dX8_span_21 : decode cX8_span 21 = .ok (.bipush 100, 2) := z_dk tdX8_span_0 12 rfl
theorem dX8_span_23 : decode cX8_span 23 = .ok (.iadd, 1) := z_dk tdX8_span_0 13 rfl
theorem dX8_span_24 : decode cX8_span 24 = .ok (.aload_n 0, 1) := z_dk tdX8_span_0 14 rfl
theorem dX8_span_25 : decode cX8_span 25 = .ok (.getfield 60, 3) := z_dk tdX8_span_0 15 rfl
theorem dX8_span_28 : decode cX8_span 28 = .ok (.invokevirtual 56, 3) := z_dk tdX8_span_0 16 rfl
theorem dX8_span_31 : decode cX8_span 31 = .ok (.goto 25, 3) := z_dk tdX8_span_0 17 rfl
theorem dX8_span_34 : decode cX8_span 34 = .ok (.aload_n 0, 1) := z_dk tdX8_span_0 18 rfl
theorem dX8_span_35 : decode cX8_span 35 = .ok (.getfield 16, 3) := z_dk tdX8_span_0 19 rfl
theorem dX8_span_38 : decode cX8_span 38 = .ok (.iload 4, 2) := z_dk tdX8_span_0 20 rfl
theorem dX8_span_40 : decode cX8_span 40 = .ok (.bipush 100, 2) := z_dk tdX8_span_0 21 rfl
theorem dX8_span_42 : decode cX8_span 42 = .ok (.iadd, 1) := z_dk tdX8_span_0 22 rfl
theorem dX8_span_43 : decode cX8_span 43 = .ok (.invokevirtual 69, 3) := z_dk tdX8_span_0 23 rfl
theorem tdX8_span_46 : (([(46, .aload_n 0, 1), (47, .getfield 60, 3), (50, .if_icmp .ne 6, 3), (53, .iload 4, 2), (55, .ireturn, 1), (56, .iinc 4 1, 3), (59, .goto (-56), 3), (62, .ldc 68, 2), (64, .ireturn, 1)] : List (Nat × Instr × Nat)).all fun e => decide (decode cX8_span e.1 = .ok e.2)) = true := by decide +kernel
theorem dX8_span_46 : decode cX8_span 46 = .ok (.aload_n 0, 1) := z_dk tdX8_span_46 0 rfl
theorem dX8_span_47 : decode cX8_span 47 = .ok (.getfield 60, 3) := z_dk tdX8_span_46 1 rfl
theorem dX8_span_50 : decode cX8_span 50 = .ok (.if_icmp .ne 6, 3) := z_dk tdX8_span_46 2 rfl
theorem dX8_span_53 : decode cX8_span 53 = .ok (.iload 4, 2) := z_dk tdX8_span_46 3 rfl
theorem dX8_span_55 : decode cX8_span 55 = .ok (.ireturn, 1) := z_dk tdX8_span_46 4 rfl
theorem dX8_span_56 : decode cX8_span 56 = .ok (.iinc 4 1, 3) := z_dk tdX8_span_46 5 rfl
theorem dX8_span_59 : decode cX8_span 59 = .ok (.goto (-56), 3) := z_dk tdX8_span_46 6 rfl
theorem dX8_span_62 : decode cX8_span 62 = .ok (.ldc 68, 2) := z_dk tdX8_span_46 7 rfl
theorem dX8_span_64 : decode cX8_span 64 = .ok (.ireturn, 1) := z_dk tdX8_span_46 8 rfl
theorem tdX8_thickOf_0 : (([(0, .aload_n 0, 1), (1, .getfield 26, 3), (4, .iload_n 2, 1), (5, .invokevirtual 69, 3), (8, .aload_n 0, 1), (9, .getfield 26, 3), (12, .iload_n 1, 1), (13, .invokevirtual 69, 3), (16, .isub, 1), (17, .istore_n 3, 1), (18, .bipush 12, 2), (20, .iload_n 2, 1), (21, .iload_n 1, 1), (22, .isub, 1), (23, .iconst 1, 1), (24, .iadd, 1), (25, .imul, 1), (26, .iload_n 3, 1), (27, .iadd, 1), (28, .aload_n 0, 1), (29, .getfield 29, 3), (32, .iload_n 1, 1), (33, .invokevirtual 69, 3), (36, .iadd, 1)] : List (Nat × Instr × Nat)).all fun e => decide (decode cX8_thickOf e.1 = .ok e.2)) = true := by decide +kernel
theorem dX8_thickOf_0 : decode cX8_thickOf 0 = .ok (.aload_n 0, 1) := z_dk tdX8_thickOf_0 0 rfl
theorem dX8_thickOf_1 : decode cX8_thickOf 1 = .ok (.getfield 26, 3) := z_dk tdX8_thickOf_0 1 rfl
theorem dX8_thickOf_4 : decode cX8_thickOf 4 = .ok (.iload_n 2, 1) := z_dk tdX8_thickOf_0 2 rfl
theorem dX8_thickOf_5 : decode cX8_thickOf 5 = .ok (.invokevirtual 69, 3) := z_dk tdX8_thickOf_0 3 rfl
theorem dX8_thickOf_8 : decode cX8_thickOf 8 = .ok (.aload_n 0, 1) := z_dk tdX8_thickOf_0 4 rfl
theorem dX8_thickOf_9 : decode cX8_thickOf 9 = .ok (.getfield 26, 3) := z_dk tdX8_thickOf_0 5 rfl
theorem dX8_thickOf_12 : decode cX8_thickOf 12 = .ok (.iload_n 1, 1) := z_dk tdX8_thickOf_0 6 rfl
theorem dX8_thickOf_13 : decode cX8_thickOf 13 = .ok (.invokevirtual 69, 3) := z_dk tdX8_thickOf_0 7 rfl
theorem dX8_thickOf_16 : decode cX8_thickOf 16 = .ok (.isub, 1) := z_dk tdX8_thickOf_0 8 rfl
theorem dX8_thickOf_17 : decode cX8_thickOf 17 = .ok (.istore_n 3, 1) := z_dk tdX8_thickOf_0 9 rfl
theorem dX8_thickOf_18 : decode cX8_thickOf 18 = .ok (.bipush 12, 2) := z_dk tdX8_thickOf_0 10 rfl
theorem dX8_thickOf_20 : decode cX8_thickOf 20 = .ok (.iload_n 2, 1) := z_dk tdX8_thickOf_0 11 rfl
theorem dX8_thickOf_21 : decode cX8_thickOf 21 = .ok (.iload_n 1, 1) := z_dk tdX8_thickOf_0 12 rfl
theorem dX8_thickOf_22 : decode cX8_thickOf 22 = .ok (.isub, 1) := z_dk tdX8_thickOf_0 13 rfl
theorem dX8_thickOf_23 : decode cX8_thickOf 23 = .ok (.iconst 1, 1) := z_dk tdX8_thickOf_0 14 rfl
theorem dX8_thickOf_24 : decode cX8_thickOf 24 = .ok (.iadd, 1) := z_dk tdX8_thickOf_0 15 rfl
theorem dX8_thickOf_25 : decode cX8_thickOf 25 = .ok (.imul, 1) := z_dk tdX8_thickOf_0 16 rfl
theorem dX8_thickOf_26 : decode cX8_thickOf 26 = .ok (.iload_n 3, 1) := z_dk tdX8_thickOf_0 17 rfl
theorem dX8_thickOf_27 : decode cX8_thickOf 27 = .ok (.iadd, 1) := z_dk tdX8_thickOf_0 18 rfl
theorem dX8_thickOf_28 : decode cX8_thickOf 28 = .ok (.aload_n 0, 1) := z_dk tdX8_thickOf_0 19 rfl
theorem dX8_thickOf_29 : decode cX8_thickOf 29 = .ok (.getfield 29, 3) := z_dk tdX8_thickOf_0 20 rfl
theorem dX8_thickOf_32 : decode cX8_thickOf 32 = .ok (.iload_n 1, 1) := z_dk tdX8_thickOf_0 21 rfl
theorem dX8_thickOf_33 : decode cX8_thickOf 33 = .ok (.invokevirtual 69, 3) := z_dk tdX8_thickOf_0 22 rfl
theorem dX8_thickOf_36 : decode cX8_thickOf 36 = .ok (.iadd, 1) := z_dk tdX8_thickOf_0 23 rfl
theorem tdX8_thickOf_37 : (([(37, .aload_n 0, 1), (38, .getfield 32, 3), (41, .iload_n 2, 1), (42, .invokevirtual 69, 3), (45, .iadd, 1), (46, .ireturn, 1)] : List (Nat × Instr × Nat)).all fun e => decide (decode cX8_thickOf e.1 = .ok e.2)) = true := by decide +kernel
theorem dX8_thickOf_37 : decode cX8_thickOf 37 = .ok (.aload_n 0, 1) := z_dk tdX8_thickOf_37 0 rfl
theorem dX8_thickOf_38 : decode cX8_thickOf 38 = .ok (.getfield 32, 3) := z_dk tdX8_thickOf_37 1 rfl
theorem dX8_thickOf_41 : decode cX8_thickOf 41 = .ok (.iload_n 2, 1) := z_dk tdX8_thickOf_37 2 rfl
theorem dX8_thickOf_42 : decode cX8_thickOf 42 = .ok (.invokevirtual 69, 3) := z_dk tdX8_thickOf_37 3 rfl
theorem dX8_thickOf_45 : decode cX8_thickOf 45 = .ok (.iadd, 1) := z_dk tdX8_thickOf_37 4 rfl
theorem dX8_thickOf_46 : decode cX8_thickOf 46 = .ok (.ireturn, 1) := z_dk tdX8_thickOf_37 5 rfl
theorem tdX8_pageEnd_0 : (([(0, .iload_n 1, 1), (1, .istore_n 3, 1), (2, .iload_n 3, 1), (3, .iconst 1, 1), (4, .iadd, 1), (5, .aload_n 0, 1), (6, .getfield 35, 3), (9, .invokevirtual 46, 3), (12, .if_icmp .ge 21, 3), (15, .aload_n 0, 1), (16, .iload_n 1, 1), (17, .iload_n 3, 1), (18, .iconst 1, 1), (19, .iadd, 1), (20, .invokevirtual 117, 3), (23, .iload_n 2, 1), (24, .if_icmp .gt 9, 3), (27, .iinc 3 1, 3), (30, .goto (-28), 3), (33, .iload_n 3, 1), (34, .ireturn, 1)] : List (Nat × Instr × Nat)).all fun e => decide (decode cX8_pageEnd e.1 = .ok e.2)) = true := by decide +kernel
theorem dX8_pageEnd_0 : decode cX8_pageEnd 0 = .ok (.iload_n 1, 1) := z_dk tdX8_pageEnd_0 0 rfl
theorem dX8_pageEnd_1 : decode cX8_pageEnd 1 = .ok (.istore_n 3, 1) := z_dk tdX8_pageEnd_0 1 rfl
theorem dX8_pageEnd_2 : decode cX8_pageEnd 2 = .ok (.iload_n 3, 1) := z_dk tdX8_pageEnd_0 2 rfl
theorem dX8_pageEnd_3 : decode cX8_pageEnd 3 = .ok (.iconst 1, 1) := z_dk tdX8_pageEnd_0 3 rfl
theorem dX8_pageEnd_4 : decode cX8_pageEnd 4 = .ok (.iadd, 1) := z_dk tdX8_pageEnd_0 4 rfl
theorem dX8_pageEnd_5 : decode cX8_pageEnd 5 = .ok (.aload_n 0, 1) := z_dk tdX8_pageEnd_0 5 rfl
theorem dX8_pageEnd_6 : decode cX8_pageEnd 6 = .ok (.getfield 35, 3) := z_dk tdX8_pageEnd_0 6 rfl
theorem dX8_pageEnd_9 : decode cX8_pageEnd 9 = .ok (.invokevirtual 46, 3) := z_dk tdX8_pageEnd_0 7 rfl
theorem dX8_pageEnd_12 : decode cX8_pageEnd 12 = .ok (.if_icmp .ge 21, 3) := z_dk tdX8_pageEnd_0 8 rfl
theorem dX8_pageEnd_15 : decode cX8_pageEnd 15 = .ok (.aload_n 0, 1) := z_dk tdX8_pageEnd_0 9 rfl
theorem dX8_pageEnd_16 : decode cX8_pageEnd 16 = .ok (.iload_n 1, 1) := z_dk tdX8_pageEnd_0 10 rfl
theorem dX8_pageEnd_17 : decode cX8_pageEnd 17 = .ok (.iload_n 3, 1) := z_dk tdX8_pageEnd_0 11 rfl
theorem dX8_pageEnd_18 : decode cX8_pageEnd 18 = .ok (.iconst 1, 1) := z_dk tdX8_pageEnd_0 12 rfl
theorem dX8_pageEnd_19 : decode cX8_pageEnd 19 = .ok (.iadd, 1) := z_dk tdX8_pageEnd_0 13 rfl
theorem dX8_pageEnd_20 : decode cX8_pageEnd 20 = .ok (.invokevirtual 117, 3) := z_dk tdX8_pageEnd_0 14 rfl
theorem dX8_pageEnd_23 : decode cX8_pageEnd 23 = .ok (.iload_n 2, 1) := z_dk tdX8_pageEnd_0 15 rfl
theorem dX8_pageEnd_24 : decode cX8_pageEnd 24 = .ok (.if_icmp .gt 9, 3) := z_dk tdX8_pageEnd_0 16 rfl
theorem dX8_pageEnd_27 : decode cX8_pageEnd 27 = .ok (.iinc 3 1, 3) := z_dk tdX8_pageEnd_0 17 rfl
theorem dX8_pageEnd_30 : decode cX8_pageEnd 30 = .ok (.goto (-28), 3) := z_dk tdX8_pageEnd_0 18 rfl
theorem dX8_pageEnd_33 : decode cX8_pageEnd 33 = .ok (.iload_n 3, 1) := z_dk tdX8_pageEnd_0 19 rfl
theorem dX8_pageEnd_34 : decode cX8_pageEnd 34 = .ok (.ireturn, 1) := z_dk tdX8_pageEnd_0 20 rfl
theorem tdX8_pageCount_0 : (([(0, .iconst 0, 1), (1, .istore_n 2, 1), (2, .iconst 0, 1), (3, .istore_n 3, 1), (4, .iload_n 3, 1), (5, .aload_n 0, 1), (6, .getfield 35, 3), (9, .invokevirtual 46, 3), (12, .if_icmp .ge 22, 3), (15, .iload_n 3, 1), (16, .aload_n 0, 1), (17, .iload_n 3, 1), (18, .iload_n 1, 1), (19, .invokevirtual 120, 3), (22, .invokestatic 73, 3), (25, .iconst 1, 1), (26, .iadd, 1), (27, .istore_n 3, 1), (28, .iinc 2 1, 3), (31, .goto (-27), 3), (34, .iload_n 2, 1), (35, .ireturn, 1)] : List (Nat × Instr × Nat)).all fun e => decide (decode cX8_pageCount e.1 = .ok e.2)) = true := by decide +kernel
theorem dX8_pageCount_0 : decode cX8_pageCount 0 = .ok (.iconst 0, 1) := z_dk tdX8_pageCount_0 0 rfl
theorem dX8_pageCount_1 : decode cX8_pageCount 1 = .ok (.istore_n 2, 1) := z_dk tdX8_pageCount_0 1 rfl
theorem dX8_pageCount_2 : decode cX8_pageCount 2 = .ok (.iconst 0, 1) := z_dk tdX8_pageCount_0 2 rfl
theorem dX8_pageCount_3 : decode cX8_pageCount 3 = .ok (.istore_n 3, 1) := z_dk tdX8_pageCount_0 3 rfl
theorem dX8_pageCount_4 : decode cX8_pageCount 4 = .ok (.iload_n 3, 1) := z_dk tdX8_pageCount_0 4 rfl
theorem dX8_pageCount_5 : decode cX8_pageCount 5 = .ok (.aload_n 0, 1) := z_dk tdX8_pageCount_0 5 rfl
theorem dX8_pageCount_6 : decode cX8_pageCount 6 = .ok (.getfield 35, 3) := z_dk tdX8_pageCount_0 6 rfl
theorem dX8_pageCount_9 : decode cX8_pageCount 9 = .ok (.invokevirtual 46, 3) := z_dk tdX8_pageCount_0 7 rfl
theorem dX8_pageCount_12 : decode cX8_pageCount 12 = .ok (.if_icmp .ge 22, 3) := z_dk tdX8_pageCount_0 8 rfl
theorem dX8_pageCount_15 : decode cX8_pageCount 15 = .ok (.iload_n 3, 1) := z_dk tdX8_pageCount_0 9 rfl
theorem dX8_pageCount_16 : decode cX8_pageCount 16 = .ok (.aload_n 0, 1) := z_dk tdX8_pageCount_0 10 rfl
theorem dX8_pageCount_17 : decode cX8_pageCount 17 = .ok (.iload_n 3, 1) := z_dk tdX8_pageCount_0 11 rfl
theorem dX8_pageCount_18 : decode cX8_pageCount 18 = .ok (.iload_n 1, 1) := z_dk tdX8_pageCount_0 12 rfl
theorem dX8_pageCount_19 : decode cX8_pageCount 19 = .ok (.invokevirtual 120, 3) := z_dk tdX8_pageCount_0 13 rfl
theorem dX8_pageCount_22 : decode cX8_pageCount 22 = .ok (.invokestatic 73, 3) := z_dk tdX8_pageCount_0 14 rfl
theorem dX8_pageCount_25 : decode cX8_pageCount 25 = .ok (.iconst 1, 1) := z_dk tdX8_pageCount_0 15 rfl
theorem dX8_pageCount_26 : decode cX8_pageCount 26 = .ok (.iadd, 1) := z_dk tdX8_pageCount_0 16 rfl
theorem dX8_pageCount_27 : decode cX8_pageCount 27 = .ok (.istore_n 3, 1) := z_dk tdX8_pageCount_0 17 rfl
theorem dX8_pageCount_28 : decode cX8_pageCount 28 = .ok (.iinc 2 1, 3) := z_dk tdX8_pageCount_0 18 rfl
theorem dX8_pageCount_31 : decode cX8_pageCount 31 = .ok (.goto (-27), 3) := z_dk tdX8_pageCount_0 19 rfl
theorem dX8_pageCount_34 : decode cX8_pageCount 34 = .ok (.iload_n 2, 1) := z_dk tdX8_pageCount_0 20 rfl
theorem dX8_pageCount_35 : decode cX8_pageCount 35 = .ok (.ireturn, 1) := z_dk tdX8_pageCount_0 21 rfl
theorem tdX9_init_0 : (([(0, .aload_n 0, 1), (1, .invokespecial 3, 3), (4, .aload_n 0, 1), (5, .new 9, 3), (8, .dup, 1), (9, .sipush 200, 3), (12, .invokespecial 11, 3), (15, .putfield 14, 3), (18, .aload_n 0, 1), (19, .new 9, 3), (22, .dup, 1), (23, .sipush 200, 3), (26, .invokespecial 11, 3), (29, .putfield 20, 3), (32, .aload_n 0, 1), (33, .new 9, 3), (36, .dup, 1), (37, .sipush 200, 3), (40, .invokespecial 11, 3), (43, .putfield 23, 3), (46, .aload_n 0, 1), (47, .new 9, 3), (50, .dup, 1), (51, .sipush 200, 3)] : List (Nat × Instr × Nat)).all fun e => decide (decode cX9_init e.1 = .ok e.2)) = true := by decide +kernel
theorem dX9_init_0 : decode cX9_init 0 = .ok (.aload_n 0, 1) := z_dk tdX9_init_0 0 rfl
theorem dX9_init_1 : decode cX9_init 1 = .ok (.invokespecial 3, 3) := z_dk tdX9_init_0 1 rfl
theorem dX9_init_4 : decode cX9_init 4 = .ok (.aload_n 0, 1) := z_dk tdX9_init_0 2 rfl
theorem dX9_init_5 : decode cX9_init 5 = .ok (.new 9, 3) := z_dk tdX9_init_0 3 rfl
theorem dX9_init_8 : decode cX9_init 8 = .ok (.dup, 1) := z_dk tdX9_init_0 4 rfl
theorem dX9_init_9 : decode cX9_init 9 = .ok (.sipush 200, 3) := z_dk tdX9_init_0 5 rfl
theorem dX9_init_12 : decode cX9_init 12 = .ok (.invokespecial 11, 3) := z_dk tdX9_init_0 6 rfl
theorem dX9_init_15 : decode cX9_init 15 = .ok (.putfield 14, 3) := z_dk tdX9_init_0 7 rfl
theorem dX9_init_18 : decode cX9_init 18 = .ok (.aload_n 0, 1) := z_dk tdX9_init_0 8 rfl
theorem dX9_init_19 : decode cX9_init 19 = .ok (.new 9, 3) := z_dk tdX9_init_0 9 rfl
theorem dX9_init_22 : decode cX9_init 22 = .ok (.dup, 1) := z_dk tdX9_init_0 10 rfl
theorem dX9_init_23 : decode cX9_init 23 = .ok (.sipush 200, 3) := z_dk tdX9_init_0 11 rfl
theorem dX9_init_26 : decode cX9_init 26 = .ok (.invokespecial 11, 3) := z_dk tdX9_init_0 12 rfl
theorem dX9_init_29 : decode cX9_init 29 = .ok (.putfield 20, 3) := z_dk tdX9_init_0 13 rfl
theorem dX9_init_32 : decode cX9_init 32 = .ok (.aload_n 0, 1) := z_dk tdX9_init_0 14 rfl
theorem dX9_init_33 : decode cX9_init 33 = .ok (.new 9, 3) := z_dk tdX9_init_0 15 rfl
theorem dX9_init_36 : decode cX9_init 36 = .ok (.dup, 1) := z_dk tdX9_init_0 16 rfl
theorem dX9_init_37 : decode cX9_init 37 = .ok (.sipush 200, 3) := z_dk tdX9_init_0 17 rfl
theorem dX9_init_40 : decode cX9_init 40 = .ok (.invokespecial 11, 3) := z_dk tdX9_init_0 18 rfl
theorem dX9_init_43 : decode cX9_init 43 = .ok (.putfield 23, 3) := z_dk tdX9_init_0 19 rfl
theorem dX9_init_46 : decode cX9_init 46 = .ok (.aload_n 0, 1) := z_dk tdX9_init_0 20 rfl
theorem dX9_init_47 : decode cX9_init 47 = .ok (.new 9, 3) := z_dk tdX9_init_0 21 rfl
theorem dX9_init_50 : decode cX9_init 50 = .ok (.dup, 1) := z_dk tdX9_init_0 22 rfl
theorem dX9_init_51 : decode cX9_init 51 = .ok (.sipush 200, 3) := z_dk tdX9_init_0 23 rfl
theorem tdX9_init_54 : (([(54, .invokespecial 11, 3), (57, .putfield 26, 3), (60, .aload_n 0, 1), (61, .new 29, 3), (64, .dup, 1), (65, .sipush 200, 3), (68, .invokespecial 31, 3), (71, .putfield 32, 3), (74, .aload_n 0, 1), (75, .new 29, 3), (78, .dup, 1), (79, .sipush 200, 3), (82, .invokespecial 31, 3), (85, .putfield 36, 3), (88, .return_, 1)] : List (Nat × Instr × Nat)).all fun e => decide (decode cX9_init e.1 = .ok e.2)) = true := by decide +kernel
theorem dX9_init_54 : decode cX9_init 54 = .ok (.invokespecial 11, 3) := z_dk tdX9_init_54 0 rfl
theorem dX9_init_57 : decode cX9_init 57 = .ok (.putfield 26, 3) := z_dk tdX9_init_54 1 rfl
theorem dX9_init_60 : decode cX9_init 60 = .ok (.aload_n 0, 1) := z_dk tdX9_init_54 2 rfl
theorem dX9_init_61 : decode cX9_init 61 = .ok (.new 29, 3) := z_dk tdX9_init_54 3 rfl
theorem dX9_init_64 : decode cX9_init 64 = .ok (.dup, 1) := z_dk tdX9_init_54 4 rfl
theorem dX9_init_65 : decode cX9_init 65 = .ok (.sipush 200, 3) := z_dk tdX9_init_54 5 rfl
theorem dX9_init_68 : decode cX9_init 68 = .ok (.invokespecial 31, 3) := z_dk tdX9_init_54 6 rfl
theorem dX9_init_71 : decode cX9_init 71 = .ok (.putfield 32, 3) := z_dk tdX9_init_54 7 rfl
theorem dX9_init_74 : decode cX9_init 74 = .ok (.aload_n 0, 1) := z_dk tdX9_init_54 8 rfl
theorem dX9_init_75 : decode cX9_init 75 = .ok (.new 29, 3) := z_dk tdX9_init_54 9 rfl
theorem dX9_init_78 : decode cX9_init 78 = .ok (.dup, 1) := z_dk tdX9_init_54 10 rfl
theorem dX9_init_79 : decode cX9_init 79 = .ok (.sipush 200, 3) := z_dk tdX9_init_54 11 rfl
theorem dX9_init_82 : decode cX9_init 82 = .ok (.invokespecial 31, 3) := z_dk tdX9_init_54 12 rfl
theorem dX9_init_85 : decode cX9_init 85 = .ok (.putfield 36, 3) := z_dk tdX9_init_54 13 rfl
theorem dX9_init_88 : decode cX9_init 88 = .ok (.return_, 1) := z_dk tdX9_init_54 14 rfl
theorem tdX9_clear_0 : (([(0, .aload_n 0, 1), (1, .iconst 0, 1), (2, .putfield 39, 3), (5, .aload_n 0, 1), (6, .iconst 0, 1), (7, .putfield 43, 3), (10, .aload_n 0, 1), (11, .iconst 0, 1), (12, .putfield 46, 3), (15, .return_, 1)] : List (Nat × Instr × Nat)).all fun e => decide (decode cX9_clear e.1 = .ok e.2)) = true := by decide +kernel
theorem dX9_clear_0 : decode cX9_clear 0 = .ok (.aload_n 0, 1) := z_dk tdX9_clear_0 0 rfl
theorem dX9_clear_1 : decode cX9_clear 1 = .ok (.iconst 0, 1) := z_dk tdX9_clear_0 1 rfl
theorem dX9_clear_2 : decode cX9_clear 2 = .ok (.putfield 39, 3) := z_dk tdX9_clear_0 2 rfl
theorem dX9_clear_5 : decode cX9_clear 5 = .ok (.aload_n 0, 1) := z_dk tdX9_clear_0 3 rfl
theorem dX9_clear_6 : decode cX9_clear 6 = .ok (.iconst 0, 1) := z_dk tdX9_clear_0 4 rfl
theorem dX9_clear_7 : decode cX9_clear 7 = .ok (.putfield 43, 3) := z_dk tdX9_clear_0 5 rfl
theorem dX9_clear_10 : decode cX9_clear 10 = .ok (.aload_n 0, 1) := z_dk tdX9_clear_0 6 rfl
theorem dX9_clear_11 : decode cX9_clear 11 = .ok (.iconst 0, 1) := z_dk tdX9_clear_0 7 rfl
theorem dX9_clear_12 : decode cX9_clear 12 = .ok (.putfield 46, 3) := z_dk tdX9_clear_0 8 rfl
theorem dX9_clear_15 : decode cX9_clear 15 = .ok (.return_, 1) := z_dk tdX9_clear_0 9 rfl
theorem tdX9_copyFrom_0 : (([(0, .aload_n 0, 1), (1, .aload_n 1, 1), (2, .getfield 39, 3), (5, .putfield 39, 3), (8, .aload_n 0, 1), (9, .aload_n 1, 1), (10, .getfield 43, 3), (13, .putfield 43, 3), (16, .aload_n 0, 1), (17, .aload_n 1, 1), (18, .getfield 46, 3), (21, .putfield 46, 3), (24, .aload_n 0, 1), (25, .getfield 14, 3), (28, .aload_n 1, 1), (29, .getfield 14, 3), (32, .aload_n 0, 1), (33, .getfield 39, 3), (36, .invokevirtual 49, 3), (39, .aload_n 0, 1), (40, .getfield 20, 3), (43, .aload_n 1, 1), (44, .getfield 20, 3), (47, .aload_n 0, 1)] : List (Nat × Instr × Nat)).all fun e => decide (decode cX9_copyFrom e.1 = .ok e.2)) = true := by decide +kernel
theorem dX9_copyFrom_0 : decode cX9_copyFrom 0 = .ok (.aload_n 0, 1) := z_dk tdX9_copyFrom_0 0 rfl
theorem dX9_copyFrom_1 : decode cX9_copyFrom 1 = .ok (.aload_n 1, 1) := z_dk tdX9_copyFrom_0 1 rfl
theorem dX9_copyFrom_2 : decode cX9_copyFrom 2 = .ok (.getfield 39, 3) := z_dk tdX9_copyFrom_0 2 rfl
theorem dX9_copyFrom_5 : decode cX9_copyFrom 5 = .ok (.putfield 39, 3) := z_dk tdX9_copyFrom_0 3 rfl
theorem dX9_copyFrom_8 : decode cX9_copyFrom 8 = .ok (.aload_n 0, 1) := z_dk tdX9_copyFrom_0 4 rfl
theorem dX9_copyFrom_9 : decode cX9_copyFrom 9 = .ok (.aload_n 1, 1) := z_dk tdX9_copyFrom_0 5 rfl
theorem dX9_copyFrom_10 : decode cX9_copyFrom 10 = .ok (.getfield 43, 3) := z_dk tdX9_copyFrom_0 6 rfl
theorem dX9_copyFrom_13 : decode cX9_copyFrom 13 = .ok (.putfield 43, 3) := z_dk tdX9_copyFrom_0 7 rfl
theorem dX9_copyFrom_16 : decode cX9_copyFrom 16 = .ok (.aload_n 0, 1) := z_dk tdX9_copyFrom_0 8 rfl
theorem dX9_copyFrom_17 : decode cX9_copyFrom 17 = .ok (.aload_n 1, 1) := z_dk tdX9_copyFrom_0 9 rfl
theorem dX9_copyFrom_18 : decode cX9_copyFrom 18 = .ok (.getfield 46, 3) := z_dk tdX9_copyFrom_0 10 rfl
theorem dX9_copyFrom_21 : decode cX9_copyFrom 21 = .ok (.putfield 46, 3) := z_dk tdX9_copyFrom_0 11 rfl
theorem dX9_copyFrom_24 : decode cX9_copyFrom 24 = .ok (.aload_n 0, 1) := z_dk tdX9_copyFrom_0 12 rfl
theorem dX9_copyFrom_25 : decode cX9_copyFrom 25 = .ok (.getfield 14, 3) := z_dk tdX9_copyFrom_0 13 rfl
theorem dX9_copyFrom_28 : decode cX9_copyFrom 28 = .ok (.aload_n 1, 1) := z_dk tdX9_copyFrom_0 14 rfl
theorem dX9_copyFrom_29 : decode cX9_copyFrom 29 = .ok (.getfield 14, 3) := z_dk tdX9_copyFrom_0 15 rfl
theorem dX9_copyFrom_32 : decode cX9_copyFrom 32 = .ok (.aload_n 0, 1) := z_dk tdX9_copyFrom_0 16 rfl
theorem dX9_copyFrom_33 : decode cX9_copyFrom 33 = .ok (.getfield 39, 3) := z_dk tdX9_copyFrom_0 17 rfl
theorem dX9_copyFrom_36 : decode cX9_copyFrom 36 = .ok (.invokevirtual 49, 3) := z_dk tdX9_copyFrom_0 18 rfl
theorem dX9_copyFrom_39 : decode cX9_copyFrom 39 = .ok (.aload_n 0, 1) := z_dk tdX9_copyFrom_0 19 rfl
theorem dX9_copyFrom_40 : decode cX9_copyFrom 40 = .ok (.getfield 20, 3) := z_dk tdX9_copyFrom_0 20 rfl
theorem dX9_copyFrom_43 : decode cX9_copyFrom 43 = .ok (.aload_n 1, 1) := z_dk tdX9_copyFrom_0 21 rfl
theorem dX9_copyFrom_44 : decode cX9_copyFrom 44 = .ok (.getfield 20, 3) := z_dk tdX9_copyFrom_0 22 rfl
theorem dX9_copyFrom_47 : decode cX9_copyFrom 47 = .ok (.aload_n 0, 1) := z_dk tdX9_copyFrom_0 23 rfl
theorem tdX9_copyFrom_48 : (([(48, .getfield 39, 3), (51, .invokevirtual 49, 3), (54, .aload_n 0, 1), (55, .getfield 23, 3), (58, .aload_n 1, 1), (59, .getfield 23, 3), (62, .aload_n 0, 1), (63, .getfield 39, 3), (66, .invokevirtual 49, 3), (69, .aload_n 0, 1), (70, .getfield 26, 3), (73, .aload_n 1, 1), (74, .getfield 26, 3), (77, .aload_n 0, 1), (78, .getfield 39, 3), (81, .invokevirtual 49, 3), (84, .aload_n 0, 1), (85, .getfield 32, 3), (88, .aload_n 1, 1), (89, .getfield 32, 3), (92, .aload_n 0, 1), (93, .getfield 39, 3), (96, .invokevirtual 53, 3), (99, .aload_n 0, 1)] : List (Nat × Instr × Nat)).all fun e => decide (decode cX9_copyFrom e.1 = .ok e.2)) = true := by decide +kernel
theorem dX9_copyFrom_48 : decode cX9_copyFrom 48 = .ok (.getfield 39, 3) := z_dk tdX9_copyFrom_48 0 rfl
theorem dX9_copyFrom_51 : decode cX9_copyFrom 51 = .ok (.invokevirtual 49, 3) := z_dk tdX9_copyFrom_48 1 rfl
theorem dX9_copyFrom_54 : decode cX9_copyFrom 54 = .ok (.aload_n 0, 1) := z_dk tdX9_copyFrom_48 2 rfl
theorem dX9_copyFrom_55 : decode cX9_copyFrom 55 = .ok (.getfield 23, 3) := z_dk tdX9_copyFrom_48 3 rfl
theorem dX9_copyFrom_58 : decode cX9_copyFrom 58 = .ok (.aload_n 1, 1) := z_dk tdX9_copyFrom_48 4 rfl
theorem dX9_copyFrom_59 : decode cX9_copyFrom 59 = .ok (.getfield 23, 3) := z_dk tdX9_copyFrom_48 5 rfl
theorem dX9_copyFrom_62 : decode cX9_copyFrom 62 = .ok (.aload_n 0, 1) := z_dk tdX9_copyFrom_48 6 rfl
theorem dX9_copyFrom_63 : decode cX9_copyFrom 63 = .ok (.getfield 39, 3) := z_dk tdX9_copyFrom_48 7 rfl
theorem dX9_copyFrom_66 : decode cX9_copyFrom 66 = .ok (.invokevirtual 49, 3) := z_dk tdX9_copyFrom_48 8 rfl
theorem dX9_copyFrom_69 : decode cX9_copyFrom 69 = .ok (.aload_n 0, 1) := z_dk tdX9_copyFrom_48 9 rfl
theorem dX9_copyFrom_70 : decode cX9_copyFrom 70 = .ok (.getfield 26, 3) := z_dk tdX9_copyFrom_48 10 rfl
theorem dX9_copyFrom_73 : decode cX9_copyFrom 73 = .ok (.aload_n 1, 1) := z_dk tdX9_copyFrom_48 11 rfl
theorem dX9_copyFrom_74 : decode cX9_copyFrom 74 = .ok (.getfield 26, 3) := z_dk tdX9_copyFrom_48 12 rfl
theorem dX9_copyFrom_77 : decode cX9_copyFrom 77 = .ok (.aload_n 0, 1) := z_dk tdX9_copyFrom_48 13 rfl
theorem dX9_copyFrom_78 : decode cX9_copyFrom 78 = .ok (.getfield 39, 3) := z_dk tdX9_copyFrom_48 14 rfl
theorem dX9_copyFrom_81 : decode cX9_copyFrom 81 = .ok (.invokevirtual 49, 3) := z_dk tdX9_copyFrom_48 15 rfl
theorem dX9_copyFrom_84 : decode cX9_copyFrom 84 = .ok (.aload_n 0, 1) := z_dk tdX9_copyFrom_48 16 rfl
theorem dX9_copyFrom_85 : decode cX9_copyFrom 85 = .ok (.getfield 32, 3) := z_dk tdX9_copyFrom_48 17 rfl
theorem dX9_copyFrom_88 : decode cX9_copyFrom 88 = .ok (.aload_n 1, 1) := z_dk tdX9_copyFrom_48 18 rfl
theorem dX9_copyFrom_89 : decode cX9_copyFrom 89 = .ok (.getfield 32, 3) := z_dk tdX9_copyFrom_48 19 rfl
theorem dX9_copyFrom_92 : decode cX9_copyFrom 92 = .ok (.aload_n 0, 1) := z_dk tdX9_copyFrom_48 20 rfl
theorem dX9_copyFrom_93 : decode cX9_copyFrom 93 = .ok (.getfield 39, 3) := z_dk tdX9_copyFrom_48 21 rfl
theorem dX9_copyFrom_96 : decode cX9_copyFrom 96 = .ok (.invokevirtual 53, 3) := z_dk tdX9_copyFrom_48 22 rfl
theorem dX9_copyFrom_99 : decode cX9_copyFrom 99 = .ok (.aload_n 0, 1) := z_dk tdX9_copyFrom_48 23 rfl
theorem tdX9_copyFrom_100 : (([(100, .getfield 36, 3), (103, .aload_n 1, 1), (104, .getfield 36, 3), (107, .aload_n 0, 1), (108, .getfield 39, 3), (111, .invokevirtual 53, 3), (114, .return_, 1)] : List (Nat × Instr × Nat)).all fun e => decide (decode cX9_copyFrom e.1 = .ok e.2)) = true := by decide +kernel
theorem dX9_copyFrom_100 : decode cX9_copyFrom 100 = .ok (.getfield 36, 3) := z_dk tdX9_copyFrom_100 0 rfl
theorem dX9_copyFrom_103 : decode cX9_copyFrom 103 = .ok (.aload_n 1, 1) := z_dk tdX9_copyFrom_100 1 rfl
theorem dX9_copyFrom_104 : decode cX9_copyFrom 104 = .ok (.getfield 36, 3) := z_dk tdX9_copyFrom_100 2 rfl
theorem dX9_copyFrom_107 : decode cX9_copyFrom 107 = .ok (.aload_n 0, 1) := z_dk tdX9_copyFrom_100 3 rfl
theorem dX9_copyFrom_108 : decode cX9_copyFrom 108 = .ok (.getfield 39, 3) := z_dk tdX9_copyFrom_100 4 rfl
theorem dX9_copyFrom_111 : decode cX9_copyFrom 111 = .ok (.invokevirtual 53, 3) := z_dk tdX9_copyFrom_100 5 rfl
theorem dX9_copyFrom_114 : decode cX9_copyFrom 114 = .ok (.return_, 1) := z_dk tdX9_copyFrom_100 6 rfl
theorem tdX9_add_0 : (([(0, .aload_n 0, 1), (1, .getfield 14, 3), (4, .aload_n 0, 1), (5, .getfield 39, 3), (8, .iload_n 1, 1), (9, .invokevirtual 56, 3), (12, .aload_n 0, 1), (13, .getfield 20, 3), (16, .aload_n 0, 1), (17, .getfield 39, 3), (20, .iload 4, 2), (22, .invokevirtual 56, 3), (25, .aload_n 0, 1), (26, .getfield 23, 3), (29, .aload_n 0, 1), (30, .getfield 39, 3), (33, .iload_n 2, 1), (34, .invokevirtual 56, 3), (37, .aload_n 0, 1), (38, .getfield 26, 3), (41, .aload_n 0, 1), (42, .getfield 39, 3), (45, .iload_n 3, 1), (46, .invokevirtual 56, 3)] : List (Nat × Instr × Nat)).all fun e => decide (decode cX9_add e.1 = .ok e.2)) = true := by decide +kernel
theorem dX9_add_0 : decode cX9_add 0 = .ok (.aload_n 0, 1) := z_dk tdX9_add_0 0 rfl
theorem dX9_add_1 : decode cX9_add 1 = .ok (.getfield 14, 3) := z_dk tdX9_add_0 1 rfl
theorem dX9_add_4 : decode cX9_add 4 = .ok (.aload_n 0, 1) := z_dk tdX9_add_0 2 rfl
theorem dX9_add_5 : decode cX9_add 5 = .ok (.getfield 39, 3) := z_dk tdX9_add_0 3 rfl
theorem dX9_add_8 : decode cX9_add 8 = .ok (.iload_n 1, 1) := z_dk tdX9_add_0 4 rfl
theorem dX9_add_9 : decode cX9_add 9 = .ok (.invokevirtual 56, 3) := z_dk tdX9_add_0 5 rfl
theorem dX9_add_12 : decode cX9_add 12 = .ok (.aload_n 0, 1) := z_dk tdX9_add_0 6 rfl
theorem dX9_add_13 : decode cX9_add 13 = .ok (.getfield 20, 3) := z_dk tdX9_add_0 7 rfl
theorem dX9_add_16 : decode cX9_add 16 = .ok (.aload_n 0, 1) := z_dk tdX9_add_0 8 rfl
theorem dX9_add_17 : decode cX9_add 17 = .ok (.getfield 39, 3) := z_dk tdX9_add_0 9 rfl
theorem dX9_add_20 : decode cX9_add 20 = .ok (.iload 4, 2) := z_dk tdX9_add_0 10 rfl
theorem dX9_add_22 : decode cX9_add 22 = .ok (.invokevirtual 56, 3) := z_dk tdX9_add_0 11 rfl
theorem dX9_add_25 : decode cX9_add 25 = .ok (.aload_n 0, 1) := z_dk tdX9_add_0 12 rfl
theorem dX9_add_26 : decode cX9_add 26 = .ok (.getfield 23, 3) := z_dk tdX9_add_0 13 rfl
theorem dX9_add_29 : decode cX9_add 29 = .ok (.aload_n 0, 1) := z_dk tdX9_add_0 14 rfl
theorem dX9_add_30 : decode cX9_add 30 = .ok (.getfield 39, 3) := z_dk tdX9_add_0 15 rfl
theorem dX9_add_33 : decode cX9_add 33 = .ok (.iload_n 2, 1) := z_dk tdX9_add_0 16 rfl
theorem dX9_add_34 : decode cX9_add 34 = .ok (.invokevirtual 56, 3) := z_dk tdX9_add_0 17 rfl
theorem dX9_add_37 : decode cX9_add 37 = .ok (.aload_n 0, 1) := z_dk tdX9_add_0 18 rfl
theorem dX9_add_38 : decode cX9_add 38 = .ok (.getfield 26, 3) := z_dk tdX9_add_0 19 rfl
theorem dX9_add_41 : decode cX9_add 41 = .ok (.aload_n 0, 1) := z_dk tdX9_add_0 20 rfl
theorem dX9_add_42 : decode cX9_add 42 = .ok (.getfield 39, 3) := z_dk tdX9_add_0 21 rfl
theorem dX9_add_45 : decode cX9_add 45 = .ok (.iload_n 3, 1) := z_dk tdX9_add_0 22 rfl
theorem dX9_add_46 : decode cX9_add 46 = .ok (.invokevirtual 56, 3) := z_dk tdX9_add_0 23 rfl
theorem tdX9_add_49 : (([(49, .aload_n 0, 1), (50, .getfield 32, 3), (53, .aload_n 0, 1), (54, .getfield 39, 3), (57, .lconst 0, 1), (58, .invokevirtual 60, 3), (61, .aload_n 0, 1), (62, .getfield 36, 3), (65, .aload_n 0, 1), (66, .getfield 39, 3), (69, .lconst 0, 1), (70, .invokevirtual 60, 3), (73, .aload_n 0, 1), (74, .dup, 1), (75, .getfield 39, 3), (78, .iconst 1, 1), (79, .iadd, 1), (80, .putfield 39, 3), (83, .return_, 1)] : List (Nat × Instr × Nat)).all fun e => decide (decode cX9_add e.1 = .ok e.2)) = true := by decide +kernel
theorem dX9_add_49 : decode cX9_add 49 = .ok (.aload_n 0, 1) := z_dk tdX9_add_49 0 rfl
theorem dX9_add_50 : decode cX9_add 50 = .ok (.getfield 32, 3) := z_dk tdX9_add_49 1 rfl
theorem dX9_add_53 : decode cX9_add 53 = .ok (.aload_n 0, 1) := z_dk tdX9_add_49 2 rfl
theorem dX9_add_54 : decode cX9_add 54 = .ok (.getfield 39, 3) := z_dk tdX9_add_49 3 rfl
theorem dX9_add_57 : decode cX9_add 57 = .ok (.lconst 0, 1) := z_dk tdX9_add_49 4 rfl
theorem dX9_add_58 : decode cX9_add 58 = .ok (.invokevirtual 60, 3) := z_dk tdX9_add_49 5 rfl
theorem dX9_add_61 : decode cX9_add 61 = .ok (.aload_n 0, 1) := z_dk tdX9_add_49 6 rfl
theorem dX9_add_62 : decode cX9_add 62 = .ok (.getfield 36, 3) := z_dk tdX9_add_49 7 rfl
theorem dX9_add_65 : decode cX9_add 65 = .ok (.aload_n 0, 1) := z_dk tdX9_add_49 8 rfl
theorem dX9_add_66 : decode cX9_add 66 = .ok (.getfield 39, 3) := z_dk tdX9_add_49 9 rfl
theorem dX9_add_69 : decode cX9_add 69 = .ok (.lconst 0, 1) := z_dk tdX9_add_49 10 rfl
theorem dX9_add_70 : decode cX9_add 70 = .ok (.invokevirtual 60, 3) := z_dk tdX9_add_49 11 rfl
theorem dX9_add_73 : decode cX9_add 73 = .ok (.aload_n 0, 1) := z_dk tdX9_add_49 12 rfl
theorem dX9_add_74 : decode cX9_add 74 = .ok (.dup, 1) := z_dk tdX9_add_49 13 rfl
theorem dX9_add_75 : decode cX9_add 75 = .ok (.getfield 39, 3) := z_dk tdX9_add_49 14 rfl
theorem dX9_add_78 : decode cX9_add 78 = .ok (.iconst 1, 1) := z_dk tdX9_add_49 15 rfl
theorem dX9_add_79 : decode cX9_add 79 = .ok (.iadd, 1) := z_dk tdX9_add_49 16 rfl
theorem dX9_add_80 : decode cX9_add 80 = .ok (.putfield 39, 3) := z_dk tdX9_add_49 17 rfl
theorem dX9_add_83 : decode cX9_add 83 = .ok (.return_, 1) := z_dk tdX9_add_49 18 rfl
theorem tdX9_drop_0 : (([(0, .aload_n 0, 1), (1, .getfield 14, 3), (4, .iload_n 1, 1), (5, .iload_n 2, 1), (6, .aload_n 0, 1), (7, .getfield 39, 3), (10, .invokevirtual 63, 3), (13, .aload_n 0, 1), (14, .getfield 20, 3), (17, .iload_n 1, 1), (18, .iload_n 2, 1), (19, .aload_n 0, 1), (20, .getfield 39, 3), (23, .invokevirtual 63, 3), (26, .aload_n 0, 1), (27, .getfield 23, 3), (30, .iload_n 1, 1), (31, .iload_n 2, 1), (32, .aload_n 0, 1), (33, .getfield 39, 3), (36, .invokevirtual 63, 3), (39, .aload_n 0, 1), (40, .getfield 26, 3), (43, .iload_n 1, 1)] : List (Nat × Instr × Nat)).all fun e => decide (decode cX9_drop e.1 = .ok e.2)) = true := by decide +kernel
theorem dX9_drop_0 : decode cX9_drop 0 = .ok (.aload_n 0, 1) := z_dk tdX9_drop_0 0 rfl
theorem dX9_drop_1 : decode cX9_drop 1 = .ok (.getfield 14, 3) := z_dk tdX9_drop_0 1 rfl
theorem dX9_drop_4 : decode cX9_drop 4 = .ok (.iload_n 1, 1) := z_dk tdX9_drop_0 2 rfl
theorem dX9_drop_5 : decode cX9_drop 5 = .ok (.iload_n 2, 1) := z_dk tdX9_drop_0 3 rfl
theorem dX9_drop_6 : decode cX9_drop 6 = .ok (.aload_n 0, 1) := z_dk tdX9_drop_0 4 rfl
theorem dX9_drop_7 : decode cX9_drop 7 = .ok (.getfield 39, 3) := z_dk tdX9_drop_0 5 rfl
theorem dX9_drop_10 : decode cX9_drop 10 = .ok (.invokevirtual 63, 3) := z_dk tdX9_drop_0 6 rfl
theorem dX9_drop_13 : decode cX9_drop 13 = .ok (.aload_n 0, 1) := z_dk tdX9_drop_0 7 rfl
theorem dX9_drop_14 : decode cX9_drop 14 = .ok (.getfield 20, 3) := z_dk tdX9_drop_0 8 rfl
theorem dX9_drop_17 : decode cX9_drop 17 = .ok (.iload_n 1, 1) := z_dk tdX9_drop_0 9 rfl
theorem dX9_drop_18 : decode cX9_drop 18 = .ok (.iload_n 2, 1) := z_dk tdX9_drop_0 10 rfl
theorem dX9_drop_19 : decode cX9_drop 19 = .ok (.aload_n 0, 1) := z_dk tdX9_drop_0 11 rfl
theorem dX9_drop_20 : decode cX9_drop 20 = .ok (.getfield 39, 3) := z_dk tdX9_drop_0 12 rfl
theorem dX9_drop_23 : decode cX9_drop 23 = .ok (.invokevirtual 63, 3) := z_dk tdX9_drop_0 13 rfl
theorem dX9_drop_26 : decode cX9_drop 26 = .ok (.aload_n 0, 1) := z_dk tdX9_drop_0 14 rfl
theorem dX9_drop_27 : decode cX9_drop 27 = .ok (.getfield 23, 3) := z_dk tdX9_drop_0 15 rfl
theorem dX9_drop_30 : decode cX9_drop 30 = .ok (.iload_n 1, 1) := z_dk tdX9_drop_0 16 rfl
theorem dX9_drop_31 : decode cX9_drop 31 = .ok (.iload_n 2, 1) := z_dk tdX9_drop_0 17 rfl
theorem dX9_drop_32 : decode cX9_drop 32 = .ok (.aload_n 0, 1) := z_dk tdX9_drop_0 18 rfl
theorem dX9_drop_33 : decode cX9_drop 33 = .ok (.getfield 39, 3) := z_dk tdX9_drop_0 19 rfl
theorem dX9_drop_36 : decode cX9_drop 36 = .ok (.invokevirtual 63, 3) := z_dk tdX9_drop_0 20 rfl
theorem dX9_drop_39 : decode cX9_drop 39 = .ok (.aload_n 0, 1) := z_dk tdX9_drop_0 21 rfl
theorem dX9_drop_40 : decode cX9_drop 40 = .ok (.getfield 26, 3) := z_dk tdX9_drop_0 22 rfl
theorem dX9_drop_43 : decode cX9_drop 43 = .ok (.iload_n 1, 1) := z_dk tdX9_drop_0 23 rfl
theorem tdX9_drop_44 : (([(44, .iload_n 2, 1), (45, .aload_n 0, 1), (46, .getfield 39, 3), (49, .invokevirtual 63, 3), (52, .aload_n 0, 1), (53, .getfield 32, 3), (56, .iload_n 1, 1), (57, .iload_n 2, 1), (58, .aload_n 0, 1), (59, .getfield 39, 3), (62, .invokevirtual 67, 3), (65, .aload_n 0, 1), (66, .getfield 36, 3), (69, .iload_n 1, 1), (70, .iload_n 2, 1), (71, .aload_n 0, 1), (72, .getfield 39, 3), (75, .invokevirtual 67, 3), (78, .aload_n 0, 1), (79, .dup, 1), (80, .getfield 39, 3), (83, .iload_n 2, 1), (84, .iload_n 1, 1), (85, .isub, 1)] : List (Nat × Instr × Nat)).all fun e => decide (decode cX9_drop e.1 = .ok e.2)) = true := by decide +kernel
theorem dX9_drop_44 : decode cX9_drop 44 = .ok (.iload_n 2, 1) := z_dk tdX9_drop_44 0 rfl
theorem dX9_drop_45 : decode cX9_drop 45 = .ok (.aload_n 0, 1) := z_dk tdX9_drop_44 1 rfl
theorem dX9_drop_46 : decode cX9_drop 46 = .ok (.getfield 39, 3) := z_dk tdX9_drop_44 2 rfl
theorem dX9_drop_49 : decode cX9_drop 49 = .ok (.invokevirtual 63, 3) := z_dk tdX9_drop_44 3 rfl
theorem dX9_drop_52 : decode cX9_drop 52 = .ok (.aload_n 0, 1) := z_dk tdX9_drop_44 4 rfl
theorem dX9_drop_53 : decode cX9_drop 53 = .ok (.getfield 32, 3) := z_dk tdX9_drop_44 5 rfl
theorem dX9_drop_56 : decode cX9_drop 56 = .ok (.iload_n 1, 1) := z_dk tdX9_drop_44 6 rfl
theorem dX9_drop_57 : decode cX9_drop 57 = .ok (.iload_n 2, 1) := z_dk tdX9_drop_44 7 rfl
theorem dX9_drop_58 : decode cX9_drop 58 = .ok (.aload_n 0, 1) := z_dk tdX9_drop_44 8 rfl
theorem dX9_drop_59 : decode cX9_drop 59 = .ok (.getfield 39, 3) := z_dk tdX9_drop_44 9 rfl
theorem dX9_drop_62 : decode cX9_drop 62 = .ok (.invokevirtual 67, 3) := z_dk tdX9_drop_44 10 rfl
theorem dX9_drop_65 : decode cX9_drop 65 = .ok (.aload_n 0, 1) := z_dk tdX9_drop_44 11 rfl
theorem dX9_drop_66 : decode cX9_drop 66 = .ok (.getfield 36, 3) := z_dk tdX9_drop_44 12 rfl
theorem dX9_drop_69 : decode cX9_drop 69 = .ok (.iload_n 1, 1) := z_dk tdX9_drop_44 13 rfl
theorem dX9_drop_70 : decode cX9_drop 70 = .ok (.iload_n 2, 1) := z_dk tdX9_drop_44 14 rfl
theorem dX9_drop_71 : decode cX9_drop 71 = .ok (.aload_n 0, 1) := z_dk tdX9_drop_44 15 rfl
theorem dX9_drop_72 : decode cX9_drop 72 = .ok (.getfield 39, 3) := z_dk tdX9_drop_44 16 rfl
theorem dX9_drop_75 : decode cX9_drop 75 = .ok (.invokevirtual 67, 3) := z_dk tdX9_drop_44 17 rfl
theorem dX9_drop_78 : decode cX9_drop 78 = .ok (.aload_n 0, 1) := z_dk tdX9_drop_44 18 rfl
theorem dX9_drop_79 : decode cX9_drop 79 = .ok (.dup, 1) := z_dk tdX9_drop_44 19 rfl
theorem dX9_drop_80 : decode cX9_drop 80 = .ok (.getfield 39, 3) := z_dk tdX9_drop_44 20 rfl
theorem dX9_drop_83 : decode cX9_drop 83 = .ok (.iload_n 2, 1) := z_dk tdX9_drop_44 21 rfl
theorem dX9_drop_84 : decode cX9_drop 84 = .ok (.iload_n 1, 1) := z_dk tdX9_drop_44 22 rfl
theorem dX9_drop_85 : decode cX9_drop 85 = .ok (.isub, 1) := z_dk tdX9_drop_44 23 rfl
theorem tdX9_drop_86 : (([(86, .isub, 1), (87, .putfield 39, 3), (90, .aload_n 0, 1), (91, .invokevirtual 68, 3), (94, .return_, 1)] : List (Nat × Instr × Nat)).all fun e => decide (decode cX9_drop e.1 = .ok e.2)) = true := by decide +kernel
theorem dX9_drop_86 : decode cX9_drop 86 = .ok (.isub, 1) := z_dk tdX9_drop_86 0 rfl
theorem dX9_drop_87 : decode cX9_drop 87 = .ok (.putfield 39, 3) := z_dk tdX9_drop_86 1 rfl
theorem dX9_drop_90 : decode cX9_drop 90 = .ok (.aload_n 0, 1) := z_dk tdX9_drop_86 2 rfl
theorem dX9_drop_91 : decode cX9_drop 91 = .ok (.invokevirtual 68, 3) := z_dk tdX9_drop_86 3 rfl
theorem dX9_drop_94 : decode cX9_drop 94 = .ok (.return_, 1) := z_dk tdX9_drop_86 4 rfl
theorem tdX9_renumber_0 : (([(0, .iconst (-1), 1), (1, .istore_n 1, 1), (2, .aload_n 0, 1), (3, .iconst 0, 1), (4, .putfield 43, 3), (7, .iconst 0, 1), (8, .istore_n 2, 1), (9, .iload_n 2, 1), (10, .aload_n 0, 1), (11, .getfield 39, 3), (14, .if_icmp .ge 58, 3), (17, .aload_n 0, 1), (18, .getfield 23, 3), (21, .iload_n 2, 1), (22, .invokevirtual 71, 3), (25, .istore_n 3, 1), (26, .iload_n 3, 1), (27, .iconst (-1), 1), (28, .if_icmp .eq 36, 3), (31, .aload_n 0, 1), (32, .dup, 1), (33, .getfield 43, 3), (36, .iload_n 3, 1), (37, .iload_n 1, 1)] : List (Nat × Instr × Nat)).all fun e => decide (decode cX9_renumber e.1 = .ok e.2)) = true := by decide +kernel
theorem dX9_renumber_0 : decode cX9_renumber 0 = .ok (.iconst (-1), 1) := z_dk tdX9_renumber_0 0 rfl
theorem dX9_renumber_1 : decode cX9_renumber 1 = .ok (.istore_n 1, 1) := z_dk tdX9_renumber_0 1 rfl
theorem dX9_renumber_2 : decode cX9_renumber 2 = .ok (.aload_n 0, 1) := z_dk tdX9_renumber_0 2 rfl
theorem dX9_renumber_3 : decode cX9_renumber 3 = .ok (.iconst 0, 1) := z_dk tdX9_renumber_0 3 rfl
theorem dX9_renumber_4 : decode cX9_renumber 4 = .ok (.putfield 43, 3) := z_dk tdX9_renumber_0 4 rfl
theorem dX9_renumber_7 : decode cX9_renumber 7 = .ok (.iconst 0, 1) := z_dk tdX9_renumber_0 5 rfl
theorem dX9_renumber_8 : decode cX9_renumber 8 = .ok (.istore_n 2, 1) := z_dk tdX9_renumber_0 6 rfl
theorem dX9_renumber_9 : decode cX9_renumber 9 = .ok (.iload_n 2, 1) := z_dk tdX9_renumber_0 7 rfl
theorem dX9_renumber_10 : decode cX9_renumber 10 = .ok (.aload_n 0, 1) := z_dk tdX9_renumber_0 8 rfl
theorem dX9_renumber_11 : decode cX9_renumber 11 = .ok (.getfield 39, 3) := z_dk tdX9_renumber_0 9 rfl
theorem dX9_renumber_14 : decode cX9_renumber 14 = .ok (.if_icmp .ge 58, 3) := z_dk tdX9_renumber_0 10 rfl
theorem dX9_renumber_17 : decode cX9_renumber 17 = .ok (.aload_n 0, 1) := z_dk tdX9_renumber_0 11 rfl
theorem dX9_renumber_18 : decode cX9_renumber 18 = .ok (.getfield 23, 3) := z_dk tdX9_renumber_0 12 rfl
theorem dX9_renumber_21 : decode cX9_renumber 21 = .ok (.iload_n 2, 1) := z_dk tdX9_renumber_0 13 rfl
theorem dX9_renumber_22 : decode cX9_renumber 22 = .ok (.invokevirtual 71, 3) := z_dk tdX9_renumber_0 14 rfl
theorem dX9_renumber_25 : decode cX9_renumber 25 = .ok (.istore_n 3, 1) := z_dk tdX9_renumber_0 15 rfl
theorem dX9_renumber_26 : decode cX9_renumber 26 = .ok (.iload_n 3, 1) := z_dk tdX9_renumber_0 16 rfl
theorem dX9_renumber_27 : decode cX9_renumber 27 = .ok (.iconst (-1), 1) := z_dk tdX9_renumber_0 17 rfl
theorem dX9_renumber_28 : decode cX9_renumber 28 = .ok (.if_icmp .eq 36, 3) := z_dk tdX9_renumber_0 18 rfl
theorem dX9_renumber_31 : decode cX9_renumber 31 = .ok (.aload_n 0, 1) := z_dk tdX9_renumber_0 19 rfl
theorem dX9_renumber_32 : decode cX9_renumber 32 = .ok (.dup, 1) := z_dk tdX9_renumber_0 20 rfl
theorem dX9_renumber_33 : decode cX9_renumber 33 = .ok (.getfield 43, 3) := z_dk tdX9_renumber_0 21 rfl
theorem dX9_renumber_36 : decode cX9_renumber 36 = .ok (.iload_n 3, 1) := z_dk tdX9_renumber_0 22 rfl
theorem dX9_renumber_37 : decode cX9_renumber 37 = .ok (.iload_n 1, 1) := z_dk tdX9_renumber_0 23 rfl
theorem tdX9_renumber_38 : (([(38, .if_icmp .ne 7, 3), (41, .iconst 0, 1), (42, .goto 4, 3), (45, .iconst 1, 1), (46, .iadd, 1), (47, .putfield 43, 3), (50, .aload_n 0, 1), (51, .getfield 23, 3), (54, .iload_n 2, 1), (55, .aload_n 0, 1), (56, .getfield 43, 3), (59, .iconst 1, 1), (60, .isub, 1), (61, .invokevirtual 56, 3), (64, .iload_n 3, 1), (65, .istore_n 1, 1), (66, .iinc 2 1, 3), (69, .goto (-60), 3), (72, .return_, 1)] : List (Nat × Instr × Nat)).all fun e => decide (decode cX9_renumber e.1 = .ok e.2)) = true := by decide +kernel
theorem dX9_renumber_38 : decode cX9_renumber 38 = .ok (.if_icmp .ne 7, 3) := z_dk tdX9_renumber_38 0 rfl
theorem dX9_renumber_41 : decode cX9_renumber 41 = .ok (.iconst 0, 1) := z_dk tdX9_renumber_38 1 rfl
theorem dX9_renumber_42 : decode cX9_renumber 42 = .ok (.goto 4, 3) := z_dk tdX9_renumber_38 2 rfl
theorem dX9_renumber_45 : decode cX9_renumber 45 = .ok (.iconst 1, 1) := z_dk tdX9_renumber_38 3 rfl
theorem dX9_renumber_46 : decode cX9_renumber 46 = .ok (.iadd, 1) := z_dk tdX9_renumber_38 4 rfl
theorem dX9_renumber_47 : decode cX9_renumber 47 = .ok (.putfield 43, 3) := z_dk tdX9_renumber_38 5 rfl
theorem dX9_renumber_50 : decode cX9_renumber 50 = .ok (.aload_n 0, 1) := z_dk tdX9_renumber_38 6 rfl
theorem dX9_renumber_51 : decode cX9_renumber 51 = .ok (.getfield 23, 3) := z_dk tdX9_renumber_38 7 rfl
theorem dX9_renumber_54 : decode cX9_renumber 54 = .ok (.iload_n 2, 1) := z_dk tdX9_renumber_38 8 rfl
theorem dX9_renumber_55 : decode cX9_renumber 55 = .ok (.aload_n 0, 1) := z_dk tdX9_renumber_38 9 rfl
theorem dX9_renumber_56 : decode cX9_renumber 56 = .ok (.getfield 43, 3) := z_dk tdX9_renumber_38 10 rfl
theorem dX9_renumber_59 : decode cX9_renumber 59 = .ok (.iconst 1, 1) := z_dk tdX9_renumber_38 11 rfl
theorem dX9_renumber_60 : decode cX9_renumber 60 = .ok (.isub, 1) := z_dk tdX9_renumber_38 12 rfl
theorem dX9_renumber_61 : decode cX9_renumber 61 = .ok (.invokevirtual 56, 3) := z_dk tdX9_renumber_38 13 rfl
theorem dX9_renumber_64 : decode cX9_renumber 64 = .ok (.iload_n 3, 1) := z_dk tdX9_renumber_38 14 rfl
theorem dX9_renumber_65 : decode cX9_renumber 65 = .ok (.istore_n 1, 1) := z_dk tdX9_renumber_38 15 rfl
theorem dX9_renumber_66 : decode cX9_renumber 66 = .ok (.iinc 2 1, 3) := z_dk tdX9_renumber_38 16 rfl
theorem dX9_renumber_69 : decode cX9_renumber 69 = .ok (.goto (-60), 3) := z_dk tdX9_renumber_38 17 rfl
theorem dX9_renumber_72 : decode cX9_renumber 72 = .ok (.return_, 1) := z_dk tdX9_renumber_38 18 rfl
theorem tdX9_readings_0 : (([(0, .iload_n 1, 1), (1, .ifCond .ne 10, 3), (4, .aload_n 0, 1), (5, .getfield 32, 3), (8, .goto 7, 3), (11, .aload_n 0, 1), (12, .getfield 36, 3), (15, .areturn, 1)] : List (Nat × Instr × Nat)).all fun e => decide (decode cX9_readings e.1 = .ok e.2)) = true := by decide +kernel
theorem dX9_readings_0 : decode cX9_readings 0 = .ok (.iload_n 1, 1) := z_dk tdX9_readings_0 0 rfl
theorem dX9_readings_1 : decode cX9_readings 1 = .ok (.ifCond .ne 10, 3) := z_dk tdX9_readings_0 1 rfl
theorem dX9_readings_4 : decode cX9_readings 4 = .ok (.aload_n 0, 1) := z_dk tdX9_readings_0 2 rfl
theorem dX9_readings_5 : decode cX9_readings 5 = .ok (.getfield 32, 3) := z_dk tdX9_readings_0 3 rfl
theorem dX9_readings_8 : decode cX9_readings 8 = .ok (.goto 7, 3) := z_dk tdX9_readings_0 4 rfl
theorem dX9_readings_11 : decode cX9_readings 11 = .ok (.aload_n 0, 1) := z_dk tdX9_readings_0 5 rfl
theorem dX9_readings_12 : decode cX9_readings 12 = .ok (.getfield 36, 3) := z_dk tdX9_readings_0 6 rfl
theorem dX9_readings_15 : decode cX9_readings 15 = .ok (.areturn, 1) := z_dk tdX9_readings_0 7 rfl
theorem tdX9_addLetter_0 : (([(0, .aload_n 0, 1), (1, .iload_n 1, 1), (2, .invokevirtual 75, 3), (5, .astore 4, 2), (7, .aload 4, 2), (9, .iload_n 2, 1), (10, .invokevirtual 79, 3), (13, .lstore 5, 2), (15, .lload 5, 2), (17, .ldc2_w 82, 3), (20, .land, 1), (21, .l2i, 1), (22, .istore 7, 2), (24, .aload 4, 2), (26, .iload_n 2, 1), (27, .lload 5, 2), (29, .lconst 1, 1), (30, .ladd, 1), (31, .iload_n 3, 1), (32, .bipush 97, 2), (34, .isub, 1), (35, .i2l, 1), (36, .iconst 4, 1), (37, .iconst 5, 1)] : List (Nat × Instr × Nat)).all fun e => decide (decode cX9_addLetter e.1 = .ok e.2)) = true := by decide +kernel
theorem dX9_addLetter_0 : decode cX9_addLetter 0 = .ok (.aload_n 0, 1) := z_dk tdX9_addLetter_0 0 rfl
theorem dX9_addLetter_1 : decode cX9_addLetter 1 = .ok (.iload_n 1, 1) := z_dk tdX9_addLetter_0 1 rfl
theorem dX9_addLetter_2 : decode cX9_addLetter 2 = .ok (.invokevirtual 75, 3) := z_dk tdX9_addLetter_0 2 rfl
theorem dX9_addLetter_5 : decode cX9_addLetter 5 = .ok (.astore 4, 2) := z_dk tdX9_addLetter_0 3 rfl
theorem dX9_addLetter_7 : decode cX9_addLetter 7 = .ok (.aload 4, 2) := z_dk tdX9_addLetter_0 4 rfl
theorem dX9_addLetter_9 : decode cX9_addLetter 9 = .ok (.iload_n 2, 1) := z_dk tdX9_addLetter_0 5 rfl
theorem dX9_addLetter_10 : decode cX9_addLetter 10 = .ok (.invokevirtual 79, 3) := z_dk tdX9_addLetter_0 6 rfl
theorem dX9_addLetter_13 : decode cX9_addLetter 13 = .ok (.lstore 5, 2) := z_dk tdX9_addLetter_0 7 rfl
theorem dX9_addLetter_15 : decode cX9_addLetter 15 = .ok (.lload 5, 2) := z_dk tdX9_addLetter_0 8 rfl
theorem dX9_addLetter_17 : decode cX9_addLetter 17 = .ok (.ldc2_w 82, 3) := z_dk tdX9_addLetter_0 9 rfl
theorem dX9_addLetter_20 : decode cX9_addLetter 20 = .ok (.land, 1) := z_dk tdX9_addLetter_0 10 rfl
theorem dX9_addLetter_21 : decode cX9_addLetter 21 = .ok (.l2i, 1) := z_dk tdX9_addLetter_0 11 rfl
theorem dX9_addLetter_22 : decode cX9_addLetter 22 = .ok (.istore 7, 2) := z_dk tdX9_addLetter_0 12 rfl
theorem dX9_addLetter_24 : decode cX9_addLetter 24 = .ok (.aload 4, 2) := z_dk tdX9_addLetter_0 13 rfl
theorem dX9_addLetter_26 : decode cX9_addLetter 26 = .ok (.iload_n 2, 1) := z_dk tdX9_addLetter_0 14 rfl
theorem dX9_addLetter_27 : decode cX9_addLetter 27 = .ok (.lload 5, 2) := z_dk tdX9_addLetter_0 15 rfl
theorem dX9_addLetter_29 : decode cX9_addLetter 29 = .ok (.lconst 1, 1) := z_dk tdX9_addLetter_0 16 rfl
theorem dX9_addLetter_30 : decode cX9_addLetter 30 = .ok (.ladd, 1) := z_dk tdX9_addLetter_0 17 rfl
theorem dX9_addLetter_31 : decode cX9_addLetter 31 = .ok (.iload_n 3, 1) := z_dk tdX9_addLetter_0 18 rfl
theorem dX9_addLetter_32 : decode cX9_addLetter 32 = .ok (.bipush 97, 2) := z_dk tdX9_addLetter_0 19 rfl
theorem dX9_addLetter_34 : decode cX9_addLetter 34 = .ok (.isub, 1) := z_dk tdX9_addLetter_0 20 rfl
theorem dX9_addLetter_35 : decode cX9_addLetter 35 = .ok (.i2l, 1) := z_dk tdX9_addLetter_0 21 rfl
theorem dX9_addLetter_36 : decode cX9_addLetter 36 = .ok (.iconst 4, 1) := z_dk tdX9_addLetter_0 22 rfl
theorem dX9_addLetter_37 : decode cX9_addLetter 37 = .ok (.iconst 5, 1) := z_dk tdX9_addLetter_0 23 rfl
theorem tdX9_addLetter_38 : (([(38, .iload 7, 2), (40, .imul, 1), (41, .iadd, 1), (42, .lshl, 1), (43, .ladd, 1), (44, .invokevirtual 60, 3), (47, .return_, 1)] : List (Nat × Instr × Nat)).all fun e => decide (decode cX9_addLetter e.1 = .ok e.2)) = true := by decide +kernel
theorem dX9_addLetter_38 : decode cX9_addLetter 38 = .ok (.iload 7, 2) := z_dk tdX9_addLetter_38 0 rfl
theorem dX9_addLetter_40 : decode cX9_addLetter 40 = .ok (.imul, 1) := z_dk tdX9_addLetter_38 1 rfl
theorem dX9_addLetter_41 : decode cX9_addLetter 41 = .ok (.iadd, 1) := z_dk tdX9_addLetter_38 2 rfl
theorem dX9_addLetter_42 : decode cX9_addLetter 42 = .ok (.lshl, 1) := z_dk tdX9_addLetter_38 3 rfl
theorem dX9_addLetter_43 : decode cX9_addLetter 43 = .ok (.ladd, 1) := z_dk tdX9_addLetter_38 4 rfl
theorem dX9_addLetter_44 : decode cX9_addLetter 44 = .ok (.invokevirtual 60, 3) := z_dk tdX9_addLetter_38 5 rfl
theorem dX9_addLetter_47 : decode cX9_addLetter 47 = .ok (.return_, 1) := z_dk tdX9_addLetter_38 6 rfl
theorem tdX9_letterCount_0 : (([(0, .aload_n 0, 1), (1, .iload_n 1, 1), (2, .invokevirtual 75, 3), (5, .iload_n 2, 1), (6, .invokevirtual 79, 3), (9, .ldc2_w 82, 3), (12, .land, 1), (13, .l2i, 1), (14, .ireturn, 1)] : List (Nat × Instr × Nat)).all fun e => decide (decode cX9_letterCount e.1 = .ok e.2)) = true := by decide +kernel
theorem dX9_letterCount_0 : decode cX9_letterCount 0 = .ok (.aload_n 0, 1) := z_dk tdX9_letterCount_0 0 rfl
theorem dX9_letterCount_1 : decode cX9_letterCount 1 = .ok (.iload_n 1, 1) := z_dk tdX9_letterCount_0 1 rfl
theorem dX9_letterCount_2 : decode cX9_letterCount 2 = .ok (.invokevirtual 75, 3) := z_dk tdX9_letterCount_0 2 rfl
theorem dX9_letterCount_5 : decode cX9_letterCount 5 = .ok (.iload_n 2, 1) := z_dk tdX9_letterCount_0 3 rfl
theorem dX9_letterCount_6 : decode cX9_letterCount 6 = .ok (.invokevirtual 79, 3) := z_dk tdX9_letterCount_0 4 rfl
theorem dX9_letterCount_9 : decode cX9_letterCount 9 = .ok (.ldc2_w 82, 3) := z_dk tdX9_letterCount_0 5 rfl
theorem dX9_letterCount_12 : decode cX9_letterCount 12 = .ok (.land, 1) := z_dk tdX9_letterCount_0 6 rfl
theorem dX9_letterCount_13 : decode cX9_letterCount 13 = .ok (.l2i, 1) := z_dk tdX9_letterCount_0 7 rfl
theorem dX9_letterCount_14 : decode cX9_letterCount 14 = .ok (.ireturn, 1) := z_dk tdX9_letterCount_0 8 rfl
theorem tdX9_letterCode_0 : (([(0, .bipush 97, 2), (2, .aload_n 0, 1), (3, .iload_n 1, 1), (4, .invokevirtual 75, 3), (7, .iload_n 2, 1), (8, .invokevirtual 79, 3), (11, .iconst 4, 1), (12, .iconst 5, 1), (13, .iload_n 3, 1), (14, .imul, 1), (15, .iadd, 1), (16, .lshr, 1), (17, .ldc2_w 84, 3), (20, .land, 1), (21, .l2i, 1), (22, .iadd, 1), (23, .ireturn, 1)] : List (Nat × Instr × Nat)).all fun e => decide (decode cX9_letterCode e.1 = .ok e.2)) = true := by decide +kernel
theorem dX9_letterCode_0 : decode cX9_letterCode 0 = .ok (.bipush 97, 2) := z_dk tdX9_letterCode_0 0 rfl
theorem dX9_letterCode_2 : decode cX9_letterCode 2 = .ok (.aload_n 0, 1) := z_dk tdX9_letterCode_0 1 rfl
theorem dX9_letterCode_3 : decode cX9_letterCode 3 = .ok (.iload_n 1, 1) := z_dk tdX9_letterCode_0 2 rfl
theorem dX9_letterCode_4 : decode cX9_letterCode 4 = .ok (.invokevirtual 75, 3) := z_dk tdX9_letterCode_0 3 rfl
theorem dX9_letterCode_7 : decode cX9_letterCode 7 = .ok (.iload_n 2, 1) := z_dk tdX9_letterCode_0 4 rfl
theorem dX9_letterCode_8 : decode cX9_letterCode 8 = .ok (.invokevirtual 79, 3) := z_dk tdX9_letterCode_0 5 rfl
theorem dX9_letterCode_11 : decode cX9_letterCode 11 = .ok (.iconst 4, 1) := z_dk tdX9_letterCode_0 6 rfl
theorem dX9_letterCode_12 : decode cX9_letterCode 12 = .ok (.iconst 5, 1) := z_dk tdX9_letterCode_0 7 rfl
theorem dX9_letterCode_13 : decode cX9_letterCode 13 = .ok (.iload_n 3, 1) := z_dk tdX9_letterCode_0 8 rfl
theorem dX9_letterCode_14 : decode cX9_letterCode 14 = .ok (.imul, 1) := z_dk tdX9_letterCode_0 9 rfl
theorem dX9_letterCode_15 : decode cX9_letterCode 15 = .ok (.iadd, 1) := z_dk tdX9_letterCode_0 10 rfl
theorem dX9_letterCode_16 : decode cX9_letterCode 16 = .ok (.lshr, 1) := z_dk tdX9_letterCode_0 11 rfl
theorem dX9_letterCode_17 : decode cX9_letterCode 17 = .ok (.ldc2_w 84, 3) := z_dk tdX9_letterCode_0 12 rfl
theorem dX9_letterCode_20 : decode cX9_letterCode 20 = .ok (.land, 1) := z_dk tdX9_letterCode_0 13 rfl
theorem dX9_letterCode_21 : decode cX9_letterCode 21 = .ok (.l2i, 1) := z_dk tdX9_letterCode_0 14 rfl
theorem dX9_letterCode_22 : decode cX9_letterCode 22 = .ok (.iadd, 1) := z_dk tdX9_letterCode_0 15 rfl
theorem dX9_letterCode_23 : decode cX9_letterCode 23 = .ok (.ireturn, 1) := z_dk tdX9_letterCode_0 16 rfl
theorem tdX10_init_0 : (([(0, .aload_n 0, 1), (1, .invokespecial 3, 3), (4, .aload_n 0, 1), (5, .new 9, 3), (8, .dup, 1), (9, .sipush 200, 3), (12, .invokespecial 11, 3), (15, .putfield 14, 3), (18, .aload_n 0, 1), (19, .new 9, 3), (22, .dup, 1), (23, .sipush 200, 3), (26, .invokespecial 11, 3), (29, .putfield 20, 3), (32, .aload_n 0, 1), (33, .new 9, 3), (36, .dup, 1), (37, .sipush 200, 3), (40, .invokespecial 11, 3), (43, .putfield 23, 3), (46, .aload_n 0, 1), (47, .new 9, 3), (50, .dup, 1), (51, .sipush 200, 3)] : List (Nat × Instr × Nat)).all fun e => decide (decode cX10_init e.1 = .ok e.2)) = true := by decide +kernel
theorem dX10_init_0 : decode cX10_init 0 = .ok (.aload_n 0, 1) := z_dk tdX10_init_0 0 rfl
theorem dX10_init_1 : decode cX10_init 1 = .ok (.invokespecial 3, 3) := z_dk tdX10_init_0 1 rfl
theorem dX10_init_4 : decode cX10_init 4 = .ok (.aload_n 0, 1) := z_dk tdX10_init_0 2 rfl
theorem dX10_init_5 : decode cX10_init 5 = .ok (.new 9, 3) := z_dk tdX10_init_0 3 rfl
theorem dX10_init_8 : decode cX10_init 8 = .ok (.dup, 1) := z_dk tdX10_init_0 4 rfl
theorem dX10_init_9 : decode cX10_init 9 = .ok (.sipush 200, 3) := z_dk tdX10_init_0 5 rfl
theorem dX10_init_12 : decode cX10_init 12 = .ok (.invokespecial 11, 3) := z_dk tdX10_init_0 6 rfl
theorem dX10_init_15 : decode cX10_init 15 = .ok (.putfield 14, 3) := z_dk tdX10_init_0 7 rfl
theorem dX10_init_18 : decode cX10_init 18 = .ok (.aload_n 0, 1) := z_dk tdX10_init_0 8 rfl
theorem dX10_init_19 : decode cX10_init 19 = .ok (.new 9, 3) := z_dk tdX10_init_0 9 rfl
theorem dX10_init_22 : decode cX10_init 22 = .ok (.dup, 1) := z_dk tdX10_init_0 10 rfl
theorem dX10_init_23 : decode cX10_init 23 = .ok (.sipush 200, 3) := z_dk tdX10_init_0 11 rfl
theorem dX10_init_26 : decode cX10_init 26 = .ok (.invokespecial 11, 3) := z_dk tdX10_init_0 12 rfl
theorem dX10_init_29 : decode cX10_init 29 = .ok (.putfield 20, 3) := z_dk tdX10_init_0 13 rfl
theorem dX10_init_32 : decode cX10_init 32 = .ok (.aload_n 0, 1) := z_dk tdX10_init_0 14 rfl
theorem dX10_init_33 : decode cX10_init 33 = .ok (.new 9, 3) := z_dk tdX10_init_0 15 rfl
theorem dX10_init_36 : decode cX10_init 36 = .ok (.dup, 1) := z_dk tdX10_init_0 16 rfl
theorem dX10_init_37 : decode cX10_init 37 = .ok (.sipush 200, 3) := z_dk tdX10_init_0 17 rfl
theorem dX10_init_40 : decode cX10_init 40 = .ok (.invokespecial 11, 3) := z_dk tdX10_init_0 18 rfl
theorem dX10_init_43 : decode cX10_init 43 = .ok (.putfield 23, 3) := z_dk tdX10_init_0 19 rfl
theorem dX10_init_46 : decode cX10_init 46 = .ok (.aload_n 0, 1) := z_dk tdX10_init_0 20 rfl
theorem dX10_init_47 : decode cX10_init 47 = .ok (.new 9, 3) := z_dk tdX10_init_0 21 rfl
theorem dX10_init_50 : decode cX10_init 50 = .ok (.dup, 1) := z_dk tdX10_init_0 22 rfl
theorem dX10_init_51 : decode cX10_init 51 = .ok (.sipush 200, 3) := z_dk tdX10_init_0 23 rfl
theorem tdX10_init_54 : (([(54, .invokespecial 11, 3), (57, .putfield 26, 3), (60, .aload_n 0, 1), (61, .new 9, 3), (64, .dup, 1), (65, .sipush 200, 3), (68, .invokespecial 11, 3), (71, .putfield 29, 3), (74, .aload_n 0, 1), (75, .new 9, 3), (78, .dup, 1), (79, .sipush 200, 3), (82, .invokespecial 11, 3), (85, .putfield 32, 3), (88, .aload_n 0, 1), (89, .new 9, 3), (92, .dup, 1), (93, .sipush 200, 3), (96, .invokespecial 11, 3), (99, .putfield 35, 3), (102, .aload_n 0, 1), (103, .new 9, 3), (106, .dup, 1), (107, .sipush 200, 3)] : List (Nat × Instr × Nat)).all fun e => decide (decode cX10_init e.1 = .ok e.2)) = true := by decide +kernel
theorem dX10_init_54 : decode cX10_init 54 = .ok (.invokespecial 11, 3) := z_dk tdX10_init_54 0 rfl
theorem dX10_init_57 : decode cX10_init 57 = .ok (.putfield 26, 3) := z_dk tdX10_init_54 1 rfl
theorem dX10_init_60 : decode cX10_init 60 = .ok (.aload_n 0, 1) := z_dk tdX10_init_54 2 rfl
theorem dX10_init_61 : decode cX10_init 61 = .ok (.new 9, 3) := z_dk tdX10_init_54 3 rfl
theorem dX10_init_64 : decode cX10_init 64 = .ok (.dup, 1) := z_dk tdX10_init_54 4 rfl
theorem dX10_init_65 : decode cX10_init 65 = .ok (.sipush 200, 3) := z_dk tdX10_init_54 5 rfl
theorem dX10_init_68 : decode cX10_init 68 = .ok (.invokespecial 11, 3) := z_dk tdX10_init_54 6 rfl
theorem dX10_init_71 : decode cX10_init 71 = .ok (.putfield 29, 3) := z_dk tdX10_init_54 7 rfl
theorem dX10_init_74 : decode cX10_init 74 = .ok (.aload_n 0, 1) := z_dk tdX10_init_54 8 rfl
theorem dX10_init_75 : decode cX10_init 75 = .ok (.new 9, 3) := z_dk tdX10_init_54 9 rfl
theorem dX10_init_78 : decode cX10_init 78 = .ok (.dup, 1) := z_dk tdX10_init_54 10 rfl
theorem dX10_init_79 : decode cX10_init 79 = .ok (.sipush 200, 3) := z_dk tdX10_init_54 11 rfl
theorem dX10_init_82 : decode cX10_init 82 = .ok (.invokespecial 11, 3) := z_dk tdX10_init_54 12 rfl
theorem dX10_init_85 : decode cX10_init 85 = .ok (.putfield 32, 3) := z_dk tdX10_init_54 13 rfl
theorem dX10_init_88 : decode cX10_init 88 = .ok (.aload_n 0, 1) := z_dk tdX10_init_54 14 rfl
theorem dX10_init_89 : decode cX10_init 89 = .ok (.new 9, 3) := z_dk tdX10_init_54 15 rfl
theorem dX10_init_92 : decode cX10_init 92 = .ok (.dup, 1) := z_dk tdX10_init_54 16 rfl
theorem dX10_init_93 : decode cX10_init 93 = .ok (.sipush 200, 3) := z_dk tdX10_init_54 17 rfl
theorem dX10_init_96 : decode cX10_init 96 = .ok (.invokespecial 11, 3) := z_dk tdX10_init_54 18 rfl
theorem dX10_init_99 : decode cX10_init 99 = .ok (.putfield 35, 3) := z_dk tdX10_init_54 19 rfl
theorem dX10_init_102 : decode cX10_init 102 = .ok (.aload_n 0, 1) := z_dk tdX10_init_54 20 rfl
theorem dX10_init_103 : decode cX10_init 103 = .ok (.new 9, 3) := z_dk tdX10_init_54 21 rfl
theorem dX10_init_106 : decode cX10_init 106 = .ok (.dup, 1) := z_dk tdX10_init_54 22 rfl
theorem dX10_init_107 : decode cX10_init 107 = .ok (.sipush 200, 3) := z_dk tdX10_init_54 23 rfl
theorem tdX10_init_110 : (([(110, .invokespecial 11, 3), (113, .putfield 38, 3), (116, .aload_n 0, 1), (117, .new 9, 3), (120, .dup, 1), (121, .sipush 200, 3), (124, .invokespecial 11, 3), (127, .putfield 41, 3), (130, .aload_n 0, 1), (131, .new 9, 3), (134, .dup, 1), (135, .sipush 201, 3), (138, .invokespecial 11, 3), (141, .putfield 44, 3), (144, .aload_n 0, 1), (145, .new 9, 3), (148, .dup, 1), (149, .sipush 201, 3), (152, .invokespecial 11, 3), (155, .putfield 47, 3), (158, .aload_n 0, 1), (159, .new 9, 3), (162, .dup, 1), (163, .sipush 200, 3)] : List (Nat × Instr × Nat)).all fun e => decide (decode cX10_init e.1 = .ok e.2)) = true := by decide +kernel
theorem dX10_init_110 : decode cX10_init 110 = .ok (.invokespecial 11, 3) := z_dk tdX10_init_110 0 rfl
theorem dX10_init_113 : decode cX10_init 113 = .ok (.putfield 38, 3) := z_dk tdX10_init_110 1 rfl
theorem dX10_init_116 : decode cX10_init 116 = .ok (.aload_n 0, 1) := z_dk tdX10_init_110 2 rfl
theorem dX10_init_117 : decode cX10_init 117 = .ok (.new 9, 3) := z_dk tdX10_init_110 3 rfl
theorem dX10_init_120 : decode cX10_init 120 = .ok (.dup, 1) := z_dk tdX10_init_110 4 rfl
theorem dX10_init_121 : decode cX10_init 121 = .ok (.sipush 200, 3) := z_dk tdX10_init_110 5 rfl
theorem dX10_init_124 : decode cX10_init 124 = .ok (.invokespecial 11, 3) := z_dk tdX10_init_110 6 rfl
theorem dX10_init_127 : decode cX10_init 127 = .ok (.putfield 41, 3) := z_dk tdX10_init_110 7 rfl
theorem dX10_init_130 : decode cX10_init 130 = .ok (.aload_n 0, 1) := z_dk tdX10_init_110 8 rfl
theorem dX10_init_131 : decode cX10_init 131 = .ok (.new 9, 3) := z_dk tdX10_init_110 9 rfl
theorem dX10_init_134 : decode cX10_init 134 = .ok (.dup, 1) := z_dk tdX10_init_110 10 rfl
theorem dX10_init_135 : decode cX10_init 135 = .ok (.sipush 201, 3) := z_dk tdX10_init_110 11 rfl
theorem dX10_init_138 : decode cX10_init 138 = .ok (.invokespecial 11, 3) := z_dk tdX10_init_110 12 rfl
theorem dX10_init_141 : decode cX10_init 141 = .ok (.putfield 44, 3) := z_dk tdX10_init_110 13 rfl
theorem dX10_init_144 : decode cX10_init 144 = .ok (.aload_n 0, 1) := z_dk tdX10_init_110 14 rfl
theorem dX10_init_145 : decode cX10_init 145 = .ok (.new 9, 3) := z_dk tdX10_init_110 15 rfl
theorem dX10_init_148 : decode cX10_init 148 = .ok (.dup, 1) := z_dk tdX10_init_110 16 rfl
theorem dX10_init_149 : decode cX10_init 149 = .ok (.sipush 201, 3) := z_dk tdX10_init_110 17 rfl
theorem dX10_init_152 : decode cX10_init 152 = .ok (.invokespecial 11, 3) := z_dk tdX10_init_110 18 rfl
theorem dX10_init_155 : decode cX10_init 155 = .ok (.putfield 47, 3) := z_dk tdX10_init_110 19 rfl
theorem dX10_init_158 : decode cX10_init 158 = .ok (.aload_n 0, 1) := z_dk tdX10_init_110 20 rfl
theorem dX10_init_159 : decode cX10_init 159 = .ok (.new 9, 3) := z_dk tdX10_init_110 21 rfl
theorem dX10_init_162 : decode cX10_init 162 = .ok (.dup, 1) := z_dk tdX10_init_110 22 rfl
theorem dX10_init_163 : decode cX10_init 163 = .ok (.sipush 200, 3) := z_dk tdX10_init_110 23 rfl
theorem tdX10_init_166 : (([(166, .invokespecial 11, 3), (169, .putfield 50, 3), (172, .aload_n 0, 1), (173, .new 9, 3), (176, .dup, 1), (177, .sipush 200, 3), (180, .invokespecial 11, 3), (183, .putfield 53, 3), (186, .aload_n 0, 1), (187, .new 9, 3), (190, .dup, 1), (191, .sipush 200, 3), (194, .invokespecial 11, 3), (197, .putfield 56, 3), (200, .aload_n 0, 1), (201, .aload_n 1, 1), (202, .putfield 59, 3), (205, .aload_n 0, 1), (206, .aload_n 2, 1), (207, .putfield 63, 3), (210, .return_, 1)] : List (Nat × Instr × Nat)).all fun e => decide (decode cX10_init e.1 = .ok e.2)) = true := by decide +kernel
theorem dX10_init_166 : decode cX10_init 166 = .ok (.invokespecial 11, 3) := z_dk tdX10_init_166 0 rfl
theorem dX10_init_169 : decode cX10_init 169 = .ok (.putfield 50, 3) := z_dk tdX10_init_166 1 rfl
theorem dX10_init_172 : decode cX10_init 172 = .ok (.aload_n 0, 1) := z_dk tdX10_init_166 2 rfl
theorem dX10_init_173 : decode cX10_init 173 = .ok (.new 9, 3) := z_dk tdX10_init_166 3 rfl
theorem dX10_init_176 : decode cX10_init 176 = .ok (.dup, 1) := z_dk tdX10_init_166 4 rfl
theorem dX10_init_177 : decode cX10_init 177 = .ok (.sipush 200, 3) := z_dk tdX10_init_166 5 rfl
theorem dX10_init_180 : decode cX10_init 180 = .ok (.invokespecial 11, 3) := z_dk tdX10_init_166 6 rfl
theorem dX10_init_183 : decode cX10_init 183 = .ok (.putfield 53, 3) := z_dk tdX10_init_166 7 rfl
theorem dX10_init_186 : decode cX10_init 186 = .ok (.aload_n 0, 1) := z_dk tdX10_init_166 8 rfl
theorem dX10_init_187 : decode cX10_init 187 = .ok (.new 9, 3) := z_dk tdX10_init_166 9 rfl
theorem dX10_init_190 : decode cX10_init 190 = .ok (.dup, 1) := z_dk tdX10_init_166 10 rfl
theorem dX10_init_191 : decode cX10_init 191 = .ok (.sipush 200, 3) := z_dk tdX10_init_166 11 rfl
theorem dX10_init_194 : decode cX10_init 194 = .ok (.invokespecial 11, 3) := z_dk tdX10_init_166 12 rfl
theorem dX10_init_197 : decode cX10_init 197 = .ok (.putfield 56, 3) := z_dk tdX10_init_166 13 rfl
theorem dX10_init_200 : decode cX10_init 200 = .ok (.aload_n 0, 1) := z_dk tdX10_init_166 14 rfl
theorem dX10_init_201 : decode cX10_init 201 = .ok (.aload_n 1, 1) := z_dk tdX10_init_166 15 rfl
theorem dX10_init_202 : decode cX10_init 202 = .ok (.putfield 59, 3) := z_dk tdX10_init_166 16 rfl
theorem dX10_init_205 : decode cX10_init 205 = .ok (.aload_n 0, 1) := z_dk tdX10_init_166 17 rfl
theorem dX10_init_206 : decode cX10_init 206 = .ok (.aload_n 2, 1) := z_dk tdX10_init_166 18 rfl
theorem dX10_init_207 : decode cX10_init 207 = .ok (.putfield 63, 3) := z_dk tdX10_init_166 19 rfl
theorem dX10_init_210 : decode cX10_init 210 = .ok (.return_, 1) := z_dk tdX10_init_166 20 rfl
theorem tdX10_build_0 : (([(0, .aload_n 0, 1), (1, .invokevirtual 66, 3), (4, .iconst 0, 1), (5, .istore_n 1, 1), (6, .iload_n 1, 1), (7, .aload_n 0, 1), (8, .getfield 69, 3), (11, .if_icmp .ge 14, 3), (14, .aload_n 0, 1), (15, .iload_n 1, 1), (16, .invokevirtual 73, 3), (19, .iinc 1 1, 3), (22, .goto (-16), 3), (25, .aload_n 0, 1), (26, .invokevirtual 76, 3), (29, .aload_n 0, 1), (30, .invokevirtual 79, 3), (33, .iconst 0, 1), (34, .istore_n 1, 1), (35, .iload_n 1, 1), (36, .aload_n 0, 1), (37, .getfield 69, 3), (40, .if_icmp .ge 30, 3), (43, .aload_n 0, 1)] : List (Nat × Instr × Nat)).all fun e => decide (decode cX10_build e.1 = .ok e.2)) = true := by decide +kernel
theorem dX10_build_0 : decode cX10_build 0 = .ok (.aload_n 0, 1) := z_dk tdX10_build_0 0 rfl
theorem dX10_build_1 : decode cX10_build 1 = .ok (.invokevirtual 66, 3) := z_dk tdX10_build_0 1 rfl
theorem dX10_build_4 : decode cX10_build 4 = .ok (.iconst 0, 1) := z_dk tdX10_build_0 2 rfl
theorem dX10_build_5 : decode cX10_build 5 = .ok (.istore_n 1, 1) := z_dk tdX10_build_0 3 rfl
theorem dX10_build_6 : decode cX10_build 6 = .ok (.iload_n 1, 1) := z_dk tdX10_build_0 4 rfl
theorem dX10_build_7 : decode cX10_build 7 = .ok (.aload_n 0, 1) := z_dk tdX10_build_0 5 rfl
theorem dX10_build_8 : decode cX10_build 8 = .ok (.getfield 69, 3) := z_dk tdX10_build_0 6 rfl
theorem dX10_build_11 : decode cX10_build 11 = .ok (.if_icmp .ge 14, 3) := z_dk tdX10_build_0 7 rfl
theorem dX10_build_14 : decode cX10_build 14 = .ok (.aload_n 0, 1) := z_dk tdX10_build_0 8 rfl
theorem dX10_build_15 : decode cX10_build 15 = .ok (.iload_n 1, 1) := z_dk tdX10_build_0 9 rfl
theorem dX10_build_16 : decode cX10_build 16 = .ok (.invokevirtual 73, 3) := z_dk tdX10_build_0 10 rfl
theorem dX10_build_19 : decode cX10_build 19 = .ok (.iinc 1 1, 3) := z_dk tdX10_build_0 11 rfl
theorem dX10_build_22 : decode cX10_build 22 = .ok (.goto (-16), 3) := z_dk tdX10_build_0 12 rfl
theorem dX10_build_25 : decode cX10_build 25 = .ok (.aload_n 0, 1) := z_dk tdX10_build_0 13 rfl
theorem dX10_build_26 : decode cX10_build 26 = .ok (.invokevirtual 76, 3) := z_dk tdX10_build_0 14 rfl
theorem dX10_build_29 : decode cX10_build 29 = .ok (.aload_n 0, 1) := z_dk tdX10_build_0 15 rfl
theorem dX10_build_30 : decode cX10_build 30 = .ok (.invokevirtual 79, 3) := z_dk tdX10_build_0 16 rfl
theorem dX10_build_33 : decode cX10_build 33 = .ok (.iconst 0, 1) := z_dk tdX10_build_0 17 rfl
theorem dX10_build_34 : decode cX10_build 34 = .ok (.istore_n 1, 1) := z_dk tdX10_build_0 18 rfl
theorem dX10_build_35 : decode cX10_build 35 = .ok (.iload_n 1, 1) := z_dk tdX10_build_0 19 rfl
theorem dX10_build_36 : decode cX10_build 36 = .ok (.aload_n 0, 1) := z_dk tdX10_build_0 20 rfl
theorem dX10_build_37 : decode cX10_build 37 = .ok (.getfield 69, 3) := z_dk tdX10_build_0 21 rfl
theorem dX10_build_40 : decode cX10_build 40 = .ok (.if_icmp .ge 30, 3) := z_dk tdX10_build_0 22 rfl
theorem dX10_build_43 : decode cX10_build 43 = .ok (.aload_n 0, 1) := z_dk tdX10_build_0 23 rfl
theorem tdX10_build_44 : (([(44, .getfield 41, 3), (47, .iload_n 1, 1), (48, .aload_n 0, 1), (49, .iload_n 1, 1), (50, .invokevirtual 82, 3), (53, .ifCond .eq 7, 3), (56, .iconst 1, 1), (57, .goto 4, 3), (60, .iconst 0, 1), (61, .invokevirtual 86, 3), (64, .iinc 1 1, 3), (67, .goto (-32), 3), (70, .aload_n 0, 1), (71, .invokevirtual 90, 3), (74, .return_, 1)] : List (Nat × Instr × Nat)).all fun e => decide (decode cX10_build e.1 = .ok e.2)) = true := by decide +kernel
theorem dX10_build_44 : decode cX10_build 44 = .ok (.getfield 41, 3) := z_dk tdX10_build_44 0 rfl
theorem dX10_build_47 : decode cX10_build 47 = .ok (.iload_n 1, 1) := z_dk tdX10_build_44 1 rfl
theorem dX10_build_48 : decode cX10_build 48 = .ok (.aload_n 0, 1) := z_dk tdX10_build_44 2 rfl
theorem dX10_build_49 : decode cX10_build 49 = .ok (.iload_n 1, 1) := z_dk tdX10_build_44 3 rfl
theorem dX10_build_50 : decode cX10_build 50 = .ok (.invokevirtual 82, 3) := z_dk tdX10_build_44 4 rfl
theorem dX10_build_53 : decode cX10_build 53 = .ok (.ifCond .eq 7, 3) := z_dk tdX10_build_44 5 rfl
theorem dX10_build_56 : decode cX10_build 56 = .ok (.iconst 1, 1) := z_dk tdX10_build_44 6 rfl
theorem dX10_build_57 : decode cX10_build 57 = .ok (.goto 4, 3) := z_dk tdX10_build_44 7 rfl
theorem dX10_build_60 : decode cX10_build 60 = .ok (.iconst 0, 1) := z_dk tdX10_build_44 8 rfl
theorem dX10_build_61 : decode cX10_build 61 = .ok (.invokevirtual 86, 3) := z_dk tdX10_build_44 9 rfl
theorem dX10_build_64 : decode cX10_build 64 = .ok (.iinc 1 1, 3) := z_dk tdX10_build_44 10 rfl
theorem dX10_build_67 : decode cX10_build 67 = .ok (.goto (-32), 3) := z_dk tdX10_build_44 11 rfl
theorem dX10_build_70 : decode cX10_build 70 = .ok (.aload_n 0, 1) := z_dk tdX10_build_44 12 rfl
theorem dX10_build_71 : decode cX10_build 71 = .ok (.invokevirtual 90, 3) := z_dk tdX10_build_44 13 rfl
theorem dX10_build_74 : decode cX10_build 74 = .ok (.return_, 1) := z_dk tdX10_build_44 14 rfl
theorem tdX10_split_0 : (([(0, .aload_n 0, 1), (1, .iconst 0, 1), (2, .putfield 69, 3), (5, .iconst 0, 1), (6, .istore_n 1, 1), (7, .iload_n 1, 1), (8, .aload_n 0, 1), (9, .getfield 59, 3), (12, .getfield 93, 3), (15, .if_icmp .ge 95, 3), (18, .aload_n 0, 1), (19, .iload_n 1, 1), (20, .invokevirtual 96, 3), (23, .ifCond .eq 53, 3), (26, .aload_n 0, 1), (27, .getfield 14, 3), (30, .aload_n 0, 1), (31, .getfield 69, 3), (34, .aload_n 0, 1), (35, .iload_n 1, 1), (36, .invokevirtual 99, 3), (39, .invokevirtual 86, 3), (42, .aload_n 0, 1), (43, .getfield 20, 3)] : List (Nat × Instr × Nat)).all fun e => decide (decode cX10_split e.1 = .ok e.2)) = true := by decide +kernel
theorem dX10_split_0 : decode cX10_split 0 = .ok (.aload_n 0, 1) := z_dk tdX10_split_0 0 rfl
theorem dX10_split_1 : decode cX10_split 1 = .ok (.iconst 0, 1) := z_dk tdX10_split_0 1 rfl
theorem dX10_split_2 : decode cX10_split 2 = .ok (.putfield 69, 3) := z_dk tdX10_split_0 2 rfl
theorem dX10_split_5 : decode cX10_split 5 = .ok (.iconst 0, 1) := z_dk tdX10_split_0 3 rfl
theorem dX10_split_6 : decode cX10_split 6 = .ok (.istore_n 1, 1) := z_dk tdX10_split_0 4 rfl
theorem dX10_split_7 : decode cX10_split 7 = .ok (.iload_n 1, 1) := z_dk tdX10_split_0 5 rfl
theorem dX10_split_8 : decode cX10_split 8 = .ok (.aload_n 0, 1) := z_dk tdX10_split_0 6 rfl
theorem dX10_split_9 : decode cX10_split 9 = .ok (.getfield 59, 3) := z_dk tdX10_split_0 7 rfl
theorem dX10_split_12 : decode cX10_split 12 = .ok (.getfield 93, 3) := z_dk tdX10_split_0 8 rfl
theorem dX10_split_15 : decode cX10_split 15 = .ok (.if_icmp .ge 95, 3) := z_dk tdX10_split_0 9 rfl
theorem dX10_split_18 : decode cX10_split 18 = .ok (.aload_n 0, 1) := z_dk tdX10_split_0 10 rfl
theorem dX10_split_19 : decode cX10_split 19 = .ok (.iload_n 1, 1) := z_dk tdX10_split_0 11 rfl
theorem dX10_split_20 : decode cX10_split 20 = .ok (.invokevirtual 96, 3) := z_dk tdX10_split_0 12 rfl
theorem dX10_split_23 : decode cX10_split 23 = .ok (.ifCond .eq 53, 3) := z_dk tdX10_split_0 13 rfl
theorem dX10_split_26 : decode cX10_split 26 = .ok (.aload_n 0, 1) := z_dk tdX10_split_0 14 rfl
theorem dX10_split_27 : decode cX10_split 27 = .ok (.getfield 14, 3) := z_dk tdX10_split_0 15 rfl
theorem dX10_split_30 : decode cX10_split 30 = .ok (.aload_n 0, 1) := z_dk tdX10_split_0 16 rfl
theorem dX10_split_31 : decode cX10_split 31 = .ok (.getfield 69, 3) := z_dk tdX10_split_0 17 rfl
theorem dX10_split_34 : decode cX10_split 34 = .ok (.aload_n 0, 1) := z_dk tdX10_split_0 18 rfl
theorem dX10_split_35 : decode cX10_split 35 = .ok (.iload_n 1, 1) := z_dk tdX10_split_0 19 rfl
theorem dX10_split_36 : decode cX10_split 36 = .ok (.invokevirtual 99, 3) := z_dk tdX10_split_0 20 rfl
theorem dX10_split_39 : decode cX10_split 39 = .ok (.invokevirtual 86, 3) := z_dk tdX10_split_0 21 rfl
theorem dX10_split_42 : decode cX10_split 42 = .ok (.aload_n 0, 1) := z_dk tdX10_split_0 22 rfl
theorem dX10_split_43 : decode cX10_split 43 = .ok (.getfield 20, 3) := z_dk tdX10_split_0 23 rfl
theorem tdX10_split_46 : (([(46, .aload_n 0, 1), (47, .getfield 69, 3), (50, .iload_n 1, 1), (51, .invokevirtual 86, 3), (54, .aload_n 0, 1), (55, .getfield 23, 3), (58, .aload_n 0, 1), (59, .getfield 69, 3), (62, .iconst 0, 1), (63, .invokevirtual 86, 3), (66, .aload_n 0, 1), (67, .dup, 1), (68, .getfield 69, 3), (71, .iconst 1, 1), (72, .iadd, 1), (73, .putfield 69, 3), (76, .aload_n 0, 1), (77, .getfield 23, 3), (80, .aload_n 0, 1), (81, .getfield 69, 3), (84, .iconst 1, 1), (85, .isub, 1), (86, .iconst 1, 1), (87, .invokevirtual 103, 3)] : List (Nat × Instr × Nat)).all fun e => decide (decode cX10_split e.1 = .ok e.2)) = true := by decide +kernel
theorem dX10_split_46 : decode cX10_split 46 = .ok (.aload_n 0, 1) := z_dk tdX10_split_46 0 rfl
theorem dX10_split_47 : decode cX10_split 47 = .ok (.getfield 69, 3) := z_dk tdX10_split_46 1 rfl
theorem dX10_split_50 : decode cX10_split 50 = .ok (.iload_n 1, 1) := z_dk tdX10_split_46 2 rfl
theorem dX10_split_51 : decode cX10_split 51 = .ok (.invokevirtual 86, 3) := z_dk tdX10_split_46 3 rfl
theorem dX10_split_54 : decode cX10_split 54 = .ok (.aload_n 0, 1) := z_dk tdX10_split_46 4 rfl
theorem dX10_split_55 : decode cX10_split 55 = .ok (.getfield 23, 3) := z_dk tdX10_split_46 5 rfl
theorem dX10_split_58 : decode cX10_split 58 = .ok (.aload_n 0, 1) := z_dk tdX10_split_46 6 rfl
theorem dX10_split_59 : decode cX10_split 59 = .ok (.getfield 69, 3) := z_dk tdX10_split_46 7 rfl
theorem dX10_split_62 : decode cX10_split 62 = .ok (.iconst 0, 1) := z_dk tdX10_split_46 8 rfl
theorem dX10_split_63 : decode cX10_split 63 = .ok (.invokevirtual 86, 3) := z_dk tdX10_split_46 9 rfl
theorem dX10_split_66 : decode cX10_split 66 = .ok (.aload_n 0, 1) := z_dk tdX10_split_46 10 rfl
theorem dX10_split_67 : decode cX10_split 67 = .ok (.dup, 1) := z_dk tdX10_split_46 11 rfl
theorem dX10_split_68 : decode cX10_split 68 = .ok (.getfield 69, 3) := z_dk tdX10_split_46 12 rfl
theorem dX10_split_71 : decode cX10_split 71 = .ok (.iconst 1, 1) := z_dk tdX10_split_46 13 rfl
theorem dX10_split_72 : decode cX10_split 72 = .ok (.iadd, 1) := z_dk tdX10_split_46 14 rfl
theorem dX10_split_73 : decode cX10_split 73 = .ok (.putfield 69, 3) := z_dk tdX10_split_46 15 rfl
theorem dX10_split_76 : decode cX10_split 76 = .ok (.aload_n 0, 1) := z_dk tdX10_split_46 16 rfl
theorem dX10_split_77 : decode cX10_split 77 = .ok (.getfield 23, 3) := z_dk tdX10_split_46 17 rfl
theorem dX10_split_80 : decode cX10_split 80 = .ok (.aload_n 0, 1) := z_dk tdX10_split_46 18 rfl
theorem dX10_split_81 : decode cX10_split 81 = .ok (.getfield 69, 3) := z_dk tdX10_split_46 19 rfl
theorem dX10_split_84 : decode cX10_split 84 = .ok (.iconst 1, 1) := z_dk tdX10_split_46 20 rfl
theorem dX10_split_85 : decode cX10_split 85 = .ok (.isub, 1) := z_dk tdX10_split_46 21 rfl
theorem dX10_split_86 : decode cX10_split 86 = .ok (.iconst 1, 1) := z_dk tdX10_split_46 22 rfl
theorem dX10_split_87 : decode cX10_split 87 = .ok (.invokevirtual 103, 3) := z_dk tdX10_split_46 23 rfl
theorem tdX10_split_90 : (([(90, .aload_n 0, 1), (91, .getfield 50, 3), (94, .iload_n 1, 1), (95, .aload_n 0, 1), (96, .getfield 69, 3), (99, .iconst 1, 1), (100, .isub, 1), (101, .invokevirtual 86, 3), (104, .iinc 1 1, 3), (107, .goto (-100), 3), (110, .return_, 1)] : List (Nat × Instr × Nat)).all fun e => decide (decode cX10_split e.1 = .ok e.2)) = true := by decide +kernel
theorem dX10_split_90 : decode cX10_split 90 = .ok (.aload_n 0, 1) := z_dk tdX10_split_90 0 rfl
theorem dX10_split_91 : decode cX10_split 91 = .ok (.getfield 50, 3) := z_dk tdX10_split_90 1 rfl
theorem dX10_split_94 : decode cX10_split 94 = .ok (.iload_n 1, 1) := z_dk tdX10_split_90 2 rfl
theorem dX10_split_95 : decode cX10_split 95 = .ok (.aload_n 0, 1) := z_dk tdX10_split_90 3 rfl
theorem dX10_split_96 : decode cX10_split 96 = .ok (.getfield 69, 3) := z_dk tdX10_split_90 4 rfl
theorem dX10_split_99 : decode cX10_split 99 = .ok (.iconst 1, 1) := z_dk tdX10_split_90 5 rfl
theorem dX10_split_100 : decode cX10_split 100 = .ok (.isub, 1) := z_dk tdX10_split_90 6 rfl
theorem dX10_split_101 : decode cX10_split 101 = .ok (.invokevirtual 86, 3) := z_dk tdX10_split_90 7 rfl
theorem dX10_split_104 : decode cX10_split 104 = .ok (.iinc 1 1, 3) := z_dk tdX10_split_90 8 rfl
theorem dX10_split_107 : decode cX10_split 107 = .ok (.goto (-100), 3) := z_dk tdX10_split_90 9 rfl
theorem dX10_split_110 : decode cX10_split 110 = .ok (.return_, 1) := z_dk tdX10_split_90 10 rfl
theorem tdX10_startsUnit_0 : (([(0, .aload_n 0, 1), (1, .iload_n 1, 1), (2, .invokevirtual 99, 3), (5, .istore_n 2, 1), (6, .iload_n 2, 1), (7, .bipush 7, 2), (9, .if_icmp .ne 24, 3), (12, .aload_n 0, 1), (13, .getfield 59, 3), (16, .getfield 106, 3), (19, .iload_n 1, 1), (20, .invokevirtual 109, 3), (23, .iconst 1, 1), (24, .if_icmp .ne 7, 3), (27, .iconst 1, 1), (28, .goto 4, 3), (31, .iconst 0, 1), (32, .ireturn, 1), (33, .iload_n 2, 1), (34, .iconst 1, 1), (35, .if_icmp .eq 8, 3), (38, .iload_n 2, 1), (39, .iconst 2, 1), (40, .if_icmp .ne 18, 3)] : List (Nat × Instr × Nat)).all fun e => decide (decode cX10_startsUnit e.1 = .ok e.2)) = true := by decide +kernel
theorem dX10_startsUnit_0 : decode cX10_startsUnit 0 = .ok (.aload_n 0, 1) := z_dk tdX10_startsUnit_0 0 rfl
theorem dX10_startsUnit_1 : decode cX10_startsUnit 1 = .ok (.iload_n 1, 1) := z_dk tdX10_startsUnit_0 1 rfl
theorem dX10_startsUnit_2 : decode cX10_startsUnit 2 = .ok (.invokevirtual 99, 3) := z_dk tdX10_startsUnit_0 2 rfl
theorem dX10_startsUnit_5 : decode cX10_startsUnit 5 = .ok (.istore_n 2, 1) := z_dk tdX10_startsUnit_0 3 rfl
theorem dX10_startsUnit_6 : decode cX10_startsUnit 6 = .ok (.iload_n 2, 1) := z_dk tdX10_startsUnit_0 4 rfl
theorem dX10_startsUnit_7 : decode cX10_startsUnit 7 = .ok (.bipush 7, 2) := z_dk tdX10_startsUnit_0 5 rfl
theorem dX10_startsUnit_9 : decode cX10_startsUnit 9 = .ok (.if_icmp .ne 24, 3) := z_dk tdX10_startsUnit_0 6 rfl
theorem dX10_startsUnit_12 : decode cX10_startsUnit 12 = .ok (.aload_n 0, 1) := z_dk tdX10_startsUnit_0 7 rfl
theorem dX10_startsUnit_13 : decode cX10_startsUnit 13 = .ok (.getfield 59, 3) := z_dk tdX10_startsUnit_0 8 rfl
theorem dX10_startsUnit_16 : decode cX10_startsUnit 16 = .ok (.getfield 106, 3) := z_dk tdX10_startsUnit_0 9 rfl
theorem dX10_startsUnit_19 : decode cX10_startsUnit 19 = .ok (.iload_n 1, 1) := z_dk tdX10_startsUnit_0 10 rfl
theorem dX10_startsUnit_20 : decode cX10_startsUnit 20 = .ok (.invokevirtual 109, 3) := z_dk tdX10_startsUnit_0 11 rfl
theorem dX10_startsUnit_23 : decode cX10_startsUnit 23 = .ok (.iconst 1, 1) := z_dk tdX10_startsUnit_0 12 rfl
theorem dX10_startsUnit_24 : decode cX10_startsUnit 24 = .ok (.if_icmp .ne 7, 3) := z_dk tdX10_startsUnit_0 13 rfl
theorem dX10_startsUnit_27 : decode cX10_startsUnit 27 = .ok (.iconst 1, 1) := z_dk tdX10_startsUnit_0 14 rfl
theorem dX10_startsUnit_28 : decode cX10_startsUnit 28 = .ok (.goto 4, 3) := z_dk tdX10_startsUnit_0 15 rfl
theorem dX10_startsUnit_31 : decode cX10_startsUnit 31 = .ok (.iconst 0, 1) := z_dk tdX10_startsUnit_0 16 rfl
theorem dX10_startsUnit_32 : decode cX10_startsUnit 32 = .ok (.ireturn, 1) := z_dk tdX10_startsUnit_0 17 rfl
theorem dX10_startsUnit_33 : decode cX10_startsUnit 33 = .ok (.iload_n 2, 1) := z_dk tdX10_startsUnit_0 18 rfl
theorem dX10_startsUnit_34 : decode cX10_startsUnit 34 = .ok (.iconst 1, 1) := z_dk tdX10_startsUnit_0 19 rfl
theorem dX10_startsUnit_35 : decode cX10_startsUnit 35 = .ok (.if_icmp .eq 8, 3) := z_dk tdX10_startsUnit_0 20 rfl
theorem dX10_startsUnit_38 : decode cX10_startsUnit 38 = .ok (.iload_n 2, 1) := z_dk tdX10_startsUnit_0 21 rfl
theorem dX10_startsUnit_39 : decode cX10_startsUnit 39 = .ok (.iconst 2, 1) := z_dk tdX10_startsUnit_0 22 rfl
theorem dX10_startsUnit_40 : decode cX10_startsUnit 40 = .ok (.if_icmp .ne 18, 3) := z_dk tdX10_startsUnit_0 23 rfl
theorem tdX10_startsUnit_43 : (([(43, .iload_n 1, 1), (44, .ifCond .eq 14, 3), (47, .aload_n 0, 1), (48, .iload_n 1, 1), (49, .iconst 1, 1), (50, .isub, 1), (51, .invokevirtual 99, 3), (54, .iload_n 2, 1), (55, .if_icmp .eq 7, 3), (58, .iconst 1, 1), (59, .goto 4, 3), (62, .iconst 0, 1), (63, .ireturn, 1)] : List (Nat × Instr × Nat)).all fun e => decide (decode cX10_startsUnit e.1 = .ok e.2)) = true := by decide +kernel
theorem dX10_startsUnit_43 : decode cX10_startsUnit 43 = .ok (.iload_n 1, 1) := z_dk tdX10_startsUnit_43 0 rfl
theorem dX10_startsUnit_44 : decode cX10_startsUnit 44 = .ok (.ifCond .eq 14, 3) := z_dk tdX10_startsUnit_43 1 rfl
theorem dX10_startsUnit_47 : decode cX10_startsUnit 47 = .ok (.aload_n 0, 1) := z_dk tdX10_startsUnit_43 2 rfl
theorem dX10_startsUnit_48 : decode cX10_startsUnit 48 = .ok (.iload_n 1, 1) := z_dk tdX10_startsUnit_43 3 rfl
theorem dX10_startsUnit_49 : decode cX10_startsUnit 49 = .ok (.iconst 1, 1) := z_dk tdX10_startsUnit_43 4 rfl
theorem dX10_startsUnit_50 : decode cX10_startsUnit 50 = .ok (.isub, 1) := z_dk tdX10_startsUnit_43 5 rfl
theorem dX10_startsUnit_51 : decode cX10_startsUnit 51 = .ok (.invokevirtual 99, 3) := z_dk tdX10_startsUnit_43 6 rfl
theorem dX10_startsUnit_54 : decode cX10_startsUnit 54 = .ok (.iload_n 2, 1) := z_dk tdX10_startsUnit_43 7 rfl
theorem dX10_startsUnit_55 : decode cX10_startsUnit 55 = .ok (.if_icmp .eq 7, 3) := z_dk tdX10_startsUnit_43 8 rfl
theorem dX10_startsUnit_58 : decode cX10_startsUnit 58 = .ok (.iconst 1, 1) := z_dk tdX10_startsUnit_43 9 rfl
theorem dX10_startsUnit_59 : decode cX10_startsUnit 59 = .ok (.goto 4, 3) := z_dk tdX10_startsUnit_43 10 rfl
theorem dX10_startsUnit_62 : decode cX10_startsUnit 62 = .ok (.iconst 0, 1) := z_dk tdX10_startsUnit_43 11 rfl
theorem dX10_startsUnit_63 : decode cX10_startsUnit 63 = .ok (.ireturn, 1) := z_dk tdX10_startsUnit_43 12 rfl
theorem tdX10_kindAt_0 : (([(0, .aload_n 0, 1), (1, .getfield 59, 3), (4, .getfield 112, 3), (7, .iload_n 1, 1), (8, .invokevirtual 109, 3), (11, .istore_n 2, 1), (12, .aload_n 0, 1), (13, .getfield 59, 3), (16, .getfield 115, 3), (19, .iload_n 1, 1), (20, .invokevirtual 109, 3), (23, .iconst (-1), 1), (24, .if_icmp .eq 6, 3), (27, .bipush 7, 2), (29, .ireturn, 1), (30, .iload_n 2, 1), (31, .bipush 65, 2), (33, .if_icmp .lt 11, 3), (36, .iload_n 2, 1), (37, .bipush 90, 2), (39, .if_icmp .gt 5, 3), (42, .iconst 0, 1), (43, .ireturn, 1), (44, .iload_n 2, 1)] : List (Nat × Instr × Nat)).all fun e => decide (decode cX10_kindAt e.1 = .ok e.2)) = true := by decide +kernel
theorem dX10_kindAt_0 : decode cX10_kindAt 0 = .ok (.aload_n 0, 1) := z_dk tdX10_kindAt_0 0 rfl
theorem dX10_kindAt_1 : decode cX10_kindAt 1 = .ok (.getfield 59, 3) := z_dk tdX10_kindAt_0 1 rfl
theorem dX10_kindAt_4 : decode cX10_kindAt 4 = .ok (.getfield 112, 3) := z_dk tdX10_kindAt_0 2 rfl
theorem dX10_kindAt_7 : decode cX10_kindAt 7 = .ok (.iload_n 1, 1) := z_dk tdX10_kindAt_0 3 rfl
theorem dX10_kindAt_8 : decode cX10_kindAt 8 = .ok (.invokevirtual 109, 3) := z_dk tdX10_kindAt_0 4 rfl
theorem dX10_kindAt_11 : decode cX10_kindAt 11 = .ok (.istore_n 2, 1) := z_dk tdX10_kindAt_0 5 rfl
theorem dX10_kindAt_12 : decode cX10_kindAt 12 = .ok (.aload_n 0, 1) := z_dk tdX10_kindAt_0 6 rfl
theorem dX10_kindAt_13 : decode cX10_kindAt 13 = .ok (.getfield 59, 3) := z_dk tdX10_kindAt_0 7 rfl
theorem dX10_kindAt_16 : decode cX10_kindAt 16 = .ok (.getfield 115, 3) := z_dk tdX10_kindAt_0 8 rfl
theorem dX10_kindAt_19 : decode cX10_kindAt 19 = .ok (.iload_n 1, 1) := z_dk tdX10_kindAt_0 9 rfl
theorem dX10_kindAt_20 : decode cX10_kindAt 20 = .ok (.invokevirtual 109, 3) := z_dk tdX10_kindAt_0 10 rfl
theorem dX10_kindAt_23 : decode cX10_kindAt 23 = .ok (.iconst (-1), 1) := z_dk tdX10_kindAt_0 11 rfl
theorem dX10_kindAt_24 : decode cX10_kindAt 24 = .ok (.if_icmp .eq 6, 3) := z_dk tdX10_kindAt_0 12 rfl
theorem dX10_kindAt_27 : decode cX10_kindAt 27 = .ok (.bipush 7, 2) := z_dk tdX10_kindAt_0 13 rfl
theorem dX10_kindAt_29 : decode cX10_kindAt 29 = .ok (.ireturn, 1) := z_dk tdX10_kindAt_0 14 rfl
theorem dX10_kindAt_30 : decode cX10_kindAt 30 = .ok (.iload_n 2, 1) := z_dk tdX10_kindAt_0 15 rfl
theorem dX10_kindAt_31 : decode cX10_kindAt 31 = .ok (.bipush 65, 2) := z_dk tdX10_kindAt_0 16 rfl
theorem dX10_kindAt_33 : decode cX10_kindAt 33 = .ok (.if_icmp .lt 11, 3) := z_dk tdX10_kindAt_0 17 rfl
theorem dX10_kindAt_36 : decode cX10_kindAt 36 = .ok (.iload_n 2, 1) := z_dk tdX10_kindAt_0 18 rfl
theorem dX10_kindAt_37 : decode cX10_kindAt 37 = .ok (.bipush 90, 2) := z_dk tdX10_kindAt_0 19 rfl
theorem dX10_kindAt_39 : decode cX10_kindAt 39 = .ok (.if_icmp .gt 5, 3) := z_dk tdX10_kindAt_0 20 rfl
theorem dX10_kindAt_42 : decode cX10_kindAt 42 = .ok (.iconst 0, 1) := z_dk tdX10_kindAt_0 21 rfl
theorem dX10_kindAt_43 : decode cX10_kindAt 43 = .ok (.ireturn, 1) := z_dk tdX10_kindAt_0 22 rfl
theorem dX10_kindAt_44 : decode cX10_kindAt 44 = .ok (.iload_n 2, 1) := z_dk tdX10_kindAt_0 23 rfl
theorem tdX10_kindAt_45 : (([(45, .bipush 97, 2), (47, .if_icmp .lt 5, 3), (50, .iconst 1, 1), (51, .ireturn, 1), (52, .iload_n 2, 1), (53, .bipush 48, 2), (55, .if_icmp .lt 5, 3), (58, .iconst 2, 1), (59, .ireturn, 1), (60, .iload_n 2, 1), (61, .bipush 40, 2), (63, .if_icmp .ne 5, 3), (66, .iconst 4, 1), (67, .ireturn, 1), (68, .iload_n 2, 1), (69, .bipush 41, 2), (71, .if_icmp .ne 5, 3), (74, .iconst 5, 1), (75, .ireturn, 1), (76, .iload_n 2, 1), (77, .bipush 32, 2), (79, .if_icmp .ne 8, 3), (82, .bipush 6, 2), (84, .goto 4, 3)] : List (Nat × Instr × Nat)).all fun e => decide (decode cX10_kindAt e.1 = .ok e.2)) = true := by decide +kernel
theorem dX10_kindAt_45 : decode cX10_kindAt 45 = .ok (.bipush 97, 2) := z_dk tdX10_kindAt_45 0 rfl
theorem dX10_kindAt_47 : decode cX10_kindAt 47 = .ok (.if_icmp .lt 5, 3) := z_dk tdX10_kindAt_45 1 rfl
theorem dX10_kindAt_50 : decode cX10_kindAt 50 = .ok (.iconst 1, 1) := z_dk tdX10_kindAt_45 2 rfl
theorem dX10_kindAt_51 : decode cX10_kindAt 51 = .ok (.ireturn, 1) := z_dk tdX10_kindAt_45 3 rfl
theorem dX10_kindAt_52 : decode cX10_kindAt 52 = .ok (.iload_n 2, 1) := z_dk tdX10_kindAt_45 4 rfl
theorem dX10_kindAt_53 : decode cX10_kindAt 53 = .ok (.bipush 48, 2) := z_dk tdX10_kindAt_45 5 rfl
theorem dX10_kindAt_55 : decode cX10_kindAt 55 = .ok (.if_icmp .lt 5, 3) := z_dk tdX10_kindAt_45 6 rfl
theorem dX10_kindAt_58 : decode cX10_kindAt 58 = .ok (.iconst 2, 1) := z_dk tdX10_kindAt_45 7 rfl
theorem dX10_kindAt_59 : decode cX10_kindAt 59 = .ok (.ireturn, 1) := z_dk tdX10_kindAt_45 8 rfl
theorem dX10_kindAt_60 : decode cX10_kindAt 60 = .ok (.iload_n 2, 1) := z_dk tdX10_kindAt_45 9 rfl
theorem dX10_kindAt_61 : decode cX10_kindAt 61 = .ok (.bipush 40, 2) := z_dk tdX10_kindAt_45 10 rfl
theorem dX10_kindAt_63 : decode cX10_kindAt 63 = .ok (.if_icmp .ne 5, 3) := z_dk tdX10_kindAt_45 11 rfl
theorem dX10_kindAt_66 : decode cX10_kindAt 66 = .ok (.iconst 4, 1) := z_dk tdX10_kindAt_45 12 rfl
theorem dX10_kindAt_67 : decode cX10_kindAt 67 = .ok (.ireturn, 1) := z_dk tdX10_kindAt_45 13 rfl
theorem dX10_kindAt_68 : decode cX10_kindAt 68 = .ok (.iload_n 2, 1) := z_dk tdX10_kindAt_45 14 rfl
theorem dX10_kindAt_69 : decode cX10_kindAt 69 = .ok (.bipush 41, 2) := z_dk tdX10_kindAt_45 15 rfl
theorem dX10_kindAt_71 : decode cX10_kindAt 71 = .ok (.if_icmp .ne 5, 3) := z_dk tdX10_kindAt_45 16 rfl
theorem dX10_kindAt_74 : decode cX10_kindAt 74 = .ok (.iconst 5, 1) := z_dk tdX10_kindAt_45 17 rfl
theorem dX10_kindAt_75 : decode cX10_kindAt 75 = .ok (.ireturn, 1) := z_dk tdX10_kindAt_45 18 rfl
theorem dX10_kindAt_76 : decode cX10_kindAt 76 = .ok (.iload_n 2, 1) := z_dk tdX10_kindAt_45 19 rfl
theorem dX10_kindAt_77 : decode cX10_kindAt 77 = .ok (.bipush 32, 2) := z_dk tdX10_kindAt_45 20 rfl
theorem dX10_kindAt_79 : decode cX10_kindAt 79 = .ok (.if_icmp .ne 8, 3) := z_dk tdX10_kindAt_45 21 rfl
theorem dX10_kindAt_82 : decode cX10_kindAt 82 = .ok (.bipush 6, 2) := z_dk tdX10_kindAt_45 22 rfl
theorem dX10_kindAt_84 : decode cX10_kindAt 84 = .ok (.goto 4, 3) := z_dk tdX10_kindAt_45 23 rfl
theorem tdX10_kindAt_87 : (([(87, .iconst 3, 1), (88, .ireturn, 1)] : List (Nat × Instr × Nat)).all fun e => decide (decode cX10_kindAt e.1 = .ok e.2)) = true := by decide +kernel
theorem dX10_kindAt_87 : decode cX10_kindAt 87 = .ok (.iconst 3, 1) := z_dk tdX10_kindAt_87 0 rfl
theorem dX10_kindAt_88 : decode cX10_kindAt 88 = .ok (.ireturn, 1) := z_dk tdX10_kindAt_87 1 rfl
theorem tdX10_measureUnit_0 : (([(0, .aload_n 0, 1), (1, .getfield 20, 3), (4, .iload_n 1, 1), (5, .invokevirtual 109, 3), (8, .istore_n 2, 1), (9, .aload_n 0, 1), (10, .getfield 23, 3), (13, .iload_n 1, 1), (14, .invokevirtual 109, 3), (17, .istore_n 3, 1), (18, .aload_n 0, 1), (19, .iload_n 1, 1), (20, .invokevirtual 116, 3), (23, .istore 4, 2), (25, .aload_n 0, 1), (26, .aload_n 0, 1), (27, .getfield 14, 3), (30, .iload_n 1, 1), (31, .invokevirtual 109, 3), (34, .iload 4, 2), (36, .invokevirtual 119, 3), (39, .ifCond .eq 7, 3), (42, .iconst 1, 1), (43, .goto 4, 3)] : List (Nat × Instr × Nat)).all fun e => decide (decode cX10_measureUnit e.1 = .ok e.2)) = true := by decide +kernel
theorem dX10_measureUnit_0 : decode cX10_measureUnit 0 = .ok (.aload_n 0, 1) := z_dk tdX10_measureUnit_0 0 rfl
theorem dX10_measureUnit_1 : decode cX10_measureUnit 1 = .ok (.getfield 20, 3) := z_dk tdX10_measureUnit_0 1 rfl
theorem dX10_measureUnit_4 : decode cX10_measureUnit 4 = .ok (.iload_n 1, 1) := z_dk tdX10_measureUnit_0 2 rfl
theorem dX10_measureUnit_5 : decode cX10_measureUnit 5 = .ok (.invokevirtual 109, 3) := z_dk tdX10_measureUnit_0 3 rfl
theorem dX10_measureUnit_8 : decode cX10_measureUnit 8 = .ok (.istore_n 2, 1) := z_dk tdX10_measureUnit_0 4 rfl
theorem dX10_measureUnit_9 : decode cX10_measureUnit 9 = .ok (.aload_n 0, 1) := z_dk tdX10_measureUnit_0 5 rfl
theorem dX10_measureUnit_10 : decode cX10_measureUnit 10 = .ok (.getfield 23, 3) := z_dk tdX10_measureUnit_0 6 rfl
theorem dX10_measureUnit_13 : decode cX10_measureUnit 13 = .ok (.iload_n 1, 1) := z_dk tdX10_measureUnit_0 7 rfl
theorem dX10_measureUnit_14 : decode cX10_measureUnit 14 = .ok (.invokevirtual 109, 3) := z_dk tdX10_measureUnit_0 8 rfl
theorem dX10_measureUnit_17 : decode cX10_measureUnit 17 = .ok (.istore_n 3, 1) := z_dk tdX10_measureUnit_0 9 rfl
theorem dX10_measureUnit_18 : decode cX10_measureUnit 18 = .ok (.aload_n 0, 1) := z_dk tdX10_measureUnit_0 10 rfl
theorem dX10_measureUnit_19 : decode cX10_measureUnit 19 = .ok (.iload_n 1, 1) := z_dk tdX10_measureUnit_0 11 rfl
theorem dX10_measureUnit_20 : decode cX10_measureUnit 20 = .ok (.invokevirtual 116, 3) := z_dk tdX10_measureUnit_0 12 rfl
theorem dX10_measureUnit_23 : decode cX10_measureUnit 23 = .ok (.istore 4, 2) := z_dk tdX10_measureUnit_0 13 rfl
theorem dX10_measureUnit_25 : decode cX10_measureUnit 25 = .ok (.aload_n 0, 1) := z_dk tdX10_measureUnit_0 14 rfl
theorem dX10_measureUnit_26 : decode cX10_measureUnit 26 = .ok (.aload_n 0, 1) := z_dk tdX10_measureUnit_0 15 rfl
theorem dX10_measureUnit_27 : decode cX10_measureUnit 27 = .ok (.getfield 14, 3) := z_dk tdX10_measureUnit_0 16 rfl
theorem dX10_measureUnit_30 : decode cX10_measureUnit 30 = .ok (.iload_n 1, 1) := z_dk tdX10_measureUnit_0 17 rfl
theorem dX10_measureUnit_31 : decode cX10_measureUnit 31 = .ok (.invokevirtual 109, 3) := z_dk tdX10_measureUnit_0 18 rfl
theorem dX10_measureUnit_34 : decode cX10_measureUnit 34 = .ok (.iload 4, 2) := z_dk tdX10_measureUnit_0 19 rfl
theorem dX10_measureUnit_36 : decode cX10_measureUnit 36 = .ok (.invokevirtual 119, 3) := z_dk tdX10_measureUnit_0 20 rfl
theorem dX10_measureUnit_39 : decode cX10_measureUnit 39 = .ok (.ifCond .eq 7, 3) := z_dk tdX10_measureUnit_0 21 rfl
theorem dX10_measureUnit_42 : decode cX10_measureUnit 42 = .ok (.iconst 1, 1) := z_dk tdX10_measureUnit_0 22 rfl
theorem dX10_measureUnit_43 : decode cX10_measureUnit 43 = .ok (.goto 4, 3) := z_dk tdX10_measureUnit_0 23 rfl
theorem tdX10_measureUnit_46 : (([(46, .iconst 0, 1), (47, .istore 5, 2), (49, .iconst 0, 1), (50, .istore 6, 2), (52, .iload_n 2, 1), (53, .istore 7, 2), (55, .iload 7, 2), (57, .iload_n 2, 1), (58, .iload_n 3, 1), (59, .iadd, 1), (60, .if_icmp .ge 73, 3), (63, .iload 4, 2), (65, .ifCond .eq 8, 3), (68, .bipush 12, 2), (70, .goto 26, 3), (73, .aload_n 0, 1), (74, .getfield 14, 3), (77, .iload_n 1, 1), (78, .invokevirtual 109, 3), (81, .aload_n 0, 1), (82, .getfield 59, 3), (85, .getfield 112, 3), (88, .iload 7, 2), (90, .invokevirtual 109, 3)] : List (Nat × Instr × Nat)).all fun e => decide (decode cX10_measureUnit e.1 = .ok e.2)) = true := by decide +kernel
theorem dX10_measureUnit_46 : decode cX10_measureUnit 46 = .ok (.iconst 0, 1) := z_dk tdX10_measureUnit_46 0 rfl
theorem dX10_measureUnit_47 : decode cX10_measureUnit 47 = .ok (.istore 5, 2) := z_dk tdX10_measureUnit_46 1 rfl
theorem dX10_measureUnit_49 : decode cX10_measureUnit 49 = .ok (.iconst 0, 1) := z_dk tdX10_measureUnit_46 2 rfl
theorem dX10_measureUnit_50 : decode cX10_measureUnit 50 = .ok (.istore 6, 2) := z_dk tdX10_measureUnit_46 3 rfl
theorem dX10_measureUnit_52 : decode cX10_measureUnit 52 = .ok (.iload_n 2, 1) := z_dk tdX10_measureUnit_46 4 rfl
theorem dX10_measureUnit_53 : decode cX10_measureUnit 53 = .ok (.istore 7, 2) := z_dk tdX10_measureUnit_46 5 rfl
theorem dX10_measureUnit_55 : decode cX10_measureUnit 55 = .ok (.iload 7, 2) := z_dk tdX10_measureUnit_46 6 rfl
theorem dX10_measureUnit_57 : decode cX10_measureUnit 57 = .ok (.iload_n 2, 1) := z_dk tdX10_measureUnit_46 7 rfl
theorem dX10_measureUnit_58 : decode cX10_measureUnit 58 = .ok (.iload_n 3, 1) := z_dk tdX10_measureUnit_46 8 rfl
theorem dX10_measureUnit_59 : decode cX10_measureUnit 59 = .ok (.iadd, 1) := z_dk tdX10_measureUnit_46 9 rfl
theorem dX10_measureUnit_60 : decode cX10_measureUnit 60 = .ok (.if_icmp .ge 73, 3) := z_dk tdX10_measureUnit_46 10 rfl
theorem dX10_measureUnit_63 : decode cX10_measureUnit 63 = .ok (.iload 4, 2) := z_dk tdX10_measureUnit_46 11 rfl
theorem dX10_measureUnit_65 : decode cX10_measureUnit 65 = .ok (.ifCond .eq 8, 3) := z_dk tdX10_measureUnit_46 12 rfl
theorem dX10_measureUnit_68 : decode cX10_measureUnit 68 = .ok (.bipush 12, 2) := z_dk tdX10_measureUnit_46 13 rfl
theorem dX10_measureUnit_70 : decode cX10_measureUnit 70 = .ok (.goto 26, 3) := z_dk tdX10_measureUnit_46 14 rfl
theorem dX10_measureUnit_73 : decode cX10_measureUnit 73 = .ok (.aload_n 0, 1) := z_dk tdX10_measureUnit_46 15 rfl
theorem dX10_measureUnit_74 : decode cX10_measureUnit 74 = .ok (.getfield 14, 3) := z_dk tdX10_measureUnit_46 16 rfl
theorem dX10_measureUnit_77 : decode cX10_measureUnit 77 = .ok (.iload_n 1, 1) := z_dk tdX10_measureUnit_46 17 rfl
theorem dX10_measureUnit_78 : decode cX10_measureUnit 78 = .ok (.invokevirtual 109, 3) := z_dk tdX10_measureUnit_46 18 rfl
theorem dX10_measureUnit_81 : decode cX10_measureUnit 81 = .ok (.aload_n 0, 1) := z_dk tdX10_measureUnit_46 19 rfl
theorem dX10_measureUnit_82 : decode cX10_measureUnit 82 = .ok (.getfield 59, 3) := z_dk tdX10_measureUnit_46 20 rfl
theorem dX10_measureUnit_85 : decode cX10_measureUnit 85 = .ok (.getfield 112, 3) := z_dk tdX10_measureUnit_46 21 rfl
theorem dX10_measureUnit_88 : decode cX10_measureUnit 88 = .ok (.iload 7, 2) := z_dk tdX10_measureUnit_46 22 rfl
theorem dX10_measureUnit_90 : decode cX10_measureUnit 90 = .ok (.invokevirtual 109, 3) := z_dk tdX10_measureUnit_46 23 rfl
theorem tdX10_measureUnit_93 : (([(93, .invokestatic 123, 3), (96, .istore 8, 2), (98, .aload_n 0, 1), (99, .getfield 53, 3), (102, .iload 7, 2), (104, .iload 8, 2), (106, .invokevirtual 86, 3), (109, .aload_n 0, 1), (110, .getfield 56, 3), (113, .iload 7, 2), (115, .iload 5, 2), (117, .invokevirtual 86, 3), (120, .iload 6, 2), (122, .iload 8, 2), (124, .iadd, 1), (125, .istore 6, 2), (127, .iinc 7 1, 3), (130, .goto (-75), 3), (133, .aload_n 0, 1), (134, .getfield 26, 3), (137, .iload_n 1, 1), (138, .iload 4, 2), (140, .ifCond .eq 8, 3), (143, .bipush 12, 2)] : List (Nat × Instr × Nat)).all fun e => decide (decode cX10_measureUnit e.1 = .ok e.2)) = true := by decide +kernel
theorem dX10_measureUnit_93 : decode cX10_measureUnit 93 = .ok (.invokestatic 123, 3) := z_dk tdX10_measureUnit_93 0 rfl
theorem dX10_measureUnit_96 : decode cX10_measureUnit 96 = .ok (.istore 8, 2) := z_dk tdX10_measureUnit_93 1 rfl
theorem dX10_measureUnit_98 : decode cX10_measureUnit 98 = .ok (.aload_n 0, 1) := z_dk tdX10_measureUnit_93 2 rfl
theorem dX10_measureUnit_99 : decode cX10_measureUnit 99 = .ok (.getfield 53, 3) := z_dk tdX10_measureUnit_93 3 rfl
theorem dX10_measureUnit_102 : decode cX10_measureUnit 102 = .ok (.iload 7, 2) := z_dk tdX10_measureUnit_93 4 rfl
theorem dX10_measureUnit_104 : decode cX10_measureUnit 104 = .ok (.iload 8, 2) := z_dk tdX10_measureUnit_93 5 rfl
theorem dX10_measureUnit_106 : decode cX10_measureUnit 106 = .ok (.invokevirtual 86, 3) := z_dk tdX10_measureUnit_93 6 rfl
theorem dX10_measureUnit_109 : decode cX10_measureUnit 109 = .ok (.aload_n 0, 1) := z_dk tdX10_measureUnit_93 7 rfl
theorem dX10_measureUnit_110 : decode cX10_measureUnit 110 = .ok (.getfield 56, 3) := z_dk tdX10_measureUnit_93 8 rfl
theorem dX10_measureUnit_113 : decode cX10_measureUnit 113 = .ok (.iload 7, 2) := z_dk tdX10_measureUnit_93 9 rfl
theorem dX10_measureUnit_115 : decode cX10_measureUnit 115 = .ok (.iload 5, 2) := z_dk tdX10_measureUnit_93 10 rfl
theorem dX10_measureUnit_117 : decode cX10_measureUnit 117 = .ok (.invokevirtual 86, 3) := z_dk tdX10_measureUnit_93 11 rfl
theorem dX10_measureUnit_120 : decode cX10_measureUnit 120 = .ok (.iload 6, 2) := z_dk tdX10_measureUnit_93 12 rfl
theorem dX10_measureUnit_122 : decode cX10_measureUnit 122 = .ok (.iload 8, 2) := z_dk tdX10_measureUnit_93 13 rfl
theorem dX10_measureUnit_124 : decode cX10_measureUnit 124 = .ok (.iadd, 1) := z_dk tdX10_measureUnit_93 14 rfl
theorem dX10_measureUnit_125 : decode cX10_measureUnit 125 = .ok (.istore 6, 2) := z_dk tdX10_measureUnit_93 15 rfl
theorem dX10_measureUnit_127 : decode cX10_measureUnit 127 = .ok (.iinc 7 1, 3) := z_dk tdX10_measureUnit_93 16 rfl
theorem dX10_measureUnit_130 : decode cX10_measureUnit 130 = .ok (.goto (-75), 3) := z_dk tdX10_measureUnit_93 17 rfl
theorem dX10_measureUnit_133 : decode cX10_measureUnit 133 = .ok (.aload_n 0, 1) := z_dk tdX10_measureUnit_93 18 rfl
theorem dX10_measureUnit_134 : decode cX10_measureUnit 134 = .ok (.getfield 26, 3) := z_dk tdX10_measureUnit_93 19 rfl
theorem dX10_measureUnit_137 : decode cX10_measureUnit 137 = .ok (.iload_n 1, 1) := z_dk tdX10_measureUnit_93 20 rfl
theorem dX10_measureUnit_138 : decode cX10_measureUnit 138 = .ok (.iload 4, 2) := z_dk tdX10_measureUnit_93 21 rfl
theorem dX10_measureUnit_140 : decode cX10_measureUnit 140 = .ok (.ifCond .eq 8, 3) := z_dk tdX10_measureUnit_93 22 rfl
theorem dX10_measureUnit_143 : decode cX10_measureUnit 143 = .ok (.bipush 12, 2) := z_dk tdX10_measureUnit_93 23 rfl
theorem tdX10_measureUnit_145 : (([(145, .goto 5, 3), (148, .iload 6, 2), (150, .invokevirtual 86, 3), (153, .aload_n 0, 1), (154, .getfield 29, 3), (157, .iload_n 1, 1), (158, .aload_n 0, 1), (159, .getfield 59, 3), (162, .getfield 115, 3), (165, .iload_n 2, 1), (166, .invokevirtual 109, 3), (169, .invokevirtual 86, 3), (172, .aload_n 0, 1), (173, .getfield 32, 3), (176, .iload_n 1, 1), (177, .aload_n 0, 1), (178, .getfield 59, 3), (181, .iconst 0, 1), (182, .iload_n 2, 1), (183, .invokevirtual 127, 3), (186, .invokevirtual 86, 3), (189, .aload_n 0, 1), (190, .getfield 35, 3), (193, .iload_n 1, 1)] : List (Nat × Instr × Nat)).all fun e => decide (decode cX10_measureUnit e.1 = .ok e.2)) = true := by decide +kernel
theorem dX10_measureUnit_145 : decode cX10_measureUnit 145 = .ok (.goto 5, 3) := z_dk tdX10_measureUnit_145 0 rfl
theorem dX10_measureUnit_148 : decode cX10_measureUnit 148 = .ok (.iload 6, 2) := z_dk tdX10_measureUnit_145 1 rfl
theorem dX10_measureUnit_150 : decode cX10_measureUnit 150 = .ok (.invokevirtual 86, 3) := z_dk tdX10_measureUnit_145 2 rfl
theorem dX10_measureUnit_153 : decode cX10_measureUnit 153 = .ok (.aload_n 0, 1) := z_dk tdX10_measureUnit_145 3 rfl
theorem dX10_measureUnit_154 : decode cX10_measureUnit 154 = .ok (.getfield 29, 3) := z_dk tdX10_measureUnit_145 4 rfl
theorem dX10_measureUnit_157 : decode cX10_measureUnit 157 = .ok (.iload_n 1, 1) := z_dk tdX10_measureUnit_145 5 rfl
theorem dX10_measureUnit_158 : decode cX10_measureUnit 158 = .ok (.aload_n 0, 1) := z_dk tdX10_measureUnit_145 6 rfl
theorem dX10_measureUnit_159 : decode cX10_measureUnit 159 = .ok (.getfield 59, 3) := z_dk tdX10_measureUnit_145 7 rfl
theorem dX10_measureUnit_162 : decode cX10_measureUnit 162 = .ok (.getfield 115, 3) := z_dk tdX10_measureUnit_145 8 rfl
theorem dX10_measureUnit_165 : decode cX10_measureUnit 165 = .ok (.iload_n 2, 1) := z_dk tdX10_measureUnit_145 9 rfl
theorem dX10_measureUnit_166 : decode cX10_measureUnit 166 = .ok (.invokevirtual 109, 3) := z_dk tdX10_measureUnit_145 10 rfl
theorem dX10_measureUnit_169 : decode cX10_measureUnit 169 = .ok (.invokevirtual 86, 3) := z_dk tdX10_measureUnit_145 11 rfl
theorem dX10_measureUnit_172 : decode cX10_measureUnit 172 = .ok (.aload_n 0, 1) := z_dk tdX10_measureUnit_145 12 rfl
theorem dX10_measureUnit_173 : decode cX10_measureUnit 173 = .ok (.getfield 32, 3) := z_dk tdX10_measureUnit_145 13 rfl
theorem dX10_measureUnit_176 : decode cX10_measureUnit 176 = .ok (.iload_n 1, 1) := z_dk tdX10_measureUnit_145 14 rfl
theorem dX10_measureUnit_177 : decode cX10_measureUnit 177 = .ok (.aload_n 0, 1) := z_dk tdX10_measureUnit_145 15 rfl
theorem dX10_measureUnit_178 : decode cX10_measureUnit 178 = .ok (.getfield 59, 3) := z_dk tdX10_measureUnit_145 16 rfl
theorem dX10_measureUnit_181 : decode cX10_measureUnit 181 = .ok (.iconst 0, 1) := z_dk tdX10_measureUnit_145 17 rfl
theorem dX10_measureUnit_182 : decode cX10_measureUnit 182 = .ok (.iload_n 2, 1) := z_dk tdX10_measureUnit_145 18 rfl
theorem dX10_measureUnit_183 : decode cX10_measureUnit 183 = .ok (.invokevirtual 127, 3) := z_dk tdX10_measureUnit_145 19 rfl
theorem dX10_measureUnit_186 : decode cX10_measureUnit 186 = .ok (.invokevirtual 86, 3) := z_dk tdX10_measureUnit_145 20 rfl
theorem dX10_measureUnit_189 : decode cX10_measureUnit 189 = .ok (.aload_n 0, 1) := z_dk tdX10_measureUnit_145 21 rfl
theorem dX10_measureUnit_190 : decode cX10_measureUnit 190 = .ok (.getfield 35, 3) := z_dk tdX10_measureUnit_145 22 rfl
theorem dX10_measureUnit_193 : decode cX10_measureUnit 193 = .ok (.iload_n 1, 1) := z_dk tdX10_measureUnit_145 23 rfl
theorem tdX10_measureUnit_194 : (([(194, .aload_n 0, 1), (195, .getfield 59, 3), (198, .iconst 1, 1), (199, .iload_n 2, 1), (200, .invokevirtual 127, 3), (203, .invokevirtual 86, 3), (206, .return_, 1)] : List (Nat × Instr × Nat)).all fun e => decide (decode cX10_measureUnit e.1 = .ok e.2)) = true := by decide +kernel
theorem dX10_measureUnit_194 : decode cX10_measureUnit 194 = .ok (.aload_n 0, 1) := z_dk tdX10_measureUnit_194 0 rfl
theorem dX10_measureUnit_195 : decode cX10_measureUnit 195 = .ok (.getfield 59, 3) := z_dk tdX10_measureUnit_194 1 rfl
theorem dX10_measureUnit_198 : decode cX10_measureUnit 198 = .ok (.iconst 1, 1) := z_dk tdX10_measureUnit_194 2 rfl
theorem dX10_measureUnit_199 : decode cX10_measureUnit 199 = .ok (.iload_n 2, 1) := z_dk tdX10_measureUnit_194 3 rfl
theorem dX10_measureUnit_200 : decode cX10_measureUnit 200 = .ok (.invokevirtual 127, 3) := z_dk tdX10_measureUnit_194 4 rfl
theorem dX10_measureUnit_203 : decode cX10_measureUnit 203 = .ok (.invokevirtual 86, 3) := z_dk tdX10_measureUnit_194 5 rfl
theorem dX10_measureUnit_206 : decode cX10_measureUnit 206 = .ok (.return_, 1) := z_dk tdX10_measureUnit_194 6 rfl
theorem tdX10_isAcross_0 : (([(0, .aload_n 0, 1), (1, .getfield 14, 3), (4, .iload_n 1, 1), (5, .invokevirtual 109, 3), (8, .iconst 2, 1), (9, .if_icmp .ne 38, 3), (12, .aload_n 0, 1), (13, .getfield 63, 3), (16, .iconst 5, 1), (17, .invokevirtual 109, 3), (20, .iconst 1, 1), (21, .if_icmp .ne 26, 3), (24, .aload_n 0, 1), (25, .getfield 23, 3), (28, .iload_n 1, 1), (29, .invokevirtual 109, 3), (32, .aload_n 0, 1), (33, .getfield 63, 3), (36, .iconst 1, 1), (37, .invokevirtual 109, 3), (40, .if_icmp .gt 7, 3), (43, .iconst 1, 1), (44, .goto 4, 3), (47, .iconst 0, 1)] : List (Nat × Instr × Nat)).all fun e => decide (decode cX10_isAcross e.1 = .ok e.2)) = true := by decide +kernel
theorem dX10_isAcross_0 : decode cX10_isAcross 0 = .ok (.aload_n 0, 1) := z_dk tdX10_isAcross_0 0 rfl
theorem dX10_isAcross_1 : decode cX10_isAcross 1 = .ok (.getfield 14, 3) := z_dk tdX10_isAcross_0 1 rfl
theorem dX10_isAcross_4 : decode cX10_isAcross 4 = .ok (.iload_n 1, 1) := z_dk tdX10_isAcross_0 2 rfl
theorem dX10_isAcross_5 : decode cX10_isAcross 5 = .ok (.invokevirtual 109, 3) := z_dk tdX10_isAcross_0 3 rfl
theorem dX10_isAcross_8 : decode cX10_isAcross 8 = .ok (.iconst 2, 1) := z_dk tdX10_isAcross_0 4 rfl
theorem dX10_isAcross_9 : decode cX10_isAcross 9 = .ok (.if_icmp .ne 38, 3) := z_dk tdX10_isAcross_0 5 rfl
theorem dX10_isAcross_12 : decode cX10_isAcross 12 = .ok (.aload_n 0, 1) := z_dk tdX10_isAcross_0 6 rfl
theorem dX10_isAcross_13 : decode cX10_isAcross 13 = .ok (.getfield 63, 3) := z_dk tdX10_isAcross_0 7 rfl
theorem dX10_isAcross_16 : decode cX10_isAcross 16 = .ok (.iconst 5, 1) := z_dk tdX10_isAcross_0 8 rfl
theorem dX10_isAcross_17 : decode cX10_isAcross 17 = .ok (.invokevirtual 109, 3) := z_dk tdX10_isAcross_0 9 rfl
theorem dX10_isAcross_20 : decode cX10_isAcross 20 = .ok (.iconst 1, 1) := z_dk tdX10_isAcross_0 10 rfl
theorem dX10_isAcross_21 : decode cX10_isAcross 21 = .ok (.if_icmp .ne 26, 3) := z_dk tdX10_isAcross_0 11 rfl
theorem dX10_isAcross_24 : decode cX10_isAcross 24 = .ok (.aload_n 0, 1) := z_dk tdX10_isAcross_0 12 rfl
theorem dX10_isAcross_25 : decode cX10_isAcross 25 = .ok (.getfield 23, 3) := z_dk tdX10_isAcross_0 13 rfl
theorem dX10_isAcross_28 : decode cX10_isAcross 28 = .ok (.iload_n 1, 1) := z_dk tdX10_isAcross_0 14 rfl
theorem dX10_isAcross_29 : decode cX10_isAcross 29 = .ok (.invokevirtual 109, 3) := z_dk tdX10_isAcross_0 15 rfl
theorem dX10_isAcross_32 : decode cX10_isAcross 32 = .ok (.aload_n 0, 1) := z_dk tdX10_isAcross_0 16 rfl
theorem dX10_isAcross_33 : decode cX10_isAcross 33 = .ok (.getfield 63, 3) := z_dk tdX10_isAcross_0 17 rfl
theorem dX10_isAcross_36 : decode cX10_isAcross 36 = .ok (.iconst 1, 1) := z_dk tdX10_isAcross_0 18 rfl
theorem dX10_isAcross_37 : decode cX10_isAcross 37 = .ok (.invokevirtual 109, 3) := z_dk tdX10_isAcross_0 19 rfl
theorem dX10_isAcross_40 : decode cX10_isAcross 40 = .ok (.if_icmp .gt 7, 3) := z_dk tdX10_isAcross_0 20 rfl
theorem dX10_isAcross_43 : decode cX10_isAcross 43 = .ok (.iconst 1, 1) := z_dk tdX10_isAcross_0 21 rfl
theorem dX10_isAcross_44 : decode cX10_isAcross 44 = .ok (.goto 4, 3) := z_dk tdX10_isAcross_0 22 rfl
theorem dX10_isAcross_47 : decode cX10_isAcross 47 = .ok (.iconst 0, 1) := z_dk tdX10_isAcross_0 23 rfl
theorem tdX10_isAcross_48 : (([(48, .ireturn, 1)] : List (Nat × Instr × Nat)).all fun e => decide (decode cX10_isAcross e.1 = .ok e.2)) = true := by decide +kernel
theorem dX10_isAcross_48 : decode cX10_isAcross 48 = .ok (.ireturn, 1) := z_dk tdX10_isAcross_48 0 rfl
theorem tdX10_isTurned_0 : (([(0, .iload_n 1, 1), (1, .iconst 1, 1), (2, .if_icmp .eq 22, 3), (5, .iload_n 1, 1), (6, .iconst 2, 1), (7, .if_icmp .ne 7, 3), (10, .iload_n 2, 1), (11, .ifCond .eq 13, 3), (14, .iload_n 1, 1), (15, .iconst 4, 1), (16, .if_icmp .eq 8, 3), (19, .iload_n 1, 1), (20, .iconst 5, 1), (21, .if_icmp .ne 7, 3), (24, .iconst 1, 1), (25, .goto 4, 3), (28, .iconst 0, 1), (29, .istore_n 3, 1), (30, .iload_n 3, 1), (31, .ifCond .eq 19, 3), (34, .aload_n 0, 1), (35, .getfield 63, 3), (38, .iconst 5, 1), (39, .invokevirtual 109, 3)] : List (Nat × Instr × Nat)).all fun e => decide (decode cX10_isTurned e.1 = .ok e.2)) = true := by decide +kernel
theorem dX10_isTurned_0 : decode cX10_isTurned 0 = .ok (.iload_n 1, 1) := z_dk tdX10_isTurned_0 0 rfl
theorem dX10_isTurned_1 : decode cX10_isTurned 1 = .ok (.iconst 1, 1) := z_dk tdX10_isTurned_0 1 rfl
theorem dX10_isTurned_2 : decode cX10_isTurned 2 = .ok (.if_icmp .eq 22, 3) := z_dk tdX10_isTurned_0 2 rfl
theorem dX10_isTurned_5 : decode cX10_isTurned 5 = .ok (.iload_n 1, 1) := z_dk tdX10_isTurned_0 3 rfl
theorem dX10_isTurned_6 : decode cX10_isTurned 6 = .ok (.iconst 2, 1) := z_dk tdX10_isTurned_0 4 rfl
theorem dX10_isTurned_7 : decode cX10_isTurned 7 = .ok (.if_icmp .ne 7, 3) := z_dk tdX10_isTurned_0 5 rfl
theorem dX10_isTurned_10 : decode cX10_isTurned 10 = .ok (.iload_n 2, 1) := z_dk tdX10_isTurned_0 6 rfl
theorem dX10_isTurned_11 : decode cX10_isTurned 11 = .ok (.ifCond .eq 13, 3) := z_dk tdX10_isTurned_0 7 rfl
theorem dX10_isTurned_14 : decode cX10_isTurned 14 = .ok (.iload_n 1, 1) := z_dk tdX10_isTurned_0 8 rfl
theorem dX10_isTurned_15 : decode cX10_isTurned 15 = .ok (.iconst 4, 1) := z_dk tdX10_isTurned_0 9 rfl
theorem dX10_isTurned_16 : decode cX10_isTurned 16 = .ok (.if_icmp .eq 8, 3) := z_dk tdX10_isTurned_0 10 rfl
theorem dX10_isTurned_19 : decode cX10_isTurned 19 = .ok (.iload_n 1, 1) := z_dk tdX10_isTurned_0 11 rfl
theorem dX10_isTurned_20 : decode cX10_isTurned 20 = .ok (.iconst 5, 1) := z_dk tdX10_isTurned_0 12 rfl
theorem dX10_isTurned_21 : decode cX10_isTurned 21 = .ok (.if_icmp .ne 7, 3) := z_dk tdX10_isTurned_0 13 rfl
theorem dX10_isTurned_24 : decode cX10_isTurned 24 = .ok (.iconst 1, 1) := z_dk tdX10_isTurned_0 14 rfl
theorem dX10_isTurned_25 : decode cX10_isTurned 25 = .ok (.goto 4, 3) := z_dk tdX10_isTurned_0 15 rfl
theorem dX10_isTurned_28 : decode cX10_isTurned 28 = .ok (.iconst 0, 1) := z_dk tdX10_isTurned_0 16 rfl
theorem dX10_isTurned_29 : decode cX10_isTurned 29 = .ok (.istore_n 3, 1) := z_dk tdX10_isTurned_0 17 rfl
theorem dX10_isTurned_30 : decode cX10_isTurned 30 = .ok (.iload_n 3, 1) := z_dk tdX10_isTurned_0 18 rfl
theorem dX10_isTurned_31 : decode cX10_isTurned 31 = .ok (.ifCond .eq 19, 3) := z_dk tdX10_isTurned_0 19 rfl
theorem dX10_isTurned_34 : decode cX10_isTurned 34 = .ok (.aload_n 0, 1) := z_dk tdX10_isTurned_0 20 rfl
theorem dX10_isTurned_35 : decode cX10_isTurned 35 = .ok (.getfield 63, 3) := z_dk tdX10_isTurned_0 21 rfl
theorem dX10_isTurned_38 : decode cX10_isTurned 38 = .ok (.iconst 5, 1) := z_dk tdX10_isTurned_0 22 rfl
theorem dX10_isTurned_39 : decode cX10_isTurned 39 = .ok (.invokevirtual 109, 3) := z_dk tdX10_isTurned_0 23 rfl
theorem tdX10_isTurned_42 : (([(42, .iconst 1, 1), (43, .if_icmp .ne 7, 3), (46, .iconst 1, 1), (47, .goto 4, 3), (50, .iconst 0, 1), (51, .ireturn, 1)] : List (Nat × Instr × Nat)).all fun e => decide (decode cX10_isTurned e.1 = .ok e.2)) = true := by decide +kernel
theorem dX10_isTurned_42 : decode cX10_isTurned 42 = .ok (.iconst 1, 1) := z_dk tdX10_isTurned_42 0 rfl
theorem dX10_isTurned_43 : decode cX10_isTurned 43 = .ok (.if_icmp .ne 7, 3) := z_dk tdX10_isTurned_42 1 rfl
theorem dX10_isTurned_46 : decode cX10_isTurned 46 = .ok (.iconst 1, 1) := z_dk tdX10_isTurned_42 2 rfl
theorem dX10_isTurned_47 : decode cX10_isTurned 47 = .ok (.goto 4, 3) := z_dk tdX10_isTurned_42 3 rfl
theorem dX10_isTurned_50 : decode cX10_isTurned 50 = .ok (.iconst 0, 1) := z_dk tdX10_isTurned_42 4 rfl
theorem dX10_isTurned_51 : decode cX10_isTurned 51 = .ok (.ireturn, 1) := z_dk tdX10_isTurned_42 5 rfl
theorem tdX10_longOfSign_0 : (([(0, .iload_n 0, 1), (1, .ifCond .eq 9, 3), (4, .iload_n 0, 1), (5, .bipush 7, 2), (7, .if_icmp .ne 6, 3), (10, .bipush 12, 2), (12, .ireturn, 1), (13, .iload_n 1, 1), (14, .bipush 105, 2), (16, .if_icmp .eq 21, 3), (19, .iload_n 1, 1), (20, .bipush 106, 2), (22, .if_icmp .eq 15, 3), (25, .iload_n 1, 1), (26, .bipush 108, 2), (28, .if_icmp .eq 9, 3), (31, .iload_n 0, 1), (32, .bipush 6, 2), (34, .if_icmp .ne 5, 3), (37, .iconst 4, 1), (38, .ireturn, 1), (39, .iload_n 1, 1), (40, .bipush 109, 2), (42, .if_icmp .eq 9, 3)] : List (Nat × Instr × Nat)).all fun e => decide (decode cX10_longOfSign e.1 = .ok e.2)) = true := by decide +kernel
theorem dX10_longOfSign_0 : decode cX10_longOfSign 0 = .ok (.iload_n 0, 1) := z_dk tdX10_longOfSign_0 0 rfl
theorem dX10_longOfSign_1 : decode cX10_longOfSign 1 = .ok (.ifCond .eq 9, 3) := z_dk tdX10_longOfSign_0 1 rfl
theorem dX10_longOfSign_4 : decode cX10_longOfSign 4 = .ok (.iload_n 0, 1) := z_dk tdX10_longOfSign_0 2 rfl
theorem dX10_longOfSign_5 : decode cX10_longOfSign 5 = .ok (.bipush 7, 2) := z_dk tdX10_longOfSign_0 3 rfl
theorem dX10_longOfSign_7 : decode cX10_longOfSign 7 = .ok (.if_icmp .ne 6, 3) := z_dk tdX10_longOfSign_0 4 rfl
theorem dX10_longOfSign_10 : decode cX10_longOfSign 10 = .ok (.bipush 12, 2) := z_dk tdX10_longOfSign_0 5 rfl
theorem dX10_longOfSign_12 : decode cX10_longOfSign 12 = .ok (.ireturn, 1) := z_dk tdX10_longOfSign_0 6 rfl
theorem dX10_longOfSign_13 : decode cX10_longOfSign 13 = .ok (.iload_n 1, 1) := z_dk tdX10_longOfSign_0 7 rfl
theorem dX10_longOfSign_14 : decode cX10_longOfSign 14 = .ok (.bipush 105, 2) := z_dk tdX10_longOfSign_0 8 rfl
theorem dX10_longOfSign_16 : decode cX10_longOfSign 16 = .ok (.if_icmp .eq 21, 3) := z_dk tdX10_longOfSign_0 9 rfl
theorem dX10_longOfSign_19 : decode cX10_longOfSign 19 = .ok (.iload_n 1, 1) := z_dk tdX10_longOfSign_0 10 rfl
theorem dX10_longOfSign_20 : decode cX10_longOfSign 20 = .ok (.bipush 106, 2) := z_dk tdX10_longOfSign_0 11 rfl
theorem dX10_longOfSign_22 : decode cX10_longOfSign 22 = .ok (.if_icmp .eq 15, 3) := z_dk tdX10_longOfSign_0 12 rfl
theorem dX10_longOfSign_25 : decode cX10_longOfSign 25 = .ok (.iload_n 1, 1) := z_dk tdX10_longOfSign_0 13 rfl
theorem dX10_longOfSign_26 : decode cX10_longOfSign 26 = .ok (.bipush 108, 2) := z_dk tdX10_longOfSign_0 14 rfl
theorem dX10_longOfSign_28 : decode cX10_longOfSign 28 = .ok (.if_icmp .eq 9, 3) := z_dk tdX10_longOfSign_0 15 rfl
theorem dX10_longOfSign_31 : decode cX10_longOfSign 31 = .ok (.iload_n 0, 1) := z_dk tdX10_longOfSign_0 16 rfl
theorem dX10_longOfSign_32 : decode cX10_longOfSign 32 = .ok (.bipush 6, 2) := z_dk tdX10_longOfSign_0 17 rfl
theorem dX10_longOfSign_34 : decode cX10_longOfSign 34 = .ok (.if_icmp .ne 5, 3) := z_dk tdX10_longOfSign_0 18 rfl
theorem dX10_longOfSign_37 : decode cX10_longOfSign 37 = .ok (.iconst 4, 1) := z_dk tdX10_longOfSign_0 19 rfl
theorem dX10_longOfSign_38 : decode cX10_longOfSign 38 = .ok (.ireturn, 1) := z_dk tdX10_longOfSign_0 20 rfl
theorem dX10_longOfSign_39 : decode cX10_longOfSign 39 = .ok (.iload_n 1, 1) := z_dk tdX10_longOfSign_0 21 rfl
theorem dX10_longOfSign_40 : decode cX10_longOfSign 40 = .ok (.bipush 109, 2) := z_dk tdX10_longOfSign_0 22 rfl
theorem dX10_longOfSign_42 : decode cX10_longOfSign 42 = .ok (.if_icmp .eq 9, 3) := z_dk tdX10_longOfSign_0 23 rfl
theorem tdX10_longOfSign_45 : (([(45, .iload_n 1, 1), (46, .bipush 119, 2), (48, .if_icmp .ne 8, 3), (51, .bipush 9, 2), (53, .goto 5, 3), (56, .bipush 6, 2), (58, .ireturn, 1)] : List (Nat × Instr × Nat)).all fun e => decide (decode cX10_longOfSign e.1 = .ok e.2)) = true := by decide +kernel
theorem dX10_longOfSign_45 : decode cX10_longOfSign 45 = .ok (.iload_n 1, 1) := z_dk tdX10_longOfSign_45 0 rfl
theorem dX10_longOfSign_46 : decode cX10_longOfSign 46 = .ok (.bipush 119, 2) := z_dk tdX10_longOfSign_45 1 rfl
theorem dX10_longOfSign_48 : decode cX10_longOfSign 48 = .ok (.if_icmp .ne 8, 3) := z_dk tdX10_longOfSign_45 2 rfl
theorem dX10_longOfSign_51 : decode cX10_longOfSign 51 = .ok (.bipush 9, 2) := z_dk tdX10_longOfSign_45 3 rfl
theorem dX10_longOfSign_53 : decode cX10_longOfSign 53 = .ok (.goto 5, 3) := z_dk tdX10_longOfSign_45 4 rfl
theorem dX10_longOfSign_56 : decode cX10_longOfSign 56 = .ok (.bipush 6, 2) := z_dk tdX10_longOfSign_45 5 rfl
theorem dX10_longOfSign_58 : decode cX10_longOfSign 58 = .ok (.ireturn, 1) := z_dk tdX10_longOfSign_45 6 rfl
theorem tdX10_addUp_0 : (([(0, .iconst 0, 1), (1, .istore_n 1, 1), (2, .iload_n 1, 1), (3, .aload_n 0, 1), (4, .getfield 69, 3), (7, .if_icmp .ge 102, 3), (10, .aload_n 0, 1), (11, .getfield 14, 3), (14, .iload_n 1, 1), (15, .invokevirtual 109, 3), (18, .bipush 6, 2), (20, .if_icmp .eq 15, 3), (23, .aload_n 0, 1), (24, .getfield 14, 3), (27, .iload_n 1, 1), (28, .invokevirtual 109, 3), (31, .iconst 3, 1), (32, .if_icmp .ne 7, 3), (35, .iconst 1, 1), (36, .goto 4, 3), (39, .iconst 0, 1), (40, .istore_n 2, 1), (41, .aload_n 0, 1), (42, .getfield 44, 3)] : List (Nat × Instr × Nat)).all fun e => decide (decode cX10_addUp e.1 = .ok e.2)) = true := by decide +kernel
theorem dX10_addUp_0 : decode cX10_addUp 0 = .ok (.iconst 0, 1) := z_dk tdX10_addUp_0 0 rfl
theorem dX10_addUp_1 : decode cX10_addUp 1 = .ok (.istore_n 1, 1) := z_dk tdX10_addUp_0 1 rfl
theorem dX10_addUp_2 : decode cX10_addUp 2 = .ok (.iload_n 1, 1) := z_dk tdX10_addUp_0 2 rfl
theorem dX10_addUp_3 : decode cX10_addUp 3 = .ok (.aload_n 0, 1) := z_dk tdX10_addUp_0 3 rfl
theorem dX10_addUp_4 : decode cX10_addUp 4 = .ok (.getfield 69, 3) := z_dk tdX10_addUp_0 4 rfl
theorem dX10_addUp_7 : decode cX10_addUp 7 = .ok (.if_icmp .ge 102, 3) := z_dk tdX10_addUp_0 5 rfl
theorem dX10_addUp_10 : decode cX10_addUp 10 = .ok (.aload_n 0, 1) := z_dk tdX10_addUp_0 6 rfl
theorem dX10_addUp_11 : decode cX10_addUp 11 = .ok (.getfield 14, 3) := z_dk tdX10_addUp_0 7 rfl
theorem dX10_addUp_14 : decode cX10_addUp 14 = .ok (.iload_n 1, 1) := z_dk tdX10_addUp_0 8 rfl
theorem dX10_addUp_15 : decode cX10_addUp 15 = .ok (.invokevirtual 109, 3) := z_dk tdX10_addUp_0 9 rfl
theorem dX10_addUp_18 : decode cX10_addUp 18 = .ok (.bipush 6, 2) := z_dk tdX10_addUp_0 10 rfl
theorem dX10_addUp_20 : decode cX10_addUp 20 = .ok (.if_icmp .eq 15, 3) := z_dk tdX10_addUp_0 11 rfl
theorem dX10_addUp_23 : decode cX10_addUp 23 = .ok (.aload_n 0, 1) := z_dk tdX10_addUp_0 12 rfl
theorem dX10_addUp_24 : decode cX10_addUp 24 = .ok (.getfield 14, 3) := z_dk tdX10_addUp_0 13 rfl
theorem dX10_addUp_27 : decode cX10_addUp 27 = .ok (.iload_n 1, 1) := z_dk tdX10_addUp_0 14 rfl
theorem dX10_addUp_28 : decode cX10_addUp 28 = .ok (.invokevirtual 109, 3) := z_dk tdX10_addUp_0 15 rfl
theorem dX10_addUp_31 : decode cX10_addUp 31 = .ok (.iconst 3, 1) := z_dk tdX10_addUp_0 16 rfl
theorem dX10_addUp_32 : decode cX10_addUp 32 = .ok (.if_icmp .ne 7, 3) := z_dk tdX10_addUp_0 17 rfl
theorem dX10_addUp_35 : decode cX10_addUp 35 = .ok (.iconst 1, 1) := z_dk tdX10_addUp_0 18 rfl
theorem dX10_addUp_36 : decode cX10_addUp 36 = .ok (.goto 4, 3) := z_dk tdX10_addUp_0 19 rfl
theorem dX10_addUp_39 : decode cX10_addUp 39 = .ok (.iconst 0, 1) := z_dk tdX10_addUp_0 20 rfl
theorem dX10_addUp_40 : decode cX10_addUp 40 = .ok (.istore_n 2, 1) := z_dk tdX10_addUp_0 21 rfl
theorem dX10_addUp_41 : decode cX10_addUp 41 = .ok (.aload_n 0, 1) := z_dk tdX10_addUp_0 22 rfl
theorem dX10_addUp_42 : decode cX10_addUp 42 = .ok (.getfield 44, 3) := z_dk tdX10_addUp_0 23 rfl
theorem tdX10_addUp_45 : (([(45, .iload_n 1, 1), (46, .iconst 1, 1), (47, .iadd, 1), (48, .aload_n 0, 1), (49, .getfield 44, 3), (52, .iload_n 1, 1), (53, .invokevirtual 109, 3), (56, .aload_n 0, 1), (57, .getfield 26, 3), (60, .iload_n 1, 1), (61, .invokevirtual 109, 3), (64, .iadd, 1), (65, .invokevirtual 86, 3), (68, .aload_n 0, 1), (69, .getfield 47, 3), (72, .iload_n 1, 1), (73, .iconst 1, 1), (74, .iadd, 1), (75, .aload_n 0, 1), (76, .getfield 47, 3), (79, .iload_n 1, 1), (80, .invokevirtual 109, 3), (83, .iload_n 2, 1), (84, .ifCond .eq 7, 3)] : List (Nat × Instr × Nat)).all fun e => decide (decode cX10_addUp e.1 = .ok e.2)) = true := by decide +kernel
theorem dX10_addUp_45 : decode cX10_addUp 45 = .ok (.iload_n 1, 1) := z_dk tdX10_addUp_45 0 rfl
theorem dX10_addUp_46 : decode cX10_addUp 46 = .ok (.iconst 1, 1) := z_dk tdX10_addUp_45 1 rfl
theorem dX10_addUp_47 : decode cX10_addUp 47 = .ok (.iadd, 1) := z_dk tdX10_addUp_45 2 rfl
theorem dX10_addUp_48 : decode cX10_addUp 48 = .ok (.aload_n 0, 1) := z_dk tdX10_addUp_45 3 rfl
theorem dX10_addUp_49 : decode cX10_addUp 49 = .ok (.getfield 44, 3) := z_dk tdX10_addUp_45 4 rfl
theorem dX10_addUp_52 : decode cX10_addUp 52 = .ok (.iload_n 1, 1) := z_dk tdX10_addUp_45 5 rfl
theorem dX10_addUp_53 : decode cX10_addUp 53 = .ok (.invokevirtual 109, 3) := z_dk tdX10_addUp_45 6 rfl
theorem dX10_addUp_56 : decode cX10_addUp 56 = .ok (.aload_n 0, 1) := z_dk tdX10_addUp_45 7 rfl
theorem dX10_addUp_57 : decode cX10_addUp 57 = .ok (.getfield 26, 3) := z_dk tdX10_addUp_45 8 rfl
theorem dX10_addUp_60 : decode cX10_addUp 60 = .ok (.iload_n 1, 1) := z_dk tdX10_addUp_45 9 rfl
theorem dX10_addUp_61 : decode cX10_addUp 61 = .ok (.invokevirtual 109, 3) := z_dk tdX10_addUp_45 10 rfl
theorem dX10_addUp_64 : decode cX10_addUp 64 = .ok (.iadd, 1) := z_dk tdX10_addUp_45 11 rfl
theorem dX10_addUp_65 : decode cX10_addUp 65 = .ok (.invokevirtual 86, 3) := z_dk tdX10_addUp_45 12 rfl
theorem dX10_addUp_68 : decode cX10_addUp 68 = .ok (.aload_n 0, 1) := z_dk tdX10_addUp_45 13 rfl
theorem dX10_addUp_69 : decode cX10_addUp 69 = .ok (.getfield 47, 3) := z_dk tdX10_addUp_45 14 rfl
theorem dX10_addUp_72 : decode cX10_addUp 72 = .ok (.iload_n 1, 1) := z_dk tdX10_addUp_45 15 rfl
theorem dX10_addUp_73 : decode cX10_addUp 73 = .ok (.iconst 1, 1) := z_dk tdX10_addUp_45 16 rfl
theorem dX10_addUp_74 : decode cX10_addUp 74 = .ok (.iadd, 1) := z_dk tdX10_addUp_45 17 rfl
theorem dX10_addUp_75 : decode cX10_addUp 75 = .ok (.aload_n 0, 1) := z_dk tdX10_addUp_45 18 rfl
theorem dX10_addUp_76 : decode cX10_addUp 76 = .ok (.getfield 47, 3) := z_dk tdX10_addUp_45 19 rfl
theorem dX10_addUp_79 : decode cX10_addUp 79 = .ok (.iload_n 1, 1) := z_dk tdX10_addUp_45 20 rfl
theorem dX10_addUp_80 : decode cX10_addUp 80 = .ok (.invokevirtual 109, 3) := z_dk tdX10_addUp_45 21 rfl
theorem dX10_addUp_83 : decode cX10_addUp 83 = .ok (.iload_n 2, 1) := z_dk tdX10_addUp_45 22 rfl
theorem dX10_addUp_84 : decode cX10_addUp 84 = .ok (.ifCond .eq 7, 3) := z_dk tdX10_addUp_45 23 rfl
theorem tdX10_addUp_87 : (([(87, .iconst 0, 1), (88, .goto 11, 3), (91, .aload_n 0, 1), (92, .getfield 26, 3), (95, .iload_n 1, 1), (96, .invokevirtual 109, 3), (99, .iadd, 1), (100, .invokevirtual 86, 3), (103, .iinc 1 1, 3), (106, .goto (-104), 3), (109, .return_, 1)] : List (Nat × Instr × Nat)).all fun e => decide (decode cX10_addUp e.1 = .ok e.2)) = true := by decide +kernel
theorem dX10_addUp_87 : decode cX10_addUp 87 = .ok (.iconst 0, 1) := z_dk tdX10_addUp_87 0 rfl
theorem dX10_addUp_88 : decode cX10_addUp 88 = .ok (.goto 11, 3) := z_dk tdX10_addUp_87 1 rfl
theorem dX10_addUp_91 : decode cX10_addUp 91 = .ok (.aload_n 0, 1) := z_dk tdX10_addUp_87 2 rfl
theorem dX10_addUp_92 : decode cX10_addUp 92 = .ok (.getfield 26, 3) := z_dk tdX10_addUp_87 3 rfl
theorem dX10_addUp_95 : decode cX10_addUp 95 = .ok (.iload_n 1, 1) := z_dk tdX10_addUp_87 4 rfl
theorem dX10_addUp_96 : decode cX10_addUp 96 = .ok (.invokevirtual 109, 3) := z_dk tdX10_addUp_87 5 rfl
theorem dX10_addUp_99 : decode cX10_addUp 99 = .ok (.iadd, 1) := z_dk tdX10_addUp_87 6 rfl
theorem dX10_addUp_100 : decode cX10_addUp 100 = .ok (.invokevirtual 86, 3) := z_dk tdX10_addUp_87 7 rfl
theorem dX10_addUp_103 : decode cX10_addUp 103 = .ok (.iinc 1 1, 3) := z_dk tdX10_addUp_87 8 rfl
theorem dX10_addUp_106 : decode cX10_addUp 106 = .ok (.goto (-104), 3) := z_dk tdX10_addUp_87 9 rfl
theorem dX10_addUp_109 : decode cX10_addUp 109 = .ok (.return_, 1) := z_dk tdX10_addUp_87 10 rfl
theorem tdX10_pairUp_0 : (([(0, .aload_n 0, 1), (1, .iconst 0, 1), (2, .putfield 130, 3), (5, .iconst 0, 1), (6, .istore_n 1, 1), (7, .iload_n 1, 1), (8, .aload_n 0, 1), (9, .getfield 69, 3), (12, .if_icmp .ge 73, 3), (15, .aload_n 0, 1), (16, .getfield 38, 3), (19, .iload_n 1, 1), (20, .iconst (-1), 1), (21, .invokevirtual 86, 3), (24, .aload_n 0, 1), (25, .getfield 14, 3), (28, .iload_n 1, 1), (29, .invokevirtual 109, 3), (32, .iconst 5, 1), (33, .if_icmp .ne 11, 3), (36, .aload_n 0, 1), (37, .iload_n 1, 1), (38, .invokevirtual 133, 3), (41, .goto 4, 3)] : List (Nat × Instr × Nat)).all fun e => decide (decode cX10_pairUp e.1 = .ok e.2)) = true := by decide +kernel
theorem dX10_pairUp_0 : decode cX10_pairUp 0 = .ok (.aload_n 0, 1) := z_dk tdX10_pairUp_0 0 rfl
theorem dX10_pairUp_1 : decode cX10_pairUp 1 = .ok (.iconst 0, 1) := z_dk tdX10_pairUp_0 1 rfl
theorem dX10_pairUp_2 : decode cX10_pairUp 2 = .ok (.putfield 130, 3) := z_dk tdX10_pairUp_0 2 rfl
theorem dX10_pairUp_5 : decode cX10_pairUp 5 = .ok (.iconst 0, 1) := z_dk tdX10_pairUp_0 3 rfl
theorem dX10_pairUp_6 : decode cX10_pairUp 6 = .ok (.istore_n 1, 1) := z_dk tdX10_pairUp_0 4 rfl
theorem dX10_pairUp_7 : decode cX10_pairUp 7 = .ok (.iload_n 1, 1) := z_dk tdX10_pairUp_0 5 rfl
theorem dX10_pairUp_8 : decode cX10_pairUp 8 = .ok (.aload_n 0, 1) := z_dk tdX10_pairUp_0 6 rfl
theorem dX10_pairUp_9 : decode cX10_pairUp 9 = .ok (.getfield 69, 3) := z_dk tdX10_pairUp_0 7 rfl
theorem dX10_pairUp_12 : decode cX10_pairUp 12 = .ok (.if_icmp .ge 73, 3) := z_dk tdX10_pairUp_0 8 rfl
theorem dX10_pairUp_15 : decode cX10_pairUp 15 = .ok (.aload_n 0, 1) := z_dk tdX10_pairUp_0 9 rfl
theorem dX10_pairUp_16 : decode cX10_pairUp 16 = .ok (.getfield 38, 3) := z_dk tdX10_pairUp_0 10 rfl
theorem dX10_pairUp_19 : decode cX10_pairUp 19 = .ok (.iload_n 1, 1) := z_dk tdX10_pairUp_0 11 rfl
theorem dX10_pairUp_20 : decode cX10_pairUp 20 = .ok (.iconst (-1), 1) := z_dk tdX10_pairUp_0 12 rfl
theorem dX10_pairUp_21 : decode cX10_pairUp 21 = .ok (.invokevirtual 86, 3) := z_dk tdX10_pairUp_0 13 rfl
theorem dX10_pairUp_24 : decode cX10_pairUp 24 = .ok (.aload_n 0, 1) := z_dk tdX10_pairUp_0 14 rfl
theorem dX10_pairUp_25 : decode cX10_pairUp 25 = .ok (.getfield 14, 3) := z_dk tdX10_pairUp_0 15 rfl
theorem dX10_pairUp_28 : decode cX10_pairUp 28 = .ok (.iload_n 1, 1) := z_dk tdX10_pairUp_0 16 rfl
theorem dX10_pairUp_29 : decode cX10_pairUp 29 = .ok (.invokevirtual 109, 3) := z_dk tdX10_pairUp_0 17 rfl
theorem dX10_pairUp_32 : decode cX10_pairUp 32 = .ok (.iconst 5, 1) := z_dk tdX10_pairUp_0 18 rfl
theorem dX10_pairUp_33 : decode cX10_pairUp 33 = .ok (.if_icmp .ne 11, 3) := z_dk tdX10_pairUp_0 19 rfl
theorem dX10_pairUp_36 : decode cX10_pairUp 36 = .ok (.aload_n 0, 1) := z_dk tdX10_pairUp_0 20 rfl
theorem dX10_pairUp_37 : decode cX10_pairUp 37 = .ok (.iload_n 1, 1) := z_dk tdX10_pairUp_0 21 rfl
theorem dX10_pairUp_38 : decode cX10_pairUp 38 = .ok (.invokevirtual 133, 3) := z_dk tdX10_pairUp_0 22 rfl
theorem dX10_pairUp_41 : decode cX10_pairUp 41 = .ok (.goto 4, 3) := z_dk tdX10_pairUp_0 23 rfl
theorem tdX10_pairUp_44 : (([(44, .iconst (-1), 1), (45, .istore_n 2, 1), (46, .iload_n 2, 1), (47, .iconst (-1), 1), (48, .if_icmp .eq 31, 3), (51, .aload_n 0, 1), (52, .getfield 38, 3), (55, .iload_n 1, 1), (56, .iload_n 2, 1), (57, .invokevirtual 86, 3), (60, .aload_n 0, 1), (61, .getfield 38, 3), (64, .iload_n 2, 1), (65, .iload_n 1, 1), (66, .invokevirtual 86, 3), (69, .aload_n 0, 1), (70, .dup, 1), (71, .getfield 130, 3), (74, .iconst 1, 1), (75, .iadd, 1), (76, .putfield 130, 3), (79, .iinc 1 1, 3), (82, .goto (-75), 3), (85, .return_, 1)] : List (Nat × Instr × Nat)).all fun e => decide (decode cX10_pairUp e.1 = .ok e.2)) = true := by decide +kernel
theorem dX10_pairUp_44 : decode cX10_pairUp 44 = .ok (.iconst (-1), 1) := z_dk tdX10_pairUp_44 0 rfl
theorem dX10_pairUp_45 : decode cX10_pairUp 45 = .ok (.istore_n 2, 1) := z_dk tdX10_pairUp_44 1 rfl
theorem dX10_pairUp_46 : decode cX10_pairUp 46 = .ok (.iload_n 2, 1) := z_dk tdX10_pairUp_44 2 rfl
theorem dX10_pairUp_47 : decode cX10_pairUp 47 = .ok (.iconst (-1), 1) := z_dk tdX10_pairUp_44 3 rfl
theorem dX10_pairUp_48 : decode cX10_pairUp 48 = .ok (.if_icmp .eq 31, 3) := z_dk tdX10_pairUp_44 4 rfl
theorem dX10_pairUp_51 : decode cX10_pairUp 51 = .ok (.aload_n 0, 1) := z_dk tdX10_pairUp_44 5 rfl
theorem dX10_pairUp_52 : decode cX10_pairUp 52 = .ok (.getfield 38, 3) := z_dk tdX10_pairUp_44 6 rfl
theorem dX10_pairUp_55 : decode cX10_pairUp 55 = .ok (.iload_n 1, 1) := z_dk tdX10_pairUp_44 7 rfl
theorem dX10_pairUp_56 : decode cX10_pairUp 56 = .ok (.iload_n 2, 1) := z_dk tdX10_pairUp_44 8 rfl
theorem dX10_pairUp_57 : decode cX10_pairUp 57 = .ok (.invokevirtual 86, 3) := z_dk tdX10_pairUp_44 9 rfl
theorem dX10_pairUp_60 : decode cX10_pairUp 60 = .ok (.aload_n 0, 1) := z_dk tdX10_pairUp_44 10 rfl
theorem dX10_pairUp_61 : decode cX10_pairUp 61 = .ok (.getfield 38, 3) := z_dk tdX10_pairUp_44 11 rfl
theorem dX10_pairUp_64 : decode cX10_pairUp 64 = .ok (.iload_n 2, 1) := z_dk tdX10_pairUp_44 12 rfl
theorem dX10_pairUp_65 : decode cX10_pairUp 65 = .ok (.iload_n 1, 1) := z_dk tdX10_pairUp_44 13 rfl
theorem dX10_pairUp_66 : decode cX10_pairUp 66 = .ok (.invokevirtual 86, 3) := z_dk tdX10_pairUp_44 14 rfl
theorem dX10_pairUp_69 : decode cX10_pairUp 69 = .ok (.aload_n 0, 1) := z_dk tdX10_pairUp_44 15 rfl
theorem dX10_pairUp_70 : decode cX10_pairUp 70 = .ok (.dup, 1) := z_dk tdX10_pairUp_44 16 rfl
theorem dX10_pairUp_71 : decode cX10_pairUp 71 = .ok (.getfield 130, 3) := z_dk tdX10_pairUp_44 17 rfl
theorem dX10_pairUp_74 : decode cX10_pairUp 74 = .ok (.iconst 1, 1) := z_dk tdX10_pairUp_44 18 rfl
theorem dX10_pairUp_75 : decode cX10_pairUp 75 = .ok (.iadd, 1) := z_dk tdX10_pairUp_44 19 rfl
theorem dX10_pairUp_76 : decode cX10_pairUp 76 = .ok (.putfield 130, 3) := z_dk tdX10_pairUp_44 20 rfl
theorem dX10_pairUp_79 : decode cX10_pairUp 79 = .ok (.iinc 1 1, 3) := z_dk tdX10_pairUp_44 21 rfl
theorem dX10_pairUp_82 : decode cX10_pairUp 82 = .ok (.goto (-75), 3) := z_dk tdX10_pairUp_44 22 rfl
theorem dX10_pairUp_85 : decode cX10_pairUp 85 = .ok (.return_, 1) := z_dk tdX10_pairUp_44 23 rfl
theorem tdX10_latestOpen_0 : (([(0, .iload_n 1, 1), (1, .iconst 1, 1), (2, .isub, 1), (3, .istore_n 2, 1), (4, .iload_n 2, 1), (5, .ifCond .lt 35, 3), (8, .aload_n 0, 1), (9, .getfield 14, 3), (12, .iload_n 2, 1), (13, .invokevirtual 109, 3), (16, .iconst 4, 1), (17, .if_icmp .ne 17, 3), (20, .aload_n 0, 1), (21, .getfield 38, 3), (24, .iload_n 2, 1), (25, .invokevirtual 109, 3), (28, .iconst (-1), 1), (29, .if_icmp .ne 5, 3), (32, .iload_n 2, 1), (33, .ireturn, 1), (34, .iinc 2 (-1), 3), (37, .goto (-33), 3), (40, .iconst (-1), 1), (41, .ireturn, 1)] : List (Nat × Instr × Nat)).all fun e => decide (decode cX10_latestOpen e.1 = .ok e.2)) = true := by decide +kernel
theorem dX10_latestOpen_0 : decode cX10_latestOpen 0 = .ok (.iload_n 1, 1) := z_dk tdX10_latestOpen_0 0 rfl
theorem dX10_latestOpen_1 : decode cX10_latestOpen 1 = .ok (.iconst 1, 1) := z_dk tdX10_latestOpen_0 1 rfl
theorem dX10_latestOpen_2 : decode cX10_latestOpen 2 = .ok (.isub, 1) := z_dk tdX10_latestOpen_0 2 rfl
theorem dX10_latestOpen_3 : decode cX10_latestOpen 3 = .ok (.istore_n 2, 1) := z_dk tdX10_latestOpen_0 3 rfl
theorem dX10_latestOpen_4 : decode cX10_latestOpen 4 = .ok (.iload_n 2, 1) := z_dk tdX10_latestOpen_0 4 rfl
theorem dX10_latestOpen_5 : decode cX10_latestOpen 5 = .ok (.ifCond .lt 35, 3) := z_dk tdX10_latestOpen_0 5 rfl
theorem dX10_latestOpen_8 : decode cX10_latestOpen 8 = .ok (.aload_n 0, 1) := z_dk tdX10_latestOpen_0 6 rfl
theorem dX10_latestOpen_9 : decode cX10_latestOpen 9 = .ok (.getfield 14, 3) := z_dk tdX10_latestOpen_0 7 rfl
theorem dX10_latestOpen_12 : decode cX10_latestOpen 12 = .ok (.iload_n 2, 1) := z_dk tdX10_latestOpen_0 8 rfl
theorem dX10_latestOpen_13 : decode cX10_latestOpen 13 = .ok (.invokevirtual 109, 3) := z_dk tdX10_latestOpen_0 9 rfl
theorem dX10_latestOpen_16 : decode cX10_latestOpen 16 = .ok (.iconst 4, 1) := z_dk tdX10_latestOpen_0 10 rfl
theorem dX10_latestOpen_17 : decode cX10_latestOpen 17 = .ok (.if_icmp .ne 17, 3) := z_dk tdX10_latestOpen_0 11 rfl
theorem dX10_latestOpen_20 : decode cX10_latestOpen 20 = .ok (.aload_n 0, 1) := z_dk tdX10_latestOpen_0 12 rfl
theorem dX10_latestOpen_21 : decode cX10_latestOpen 21 = .ok (.getfield 38, 3) := z_dk tdX10_latestOpen_0 13 rfl
theorem dX10_latestOpen_24 : decode cX10_latestOpen 24 = .ok (.iload_n 2, 1) := z_dk tdX10_latestOpen_0 14 rfl
theorem dX10_latestOpen_25 : decode cX10_latestOpen 25 = .ok (.invokevirtual 109, 3) := z_dk tdX10_latestOpen_0 15 rfl
theorem dX10_latestOpen_28 : decode cX10_latestOpen 28 = .ok (.iconst (-1), 1) := z_dk tdX10_latestOpen_0 16 rfl
theorem dX10_latestOpen_29 : decode cX10_latestOpen 29 = .ok (.if_icmp .ne 5, 3) := z_dk tdX10_latestOpen_0 17 rfl
theorem dX10_latestOpen_32 : decode cX10_latestOpen 32 = .ok (.iload_n 2, 1) := z_dk tdX10_latestOpen_0 18 rfl
theorem dX10_latestOpen_33 : decode cX10_latestOpen 33 = .ok (.ireturn, 1) := z_dk tdX10_latestOpen_0 19 rfl
theorem dX10_latestOpen_34 : decode cX10_latestOpen 34 = .ok (.iinc 2 (-1), 3) := z_dk tdX10_latestOpen_0 20 rfl
theorem dX10_latestOpen_37 : decode cX10_latestOpen 37 = .ok (.goto (-33), 3) := z_dk tdX10_latestOpen_0 21 rfl
theorem dX10_latestOpen_40 : decode cX10_latestOpen 40 = .ok (.iconst (-1), 1) := z_dk tdX10_latestOpen_0 22 rfl
theorem dX10_latestOpen_41 : decode cX10_latestOpen 41 = .ok (.ireturn, 1) := z_dk tdX10_latestOpen_0 23 rfl
theorem tdX10_allowsEnd_0 : (([(0, .iload_n 1, 1), (1, .aload_n 0, 1), (2, .getfield 69, 3), (5, .iconst 1, 1), (6, .isub, 1), (7, .if_icmp .ge 15, 3), (10, .aload_n 0, 1), (11, .getfield 14, 3), (14, .iload_n 1, 1), (15, .invokevirtual 109, 3), (18, .iconst 4, 1), (19, .if_icmp .ne 5, 3), (22, .iconst 0, 1), (23, .ireturn, 1), (24, .aload_n 0, 1), (25, .getfield 14, 3), (28, .iload_n 1, 1), (29, .iconst 1, 1), (30, .iadd, 1), (31, .invokevirtual 109, 3), (34, .iconst 3, 1), (35, .if_icmp .eq 21, 3), (38, .aload_n 0, 1), (39, .getfield 14, 3)] : List (Nat × Instr × Nat)).all fun e => decide (decode cX10_allowsEnd e.1 = .ok e.2)) = true := by decide +kernel
theorem dX10_allowsEnd_0 : decode cX10_allowsEnd 0 = .ok (.iload_n 1, 1) := z_dk tdX10_allowsEnd_0 0 rfl
theorem dX10_allowsEnd_1 : decode cX10_allowsEnd 1 = .ok (.aload_n 0, 1) := z_dk tdX10_allowsEnd_0 1 rfl
theorem dX10_allowsEnd_2 : decode cX10_allowsEnd 2 = .ok (.getfield 69, 3) := z_dk tdX10_allowsEnd_0 2 rfl
theorem dX10_allowsEnd_5 : decode cX10_allowsEnd 5 = .ok (.iconst 1, 1) := z_dk tdX10_allowsEnd_0 3 rfl
theorem dX10_allowsEnd_6 : decode cX10_allowsEnd 6 = .ok (.isub, 1) := z_dk tdX10_allowsEnd_0 4 rfl
theorem dX10_allowsEnd_7 : decode cX10_allowsEnd 7 = .ok (.if_icmp .ge 15, 3) := z_dk tdX10_allowsEnd_0 5 rfl
theorem dX10_allowsEnd_10 : decode cX10_allowsEnd 10 = .ok (.aload_n 0, 1) := z_dk tdX10_allowsEnd_0 6 rfl
theorem dX10_allowsEnd_11 : decode cX10_allowsEnd 11 = .ok (.getfield 14, 3) := z_dk tdX10_allowsEnd_0 7 rfl
theorem dX10_allowsEnd_14 : decode cX10_allowsEnd 14 = .ok (.iload_n 1, 1) := z_dk tdX10_allowsEnd_0 8 rfl
theorem dX10_allowsEnd_15 : decode cX10_allowsEnd 15 = .ok (.invokevirtual 109, 3) := z_dk tdX10_allowsEnd_0 9 rfl
theorem dX10_allowsEnd_18 : decode cX10_allowsEnd 18 = .ok (.iconst 4, 1) := z_dk tdX10_allowsEnd_0 10 rfl
theorem dX10_allowsEnd_19 : decode cX10_allowsEnd 19 = .ok (.if_icmp .ne 5, 3) := z_dk tdX10_allowsEnd_0 11 rfl
theorem dX10_allowsEnd_22 : decode cX10_allowsEnd 22 = .ok (.iconst 0, 1) := z_dk tdX10_allowsEnd_0 12 rfl
theorem dX10_allowsEnd_23 : decode cX10_allowsEnd 23 = .ok (.ireturn, 1) := z_dk tdX10_allowsEnd_0 13 rfl
theorem dX10_allowsEnd_24 : decode cX10_allowsEnd 24 = .ok (.aload_n 0, 1) := z_dk tdX10_allowsEnd_0 14 rfl
theorem dX10_allowsEnd_25 : decode cX10_allowsEnd 25 = .ok (.getfield 14, 3) := z_dk tdX10_allowsEnd_0 15 rfl
theorem dX10_allowsEnd_28 : decode cX10_allowsEnd 28 = .ok (.iload_n 1, 1) := z_dk tdX10_allowsEnd_0 16 rfl
theorem dX10_allowsEnd_29 : decode cX10_allowsEnd 29 = .ok (.iconst 1, 1) := z_dk tdX10_allowsEnd_0 17 rfl
theorem dX10_allowsEnd_30 : decode cX10_allowsEnd 30 = .ok (.iadd, 1) := z_dk tdX10_allowsEnd_0 18 rfl
theorem dX10_allowsEnd_31 : decode cX10_allowsEnd 31 = .ok (.invokevirtual 109, 3) := z_dk tdX10_allowsEnd_0 19 rfl
theorem dX10_allowsEnd_34 : decode cX10_allowsEnd 34 = .ok (.iconst 3, 1) := z_dk tdX10_allowsEnd_0 20 rfl
theorem dX10_allowsEnd_35 : decode cX10_allowsEnd 35 = .ok (.if_icmp .eq 21, 3) := z_dk tdX10_allowsEnd_0 21 rfl
theorem dX10_allowsEnd_38 : decode cX10_allowsEnd 38 = .ok (.aload_n 0, 1) := z_dk tdX10_allowsEnd_0 22 rfl
theorem dX10_allowsEnd_39 : decode cX10_allowsEnd 39 = .ok (.getfield 14, 3) := z_dk tdX10_allowsEnd_0 23 rfl
theorem tdX10_allowsEnd_42 : (([(42, .iload_n 1, 1), (43, .iconst 1, 1), (44, .iadd, 1), (45, .invokevirtual 109, 3), (48, .iconst 5, 1), (49, .if_icmp .eq 7, 3), (52, .iconst 1, 1), (53, .goto 4, 3), (56, .iconst 0, 1), (57, .ireturn, 1)] : List (Nat × Instr × Nat)).all fun e => decide (decode cX10_allowsEnd e.1 = .ok e.2)) = true := by decide +kernel
theorem dX10_allowsEnd_42 : decode cX10_allowsEnd 42 = .ok (.iload_n 1, 1) := z_dk tdX10_allowsEnd_42 0 rfl
theorem dX10_allowsEnd_43 : decode cX10_allowsEnd 43 = .ok (.iconst 1, 1) := z_dk tdX10_allowsEnd_42 1 rfl
theorem dX10_allowsEnd_44 : decode cX10_allowsEnd 44 = .ok (.iadd, 1) := z_dk tdX10_allowsEnd_42 2 rfl
theorem dX10_allowsEnd_45 : decode cX10_allowsEnd 45 = .ok (.invokevirtual 109, 3) := z_dk tdX10_allowsEnd_42 3 rfl
theorem dX10_allowsEnd_48 : decode cX10_allowsEnd 48 = .ok (.iconst 5, 1) := z_dk tdX10_allowsEnd_42 4 rfl
theorem dX10_allowsEnd_49 : decode cX10_allowsEnd 49 = .ok (.if_icmp .eq 7, 3) := z_dk tdX10_allowsEnd_42 5 rfl
theorem dX10_allowsEnd_52 : decode cX10_allowsEnd 52 = .ok (.iconst 1, 1) := z_dk tdX10_allowsEnd_42 6 rfl
theorem dX10_allowsEnd_53 : decode cX10_allowsEnd 53 = .ok (.goto 4, 3) := z_dk tdX10_allowsEnd_42 7 rfl
theorem dX10_allowsEnd_56 : decode cX10_allowsEnd 56 = .ok (.iconst 0, 1) := z_dk tdX10_allowsEnd_42 8 rfl
theorem dX10_allowsEnd_57 : decode cX10_allowsEnd 57 = .ok (.ireturn, 1) := z_dk tdX10_allowsEnd_42 9 rfl
theorem tdX10_tie_0 : (([(0, .aload_n 0, 1), (1, .iconst 0, 1), (2, .putfield 136, 3), (5, .iconst 0, 1), (6, .istore_n 1, 1), (7, .iload_n 1, 1), (8, .aload_n 0, 1), (9, .getfield 69, 3), (12, .if_icmp .ge 102, 3), (15, .aload_n 0, 1), (16, .getfield 14, 3), (19, .iload_n 1, 1), (20, .invokevirtual 109, 3), (23, .iconst 4, 1), (24, .if_icmp .ne 14, 3), (27, .aload_n 0, 1), (28, .getfield 38, 3), (31, .iload_n 1, 1), (32, .invokevirtual 109, 3), (35, .goto 4, 3), (38, .iconst (-1), 1), (39, .istore_n 2, 1), (40, .iload_n 2, 1), (41, .iconst (-1), 1)] : List (Nat × Instr × Nat)).all fun e => decide (decode cX10_tie e.1 = .ok e.2)) = true := by decide +kernel
theorem dX10_tie_0 : decode cX10_tie 0 = .ok (.aload_n 0, 1) := z_dk tdX10_tie_0 0 rfl
theorem dX10_tie_1 : decode cX10_tie 1 = .ok (.iconst 0, 1) := z_dk tdX10_tie_0 1 rfl
theorem dX10_tie_2 : decode cX10_tie 2 = .ok (.putfield 136, 3) := z_dk tdX10_tie_0 2 rfl
theorem dX10_tie_5 : decode cX10_tie 5 = .ok (.iconst 0, 1) := z_dk tdX10_tie_0 3 rfl
theorem dX10_tie_6 : decode cX10_tie 6 = .ok (.istore_n 1, 1) := z_dk tdX10_tie_0 4 rfl
theorem dX10_tie_7 : decode cX10_tie 7 = .ok (.iload_n 1, 1) := z_dk tdX10_tie_0 5 rfl
theorem dX10_tie_8 : decode cX10_tie 8 = .ok (.aload_n 0, 1) := z_dk tdX10_tie_0 6 rfl
theorem dX10_tie_9 : decode cX10_tie 9 = .ok (.getfield 69, 3) := z_dk tdX10_tie_0 7 rfl
theorem dX10_tie_12 : decode cX10_tie 12 = .ok (.if_icmp .ge 102, 3) := z_dk tdX10_tie_0 8 rfl
theorem dX10_tie_15 : decode cX10_tie 15 = .ok (.aload_n 0, 1) := z_dk tdX10_tie_0 9 rfl
theorem dX10_tie_16 : decode cX10_tie 16 = .ok (.getfield 14, 3) := z_dk tdX10_tie_0 10 rfl
theorem dX10_tie_19 : decode cX10_tie 19 = .ok (.iload_n 1, 1) := z_dk tdX10_tie_0 11 rfl
theorem dX10_tie_20 : decode cX10_tie 20 = .ok (.invokevirtual 109, 3) := z_dk tdX10_tie_0 12 rfl
theorem dX10_tie_23 : decode cX10_tie 23 = .ok (.iconst 4, 1) := z_dk tdX10_tie_0 13 rfl
theorem dX10_tie_24 : decode cX10_tie 24 = .ok (.if_icmp .ne 14, 3) := z_dk tdX10_tie_0 14 rfl
theorem dX10_tie_27 : decode cX10_tie 27 = .ok (.aload_n 0, 1) := z_dk tdX10_tie_0 15 rfl
theorem dX10_tie_28 : decode cX10_tie 28 = .ok (.getfield 38, 3) := z_dk tdX10_tie_0 16 rfl
theorem dX10_tie_31 : decode cX10_tie 31 = .ok (.iload_n 1, 1) := z_dk tdX10_tie_0 17 rfl
theorem dX10_tie_32 : decode cX10_tie 32 = .ok (.invokevirtual 109, 3) := z_dk tdX10_tie_0 18 rfl
theorem dX10_tie_35 : decode cX10_tie 35 = .ok (.goto 4, 3) := z_dk tdX10_tie_0 19 rfl
theorem dX10_tie_38 : decode cX10_tie 38 = .ok (.iconst (-1), 1) := z_dk tdX10_tie_0 20 rfl
theorem dX10_tie_39 : decode cX10_tie 39 = .ok (.istore_n 2, 1) := z_dk tdX10_tie_0 21 rfl
theorem dX10_tie_40 : decode cX10_tie 40 = .ok (.iload_n 2, 1) := z_dk tdX10_tie_0 22 rfl
theorem dX10_tie_41 : decode cX10_tie 41 = .ok (.iconst (-1), 1) := z_dk tdX10_tie_0 23 rfl
theorem tdX10_tie_42 : (([(42, .if_icmp .eq 66, 3), (45, .aload_n 0, 1), (46, .getfield 44, 3), (49, .iload_n 2, 1), (50, .iconst 1, 1), (51, .iadd, 1), (52, .invokevirtual 109, 3), (55, .aload_n 0, 1), (56, .getfield 44, 3), (59, .iload_n 1, 1), (60, .invokevirtual 109, 3), (63, .isub, 1), (64, .aload_n 0, 1), (65, .getfield 63, 3), (68, .bipush 7, 2), (70, .invokevirtual 109, 3), (73, .if_icmp .gt 35, 3), (76, .aload_n 0, 1), (77, .dup, 1), (78, .getfield 136, 3), (81, .iconst 1, 1), (82, .iadd, 1), (83, .putfield 136, 3), (86, .iload_n 1, 1)] : List (Nat × Instr × Nat)).all fun e => decide (decode cX10_tie e.1 = .ok e.2)) = true := by decide +kernel
theorem dX10_tie_42 : decode cX10_tie 42 = .ok (.if_icmp .eq 66, 3) := z_dk tdX10_tie_42 0 rfl
theorem dX10_tie_45 : decode cX10_tie 45 = .ok (.aload_n 0, 1) := z_dk tdX10_tie_42 1 rfl
theorem dX10_tie_46 : decode cX10_tie 46 = .ok (.getfield 44, 3) := z_dk tdX10_tie_42 2 rfl
theorem dX10_tie_49 : decode cX10_tie 49 = .ok (.iload_n 2, 1) := z_dk tdX10_tie_42 3 rfl
theorem dX10_tie_50 : decode cX10_tie 50 = .ok (.iconst 1, 1) := z_dk tdX10_tie_42 4 rfl
theorem dX10_tie_51 : decode cX10_tie 51 = .ok (.iadd, 1) := z_dk tdX10_tie_42 5 rfl
theorem dX10_tie_52 : decode cX10_tie 52 = .ok (.invokevirtual 109, 3) := z_dk tdX10_tie_42 6 rfl
theorem dX10_tie_55 : decode cX10_tie 55 = .ok (.aload_n 0, 1) := z_dk tdX10_tie_42 7 rfl
theorem dX10_tie_56 : decode cX10_tie 56 = .ok (.getfield 44, 3) := z_dk tdX10_tie_42 8 rfl
theorem dX10_tie_59 : decode cX10_tie 59 = .ok (.iload_n 1, 1) := z_dk tdX10_tie_42 9 rfl
theorem dX10_tie_60 : decode cX10_tie 60 = .ok (.invokevirtual 109, 3) := z_dk tdX10_tie_42 10 rfl
theorem dX10_tie_63 : decode cX10_tie 63 = .ok (.isub, 1) := z_dk tdX10_tie_42 11 rfl
theorem dX10_tie_64 : decode cX10_tie 64 = .ok (.aload_n 0, 1) := z_dk tdX10_tie_42 12 rfl
theorem dX10_tie_65 : decode cX10_tie 65 = .ok (.getfield 63, 3) := z_dk tdX10_tie_42 13 rfl
theorem dX10_tie_68 : decode cX10_tie 68 = .ok (.bipush 7, 2) := z_dk tdX10_tie_42 14 rfl
theorem dX10_tie_70 : decode cX10_tie 70 = .ok (.invokevirtual 109, 3) := z_dk tdX10_tie_42 15 rfl
theorem dX10_tie_73 : decode cX10_tie 73 = .ok (.if_icmp .gt 35, 3) := z_dk tdX10_tie_42 16 rfl
theorem dX10_tie_76 : decode cX10_tie 76 = .ok (.aload_n 0, 1) := z_dk tdX10_tie_42 17 rfl
theorem dX10_tie_77 : decode cX10_tie 77 = .ok (.dup, 1) := z_dk tdX10_tie_42 18 rfl
theorem dX10_tie_78 : decode cX10_tie 78 = .ok (.getfield 136, 3) := z_dk tdX10_tie_42 19 rfl
theorem dX10_tie_81 : decode cX10_tie 81 = .ok (.iconst 1, 1) := z_dk tdX10_tie_42 20 rfl
theorem dX10_tie_82 : decode cX10_tie 82 = .ok (.iadd, 1) := z_dk tdX10_tie_42 21 rfl
theorem dX10_tie_83 : decode cX10_tie 83 = .ok (.putfield 136, 3) := z_dk tdX10_tie_42 22 rfl
theorem dX10_tie_86 : decode cX10_tie 86 = .ok (.iload_n 1, 1) := z_dk tdX10_tie_42 23 rfl
theorem tdX10_tie_87 : (([(87, .istore_n 3, 1), (88, .iload_n 3, 1), (89, .iload_n 2, 1), (90, .if_icmp .ge 18, 3), (93, .aload_n 0, 1), (94, .getfield 41, 3), (97, .iload_n 3, 1), (98, .iconst 0, 1), (99, .invokevirtual 86, 3), (102, .iinc 3 1, 3), (105, .goto (-17), 3), (108, .iinc 1 1, 3), (111, .goto (-104), 3), (114, .return_, 1)] : List (Nat × Instr × Nat)).all fun e => decide (decode cX10_tie e.1 = .ok e.2)) = true := by decide +kernel
theorem dX10_tie_87 : decode cX10_tie 87 = .ok (.istore_n 3, 1) := z_dk tdX10_tie_87 0 rfl
theorem dX10_tie_88 : decode cX10_tie 88 = .ok (.iload_n 3, 1) := z_dk tdX10_tie_87 1 rfl
theorem dX10_tie_89 : decode cX10_tie 89 = .ok (.iload_n 2, 1) := z_dk tdX10_tie_87 2 rfl
theorem dX10_tie_90 : decode cX10_tie 90 = .ok (.if_icmp .ge 18, 3) := z_dk tdX10_tie_87 3 rfl
theorem dX10_tie_93 : decode cX10_tie 93 = .ok (.aload_n 0, 1) := z_dk tdX10_tie_87 4 rfl
theorem dX10_tie_94 : decode cX10_tie 94 = .ok (.getfield 41, 3) := z_dk tdX10_tie_87 5 rfl
theorem dX10_tie_97 : decode cX10_tie 97 = .ok (.iload_n 3, 1) := z_dk tdX10_tie_87 6 rfl
theorem dX10_tie_98 : decode cX10_tie 98 = .ok (.iconst 0, 1) := z_dk tdX10_tie_87 7 rfl
theorem dX10_tie_99 : decode cX10_tie 99 = .ok (.invokevirtual 86, 3) := z_dk tdX10_tie_87 8 rfl
theorem dX10_tie_102 : decode cX10_tie 102 = .ok (.iinc 3 1, 3) := z_dk tdX10_tie_87 9 rfl
theorem dX10_tie_105 : decode cX10_tie 105 = .ok (.goto (-17), 3) := z_dk tdX10_tie_87 10 rfl
theorem dX10_tie_108 : decode cX10_tie 108 = .ok (.iinc 1 1, 3) := z_dk tdX10_tie_87 11 rfl
theorem dX10_tie_111 : decode cX10_tie 111 = .ok (.goto (-104), 3) := z_dk tdX10_tie_87 12 rfl
theorem dX10_tie_114 : decode cX10_tie 114 = .ok (.return_, 1) := z_dk tdX10_tie_87 13 rfl
theorem tdX10_solid_0 : (([(0, .aload_n 0, 1), (1, .getfield 47, 3), (4, .iload_n 2, 1), (5, .iconst 1, 1), (6, .iadd, 1), (7, .invokevirtual 109, 3), (10, .aload_n 0, 1), (11, .getfield 47, 3), (14, .iload_n 1, 1), (15, .invokevirtual 109, 3), (18, .isub, 1), (19, .ireturn, 1)] : List (Nat × Instr × Nat)).all fun e => decide (decode cX10_solid e.1 = .ok e.2)) = true := by decide +kernel
theorem dX10_solid_0 : decode cX10_solid 0 = .ok (.aload_n 0, 1) := z_dk tdX10_solid_0 0 rfl
theorem dX10_solid_1 : decode cX10_solid 1 = .ok (.getfield 47, 3) := z_dk tdX10_solid_0 1 rfl
theorem dX10_solid_4 : decode cX10_solid 4 = .ok (.iload_n 2, 1) := z_dk tdX10_solid_0 2 rfl
theorem dX10_solid_5 : decode cX10_solid 5 = .ok (.iconst 1, 1) := z_dk tdX10_solid_0 3 rfl
theorem dX10_solid_6 : decode cX10_solid 6 = .ok (.iadd, 1) := z_dk tdX10_solid_0 4 rfl
theorem dX10_solid_7 : decode cX10_solid 7 = .ok (.invokevirtual 109, 3) := z_dk tdX10_solid_0 5 rfl
theorem dX10_solid_10 : decode cX10_solid 10 = .ok (.aload_n 0, 1) := z_dk tdX10_solid_0 6 rfl
theorem dX10_solid_11 : decode cX10_solid 11 = .ok (.getfield 47, 3) := z_dk tdX10_solid_0 7 rfl
theorem dX10_solid_14 : decode cX10_solid 14 = .ok (.iload_n 1, 1) := z_dk tdX10_solid_0 8 rfl
theorem dX10_solid_15 : decode cX10_solid 15 = .ok (.invokevirtual 109, 3) := z_dk tdX10_solid_0 9 rfl
theorem dX10_solid_18 : decode cX10_solid 18 = .ok (.isub, 1) := z_dk tdX10_solid_0 10 rfl
theorem dX10_solid_19 : decode cX10_solid 19 = .ok (.ireturn, 1) := z_dk tdX10_solid_0 11 rfl
theorem tdX10_markBit_0 : (([(0, .iload_n 0, 1), (1, .ifCond .ne 7, 3), (4, .iconst 1, 1), (5, .goto 4, 3), (8, .iconst 2, 1), (9, .ireturn, 1)] : List (Nat × Instr × Nat)).all fun e => decide (decode cX10_markBit e.1 = .ok e.2)) = true := by decide +kernel
theorem dX10_markBit_0 : decode cX10_markBit 0 = .ok (.iload_n 0, 1) := z_dk tdX10_markBit_0 0 rfl
theorem dX10_markBit_1 : decode cX10_markBit 1 = .ok (.ifCond .ne 7, 3) := z_dk tdX10_markBit_0 1 rfl
theorem dX10_markBit_4 : decode cX10_markBit 4 = .ok (.iconst 1, 1) := z_dk tdX10_markBit_0 2 rfl
theorem dX10_markBit_5 : decode cX10_markBit 5 = .ok (.goto 4, 3) := z_dk tdX10_markBit_0 3 rfl
theorem dX10_markBit_8 : decode cX10_markBit 8 = .ok (.iconst 2, 1) := z_dk tdX10_markBit_0 4 rfl
theorem dX10_markBit_9 : decode cX10_markBit 9 = .ok (.ireturn, 1) := z_dk tdX10_markBit_0 5 rfl
theorem tdX10_markOf_0 : (([(0, .aload_n 0, 1), (1, .getfield 59, 3), (4, .getfield 139, 3), (7, .iload_n 1, 1), (8, .invokevirtual 109, 3), (11, .istore_n 3, 1), (12, .aload_n 0, 1), (13, .getfield 50, 3), (16, .iload_n 1, 1), (17, .invokevirtual 109, 3), (20, .istore 4, 2), (22, .aload_n 0, 1), (23, .getfield 14, 3), (26, .iload 4, 2), (28, .invokevirtual 109, 3), (31, .bipush 7, 2), (33, .if_icmp .eq 18, 3), (36, .iload_n 3, 1), (37, .iload_n 2, 1), (38, .invokestatic 142, 3), (41, .iand, 1), (42, .ifCond .eq 7, 3), (45, .iconst 1, 1), (46, .goto 4, 3)] : List (Nat × Instr × Nat)).all fun e => decide (decode cX10_markOf e.1 = .ok e.2)) = true := by decide +kernel
theorem dX10_markOf_0 : decode cX10_markOf 0 = .ok (.aload_n 0, 1) := z_dk tdX10_markOf_0 0 rfl
theorem dX10_markOf_1 : decode cX10_markOf 1 = .ok (.getfield 59, 3) := z_dk tdX10_markOf_0 1 rfl
theorem dX10_markOf_4 : decode cX10_markOf 4 = .ok (.getfield 139, 3) := z_dk tdX10_markOf_0 2 rfl
theorem dX10_markOf_7 : decode cX10_markOf 7 = .ok (.iload_n 1, 1) := z_dk tdX10_markOf_0 3 rfl
theorem dX10_markOf_8 : decode cX10_markOf 8 = .ok (.invokevirtual 109, 3) := z_dk tdX10_markOf_0 4 rfl
theorem dX10_markOf_11 : decode cX10_markOf 11 = .ok (.istore_n 3, 1) := z_dk tdX10_markOf_0 5 rfl
theorem dX10_markOf_12 : decode cX10_markOf 12 = .ok (.aload_n 0, 1) := z_dk tdX10_markOf_0 6 rfl
theorem dX10_markOf_13 : decode cX10_markOf 13 = .ok (.getfield 50, 3) := z_dk tdX10_markOf_0 7 rfl
theorem dX10_markOf_16 : decode cX10_markOf 16 = .ok (.iload_n 1, 1) := z_dk tdX10_markOf_0 8 rfl
theorem dX10_markOf_17 : decode cX10_markOf 17 = .ok (.invokevirtual 109, 3) := z_dk tdX10_markOf_0 9 rfl
theorem dX10_markOf_20 : decode cX10_markOf 20 = .ok (.istore 4, 2) := z_dk tdX10_markOf_0 10 rfl
theorem dX10_markOf_22 : decode cX10_markOf 22 = .ok (.aload_n 0, 1) := z_dk tdX10_markOf_0 11 rfl
theorem dX10_markOf_23 : decode cX10_markOf 23 = .ok (.getfield 14, 3) := z_dk tdX10_markOf_0 12 rfl
theorem dX10_markOf_26 : decode cX10_markOf 26 = .ok (.iload 4, 2) := z_dk tdX10_markOf_0 13 rfl
theorem dX10_markOf_28 : decode cX10_markOf 28 = .ok (.invokevirtual 109, 3) := z_dk tdX10_markOf_0 14 rfl
theorem dX10_markOf_31 : decode cX10_markOf 31 = .ok (.bipush 7, 2) := z_dk tdX10_markOf_0 15 rfl
theorem dX10_markOf_33 : decode cX10_markOf 33 = .ok (.if_icmp .eq 18, 3) := z_dk tdX10_markOf_0 16 rfl
theorem dX10_markOf_36 : decode cX10_markOf 36 = .ok (.iload_n 3, 1) := z_dk tdX10_markOf_0 17 rfl
theorem dX10_markOf_37 : decode cX10_markOf 37 = .ok (.iload_n 2, 1) := z_dk tdX10_markOf_0 18 rfl
theorem dX10_markOf_38 : decode cX10_markOf 38 = .ok (.invokestatic 142, 3) := z_dk tdX10_markOf_0 19 rfl
theorem dX10_markOf_41 : decode cX10_markOf 41 = .ok (.iand, 1) := z_dk tdX10_markOf_0 20 rfl
theorem dX10_markOf_42 : decode cX10_markOf 42 = .ok (.ifCond .eq 7, 3) := z_dk tdX10_markOf_0 21 rfl
theorem dX10_markOf_45 : decode cX10_markOf 45 = .ok (.iconst 1, 1) := z_dk tdX10_markOf_0 22 rfl
theorem dX10_markOf_46 : decode cX10_markOf 46 = .ok (.goto 4, 3) := z_dk tdX10_markOf_0 23 rfl
theorem tdX10_markOf_49 : (([(49, .iconst 0, 1), (50, .ireturn, 1), (51, .iload_n 2, 1), (52, .iconst 1, 1), (53, .if_icmp .ne 23, 3), (56, .iload_n 3, 1), (57, .ifCond .eq 19, 3), (60, .aload_n 0, 1), (61, .getfield 35, 3), (64, .iload 4, 2), (66, .invokevirtual 109, 3), (69, .ifCond .ne 7, 3), (72, .iconst 1, 1), (73, .goto 4, 3), (76, .iconst 0, 1), (77, .ireturn, 1)] : List (Nat × Instr × Nat)).all fun e => decide (decode cX10_markOf e.1 = .ok e.2)) = true := by decide +kernel
theorem dX10_markOf_49 : decode cX10_markOf 49 = .ok (.iconst 0, 1) := z_dk tdX10_markOf_49 0 rfl
theorem dX10_markOf_50 : decode cX10_markOf 50 = .ok (.ireturn, 1) := z_dk tdX10_markOf_49 1 rfl
theorem dX10_markOf_51 : decode cX10_markOf 51 = .ok (.iload_n 2, 1) := z_dk tdX10_markOf_49 2 rfl
theorem dX10_markOf_52 : decode cX10_markOf 52 = .ok (.iconst 1, 1) := z_dk tdX10_markOf_49 3 rfl
theorem dX10_markOf_53 : decode cX10_markOf 53 = .ok (.if_icmp .ne 23, 3) := z_dk tdX10_markOf_49 4 rfl
theorem dX10_markOf_56 : decode cX10_markOf 56 = .ok (.iload_n 3, 1) := z_dk tdX10_markOf_49 5 rfl
theorem dX10_markOf_57 : decode cX10_markOf 57 = .ok (.ifCond .eq 19, 3) := z_dk tdX10_markOf_49 6 rfl
theorem dX10_markOf_60 : decode cX10_markOf 60 = .ok (.aload_n 0, 1) := z_dk tdX10_markOf_49 7 rfl
theorem dX10_markOf_61 : decode cX10_markOf 61 = .ok (.getfield 35, 3) := z_dk tdX10_markOf_49 8 rfl
theorem dX10_markOf_64 : decode cX10_markOf 64 = .ok (.iload 4, 2) := z_dk tdX10_markOf_49 9 rfl
theorem dX10_markOf_66 : decode cX10_markOf 66 = .ok (.invokevirtual 109, 3) := z_dk tdX10_markOf_49 10 rfl
theorem dX10_markOf_69 : decode cX10_markOf 69 = .ok (.ifCond .ne 7, 3) := z_dk tdX10_markOf_49 11 rfl
theorem dX10_markOf_72 : decode cX10_markOf 72 = .ok (.iconst 1, 1) := z_dk tdX10_markOf_49 12 rfl
theorem dX10_markOf_73 : decode cX10_markOf 73 = .ok (.goto 4, 3) := z_dk tdX10_markOf_49 13 rfl
theorem dX10_markOf_76 : decode cX10_markOf 76 = .ok (.iconst 0, 1) := z_dk tdX10_markOf_49 14 rfl
theorem dX10_markOf_77 : decode cX10_markOf 77 = .ok (.ireturn, 1) := z_dk tdX10_markOf_49 15 rfl
theorem tdX10_marksOf_0 : (([(0, .iconst 0, 1), (1, .istore 4, 2), (3, .iload_n 1, 1), (4, .istore 5, 2), (6, .iload 5, 2), (8, .iload_n 2, 1), (9, .if_icmp .gt 21, 3), (12, .iload 4, 2), (14, .aload_n 0, 1), (15, .iload 5, 2), (17, .iload_n 3, 1), (18, .invokevirtual 145, 3), (21, .iadd, 1), (22, .istore 4, 2), (24, .iinc 5 1, 3), (27, .goto (-21), 3), (30, .iload 4, 2), (32, .ireturn, 1)] : List (Nat × Instr × Nat)).all fun e => decide (decode cX10_marksOf e.1 = .ok e.2)) = true := by decide +kernel
theorem dX10_marksOf_0 : decode cX10_marksOf 0 = .ok (.iconst 0, 1) := z_dk tdX10_marksOf_0 0 rfl
theorem dX10_marksOf_1 : decode cX10_marksOf 1 = .ok (.istore 4, 2) := z_dk tdX10_marksOf_0 1 rfl
theorem dX10_marksOf_3 : decode cX10_marksOf 3 = .ok (.iload_n 1, 1) := z_dk tdX10_marksOf_0 2 rfl
theorem dX10_marksOf_4 : decode cX10_marksOf 4 = .ok (.istore 5, 2) := z_dk tdX10_marksOf_0 3 rfl
theorem dX10_marksOf_6 : decode cX10_marksOf 6 = .ok (.iload 5, 2) := z_dk tdX10_marksOf_0 4 rfl
theorem dX10_marksOf_8 : decode cX10_marksOf 8 = .ok (.iload_n 2, 1) := z_dk tdX10_marksOf_0 5 rfl
theorem dX10_marksOf_9 : decode cX10_marksOf 9 = .ok (.if_icmp .gt 21, 3) := z_dk tdX10_marksOf_0 6 rfl
theorem dX10_marksOf_12 : decode cX10_marksOf 12 = .ok (.iload 4, 2) := z_dk tdX10_marksOf_0 7 rfl
theorem dX10_marksOf_14 : decode cX10_marksOf 14 = .ok (.aload_n 0, 1) := z_dk tdX10_marksOf_0 8 rfl
theorem dX10_marksOf_15 : decode cX10_marksOf 15 = .ok (.iload 5, 2) := z_dk tdX10_marksOf_0 9 rfl
theorem dX10_marksOf_17 : decode cX10_marksOf 17 = .ok (.iload_n 3, 1) := z_dk tdX10_marksOf_0 10 rfl
theorem dX10_marksOf_18 : decode cX10_marksOf 18 = .ok (.invokevirtual 145, 3) := z_dk tdX10_marksOf_0 11 rfl
theorem dX10_marksOf_21 : decode cX10_marksOf 21 = .ok (.iadd, 1) := z_dk tdX10_marksOf_0 12 rfl
theorem dX10_marksOf_22 : decode cX10_marksOf 22 = .ok (.istore 4, 2) := z_dk tdX10_marksOf_0 13 rfl
theorem dX10_marksOf_24 : decode cX10_marksOf 24 = .ok (.iinc 5 1, 3) := z_dk tdX10_marksOf_0 14 rfl
theorem dX10_marksOf_27 : decode cX10_marksOf 27 = .ok (.goto (-21), 3) := z_dk tdX10_marksOf_0 15 rfl
theorem dX10_marksOf_30 : decode cX10_marksOf 30 = .ok (.iload 4, 2) := z_dk tdX10_marksOf_0 16 rfl
theorem dX10_marksOf_32 : decode cX10_marksOf 32 = .ok (.ireturn, 1) := z_dk tdX10_marksOf_0 17 rfl
theorem tdX11_init_0 : (([(0, .aload_n 0, 1), (1, .invokespecial 1, 3), (4, .aload_n 0, 1), (5, .new 7, 3), (8, .dup, 1), (9, .getstatic 9, 3), (12, .arraylength, 1), (13, .invokespecial 15, 3), (16, .putfield 18, 3), (19, .aload_n 0, 1), (20, .new 7, 3), (23, .dup, 1), (24, .sipush 300, 3), (27, .invokespecial 15, 3), (30, .putfield 22, 3), (33, .aload_n 0, 1), (34, .new 25, 3), (37, .dup, 1), (38, .invokespecial 27, 3), (41, .putfield 28, 3), (44, .aload_n 0, 1), (45, .new 25, 3), (48, .dup, 1), (49, .invokespecial 27, 3)] : List (Nat × Instr × Nat)).all fun e => decide (decode cX11_init e.1 = .ok e.2)) = true := by decide +kernel
theorem dX11_init_0 : decode cX11_init 0 = .ok (.aload_n 0, 1) := z_dk tdX11_init_0 0 rfl
theorem dX11_init_1 : decode cX11_init 1 = .ok (.invokespecial 1, 3) := z_dk tdX11_init_0 1 rfl
theorem dX11_init_4 : decode cX11_init 4 = .ok (.aload_n 0, 1) := z_dk tdX11_init_0 2 rfl
theorem dX11_init_5 : decode cX11_init 5 = .ok (.new 7, 3) := z_dk tdX11_init_0 3 rfl
theorem dX11_init_8 : decode cX11_init 8 = .ok (.dup, 1) := z_dk tdX11_init_0 4 rfl
theorem dX11_init_9 : decode cX11_init 9 = .ok (.getstatic 9, 3) := z_dk tdX11_init_0 5 rfl
theorem dX11_init_12 : decode cX11_init 12 = .ok (.arraylength, 1) := z_dk tdX11_init_0 6 rfl
theorem dX11_init_13 : decode cX11_init 13 = .ok (.invokespecial 15, 3) := z_dk tdX11_init_0 7 rfl
theorem dX11_init_16 : decode cX11_init 16 = .ok (.putfield 18, 3) := z_dk tdX11_init_0 8 rfl
theorem dX11_init_19 : decode cX11_init 19 = .ok (.aload_n 0, 1) := z_dk tdX11_init_0 9 rfl
theorem dX11_init_20 : decode cX11_init 20 = .ok (.new 7, 3) := z_dk tdX11_init_0 10 rfl
theorem dX11_init_23 : decode cX11_init 23 = .ok (.dup, 1) := z_dk tdX11_init_0 11 rfl
theorem dX11_init_24 : decode cX11_init 24 = .ok (.sipush 300, 3) := z_dk tdX11_init_0 12 rfl
theorem dX11_init_27 : decode cX11_init 27 = .ok (.invokespecial 15, 3) := z_dk tdX11_init_0 13 rfl
theorem dX11_init_30 : decode cX11_init 30 = .ok (.putfield 22, 3) := z_dk tdX11_init_0 14 rfl
theorem dX11_init_33 : decode cX11_init 33 = .ok (.aload_n 0, 1) := z_dk tdX11_init_0 15 rfl
theorem dX11_init_34 : decode cX11_init 34 = .ok (.new 25, 3) := z_dk tdX11_init_0 16 rfl
theorem dX11_init_37 : decode cX11_init 37 = .ok (.dup, 1) := z_dk tdX11_init_0 17 rfl
theorem dX11_init_38 : decode cX11_init 38 = .ok (.invokespecial 27, 3) := z_dk tdX11_init_0 18 rfl
theorem dX11_init_41 : decode cX11_init 41 = .ok (.putfield 28, 3) := z_dk tdX11_init_0 19 rfl
theorem dX11_init_44 : decode cX11_init 44 = .ok (.aload_n 0, 1) := z_dk tdX11_init_0 20 rfl
theorem dX11_init_45 : decode cX11_init 45 = .ok (.new 25, 3) := z_dk tdX11_init_0 21 rfl
theorem dX11_init_48 : decode cX11_init 48 = .ok (.dup, 1) := z_dk tdX11_init_0 22 rfl
theorem dX11_init_49 : decode cX11_init 49 = .ok (.invokespecial 27, 3) := z_dk tdX11_init_0 23 rfl
theorem tdX11_init_52 : (([(52, .putfield 32, 3), (55, .aload_n 0, 1), (56, .new 35, 3), (59, .dup, 1), (60, .aload_n 0, 1), (61, .getfield 32, 3), (64, .invokespecial 37, 3), (67, .putfield 40, 3), (70, .aload_n 0, 1), (71, .new 44, 3), (74, .dup, 1), (75, .invokespecial 46, 3), (78, .putfield 47, 3), (81, .aload_n 0, 1), (82, .new 51, 3), (85, .dup, 1), (86, .aload_n 0, 1), (87, .getfield 28, 3), (90, .aload_n 0, 1), (91, .getfield 18, 3), (94, .invokespecial 53, 3), (97, .putfield 56, 3), (100, .aload_n 0, 1), (101, .new 60, 3)] : List (Nat × Instr × Nat)).all fun e => decide (decode cX11_init e.1 = .ok e.2)) = true := by decide +kernel
theorem dX11_init_52 : decode cX11_init 52 = .ok (.putfield 32, 3) := z_dk tdX11_init_52 0 rfl
theorem dX11_init_55 : decode cX11_init 55 = .ok (.aload_n 0, 1) := z_dk tdX11_init_52 1 rfl
theorem dX11_init_56 : decode cX11_init 56 = .ok (.new 35, 3) := z_dk tdX11_init_52 2 rfl
theorem dX11_init_59 : decode cX11_init 59 = .ok (.dup, 1) := z_dk tdX11_init_52 3 rfl
theorem dX11_init_60 : decode cX11_init 60 = .ok (.aload_n 0, 1) := z_dk tdX11_init_52 4 rfl
theorem dX11_init_61 : decode cX11_init 61 = .ok (.getfield 32, 3) := z_dk tdX11_init_52 5 rfl
theorem dX11_init_64 : decode cX11_init 64 = .ok (.invokespecial 37, 3) := z_dk tdX11_init_52 6 rfl
theorem dX11_init_67 : decode cX11_init 67 = .ok (.putfield 40, 3) := z_dk tdX11_init_52 7 rfl
theorem dX11_init_70 : decode cX11_init 70 = .ok (.aload_n 0, 1) := z_dk tdX11_init_52 8 rfl
theorem dX11_init_71 : decode cX11_init 71 = .ok (.new 44, 3) := z_dk tdX11_init_52 9 rfl
theorem dX11_init_74 : decode cX11_init 74 = .ok (.dup, 1) := z_dk tdX11_init_52 10 rfl
theorem dX11_init_75 : decode cX11_init 75 = .ok (.invokespecial 46, 3) := z_dk tdX11_init_52 11 rfl
theorem dX11_init_78 : decode cX11_init 78 = .ok (.putfield 47, 3) := z_dk tdX11_init_52 12 rfl
theorem dX11_init_81 : decode cX11_init 81 = .ok (.aload_n 0, 1) := z_dk tdX11_init_52 13 rfl
theorem dX11_init_82 : decode cX11_init 82 = .ok (.new 51, 3) := z_dk tdX11_init_52 14 rfl
theorem dX11_init_85 : decode cX11_init 85 = .ok (.dup, 1) := z_dk tdX11_init_52 15 rfl
theorem dX11_init_86 : decode cX11_init 86 = .ok (.aload_n 0, 1) := z_dk tdX11_init_52 16 rfl
theorem dX11_init_87 : decode cX11_init 87 = .ok (.getfield 28, 3) := z_dk tdX11_init_52 17 rfl
theorem dX11_init_90 : decode cX11_init 90 = .ok (.aload_n 0, 1) := z_dk tdX11_init_52 18 rfl
theorem dX11_init_91 : decode cX11_init 91 = .ok (.getfield 18, 3) := z_dk tdX11_init_52 19 rfl
theorem dX11_init_94 : decode cX11_init 94 = .ok (.invokespecial 53, 3) := z_dk tdX11_init_52 20 rfl
theorem dX11_init_97 : decode cX11_init 97 = .ok (.putfield 56, 3) := z_dk tdX11_init_52 21 rfl
theorem dX11_init_100 : decode cX11_init 100 = .ok (.aload_n 0, 1) := z_dk tdX11_init_52 22 rfl
theorem dX11_init_101 : decode cX11_init 101 = .ok (.new 60, 3) := z_dk tdX11_init_52 23 rfl
theorem tdX11_init_104 : (([(104, .dup, 1), (105, .aload_n 0, 1), (106, .getfield 56, 3), (109, .aload_n 0, 1), (110, .getfield 18, 3), (113, .invokespecial 62, 3), (116, .putfield 65, 3), (119, .aload_n 0, 1), (120, .new 69, 3), (123, .dup, 1), (124, .aload_n 0, 1), (125, .getfield 56, 3), (128, .aload_n 0, 1), (129, .getfield 65, 3), (132, .invokespecial 71, 3), (135, .putfield 74, 3), (138, .aload_n 0, 1), (139, .new 69, 3), (142, .dup, 1), (143, .aload_n 0, 1), (144, .getfield 56, 3), (147, .aload_n 0, 1), (148, .getfield 65, 3), (151, .invokespecial 71, 3)] : List (Nat × Instr × Nat)).all fun e => decide (decode cX11_init e.1 = .ok e.2)) = true := by decide +kernel
theorem dX11_init_104 : decode cX11_init 104 = .ok (.dup, 1) := z_dk tdX11_init_104 0 rfl
theorem dX11_init_105 : decode cX11_init 105 = .ok (.aload_n 0, 1) := z_dk tdX11_init_104 1 rfl
theorem dX11_init_106 : decode cX11_init 106 = .ok (.getfield 56, 3) := z_dk tdX11_init_104 2 rfl
theorem dX11_init_109 : decode cX11_init 109 = .ok (.aload_n 0, 1) := z_dk tdX11_init_104 3 rfl
theorem dX11_init_110 : decode cX11_init 110 = .ok (.getfield 18, 3) := z_dk tdX11_init_104 4 rfl
theorem dX11_init_113 : decode cX11_init 113 = .ok (.invokespecial 62, 3) := z_dk tdX11_init_104 5 rfl
theorem dX11_init_116 : decode cX11_init 116 = .ok (.putfield 65, 3) := z_dk tdX11_init_104 6 rfl
theorem dX11_init_119 : decode cX11_init 119 = .ok (.aload_n 0, 1) := z_dk tdX11_init_104 7 rfl
theorem dX11_init_120 : decode cX11_init 120 = .ok (.new 69, 3) := z_dk tdX11_init_104 8 rfl
theorem dX11_init_123 : decode cX11_init 123 = .ok (.dup, 1) := z_dk tdX11_init_104 9 rfl
theorem dX11_init_124 : decode cX11_init 124 = .ok (.aload_n 0, 1) := z_dk tdX11_init_104 10 rfl
theorem dX11_init_125 : decode cX11_init 125 = .ok (.getfield 56, 3) := z_dk tdX11_init_104 11 rfl
theorem dX11_init_128 : decode cX11_init 128 = .ok (.aload_n 0, 1) := z_dk tdX11_init_104 12 rfl
theorem dX11_init_129 : decode cX11_init 129 = .ok (.getfield 65, 3) := z_dk tdX11_init_104 13 rfl
theorem dX11_init_132 : decode cX11_init 132 = .ok (.invokespecial 71, 3) := z_dk tdX11_init_104 14 rfl
theorem dX11_init_135 : decode cX11_init 135 = .ok (.putfield 74, 3) := z_dk tdX11_init_104 15 rfl
theorem dX11_init_138 : decode cX11_init 138 = .ok (.aload_n 0, 1) := z_dk tdX11_init_104 16 rfl
theorem dX11_init_139 : decode cX11_init 139 = .ok (.new 69, 3) := z_dk tdX11_init_104 17 rfl
theorem dX11_init_142 : decode cX11_init 142 = .ok (.dup, 1) := z_dk tdX11_init_104 18 rfl
theorem dX11_init_143 : decode cX11_init 143 = .ok (.aload_n 0, 1) := z_dk tdX11_init_104 19 rfl
theorem dX11_init_144 : decode cX11_init 144 = .ok (.getfield 56, 3) := z_dk tdX11_init_104 20 rfl
theorem dX11_init_147 : decode cX11_init 147 = .ok (.aload_n 0, 1) := z_dk tdX11_init_104 21 rfl
theorem dX11_init_148 : decode cX11_init 148 = .ok (.getfield 65, 3) := z_dk tdX11_init_104 22 rfl
theorem dX11_init_151 : decode cX11_init 151 = .ok (.invokespecial 71, 3) := z_dk tdX11_init_104 23 rfl
theorem tdX11_init_154 : (([(154, .putfield 78, 3), (157, .aload_n 0, 1), (158, .new 81, 3), (161, .dup, 1), (162, .aload_n 0, 1), (163, .getfield 28, 3), (166, .aload_n 0, 1), (167, .getfield 56, 3), (170, .aload_n 0, 1), (171, .getfield 65, 3), (174, .aload_n 0, 1), (175, .getfield 74, 3), (178, .aload_n 0, 1), (179, .getfield 18, 3), (182, .invokespecial 83, 3), (185, .putfield 86, 3), (188, .aload_n 0, 1), (189, .new 90, 3), (192, .dup, 1), (193, .aload_n 0, 1), (194, .getfield 86, 3), (197, .aload_n 0, 1), (198, .getfield 56, 3), (201, .aload_n 0, 1)] : List (Nat × Instr × Nat)).all fun e => decide (decode cX11_init e.1 = .ok e.2)) = true := by decide +kernel
theorem dX11_init_154 : decode cX11_init 154 = .ok (.putfield 78, 3) := z_dk tdX11_init_154 0 rfl
theorem dX11_init_157 : decode cX11_init 157 = .ok (.aload_n 0, 1) := z_dk tdX11_init_154 1 rfl
theorem dX11_init_158 : decode cX11_init 158 = .ok (.new 81, 3) := z_dk tdX11_init_154 2 rfl
theorem dX11_init_161 : decode cX11_init 161 = .ok (.dup, 1) := z_dk tdX11_init_154 3 rfl
theorem dX11_init_162 : decode cX11_init 162 = .ok (.aload_n 0, 1) := z_dk tdX11_init_154 4 rfl
theorem dX11_init_163 : decode cX11_init 163 = .ok (.getfield 28, 3) := z_dk tdX11_init_154 5 rfl
theorem dX11_init_166 : decode cX11_init 166 = .ok (.aload_n 0, 1) := z_dk tdX11_init_154 6 rfl
theorem dX11_init_167 : decode cX11_init 167 = .ok (.getfield 56, 3) := z_dk tdX11_init_154 7 rfl
theorem dX11_init_170 : decode cX11_init 170 = .ok (.aload_n 0, 1) := z_dk tdX11_init_154 8 rfl
theorem dX11_init_171 : decode cX11_init 171 = .ok (.getfield 65, 3) := z_dk tdX11_init_154 9 rfl
theorem dX11_init_174 : decode cX11_init 174 = .ok (.aload_n 0, 1) := z_dk tdX11_init_154 10 rfl
theorem dX11_init_175 : decode cX11_init 175 = .ok (.getfield 74, 3) := z_dk tdX11_init_154 11 rfl
theorem dX11_init_178 : decode cX11_init 178 = .ok (.aload_n 0, 1) := z_dk tdX11_init_154 12 rfl
theorem dX11_init_179 : decode cX11_init 179 = .ok (.getfield 18, 3) := z_dk tdX11_init_154 13 rfl
theorem dX11_init_182 : decode cX11_init 182 = .ok (.invokespecial 83, 3) := z_dk tdX11_init_154 14 rfl
theorem dX11_init_185 : decode cX11_init 185 = .ok (.putfield 86, 3) := z_dk tdX11_init_154 15 rfl
theorem dX11_init_188 : decode cX11_init 188 = .ok (.aload_n 0, 1) := z_dk tdX11_init_154 16 rfl
theorem dX11_init_189 : decode cX11_init 189 = .ok (.new 90, 3) := z_dk tdX11_init_154 17 rfl
theorem dX11_init_192 : decode cX11_init 192 = .ok (.dup, 1) := z_dk tdX11_init_154 18 rfl
theorem dX11_init_193 : decode cX11_init 193 = .ok (.aload_n 0, 1) := z_dk tdX11_init_154 19 rfl
theorem dX11_init_194 : decode cX11_init 194 = .ok (.getfield 86, 3) := z_dk tdX11_init_154 20 rfl
theorem dX11_init_197 : decode cX11_init 197 = .ok (.aload_n 0, 1) := z_dk tdX11_init_154 21 rfl
theorem dX11_init_198 : decode cX11_init 198 = .ok (.getfield 56, 3) := z_dk tdX11_init_154 22 rfl
theorem dX11_init_201 : decode cX11_init 201 = .ok (.aload_n 0, 1) := z_dk tdX11_init_154 23 rfl
theorem tdX11_init_202 : (([(202, .getfield 18, 3), (205, .invokespecial 92, 3), (208, .putfield 95, 3), (211, .aload_n 0, 1), (212, .iconst (-1), 1), (213, .putfield 99, 3), (216, .iconst 0, 1), (217, .istore_n 1, 1), (218, .iload_n 1, 1), (219, .getstatic 9, 3), (222, .arraylength, 1), (223, .if_icmp .ge 22, 3), (226, .aload_n 0, 1), (227, .getfield 18, 3), (230, .iload_n 1, 1), (231, .getstatic 9, 3), (234, .iload_n 1, 1), (235, .iaload, 1), (236, .invokevirtual 103, 3), (239, .iinc 1 1, 3), (242, .goto (-24), 3), (245, .return_, 1)] : List (Nat × Instr × Nat)).all fun e => decide (decode cX11_init e.1 = .ok e.2)) = true := by decide +kernel
theorem dX11_init_202 : decode cX11_init 202 = .ok (.getfield 18, 3) := z_dk tdX11_init_202 0 rfl
theorem dX11_init_205 : decode cX11_init 205 = .ok (.invokespecial 92, 3) := z_dk tdX11_init_202 1 rfl
theorem dX11_init_208 : decode cX11_init 208 = .ok (.putfield 95, 3) := z_dk tdX11_init_202 2 rfl
theorem dX11_init_211 : decode cX11_init 211 = .ok (.aload_n 0, 1) := z_dk tdX11_init_202 3 rfl
theorem dX11_init_212 : decode cX11_init 212 = .ok (.iconst (-1), 1) := z_dk tdX11_init_202 4 rfl
theorem dX11_init_213 : decode cX11_init 213 = .ok (.putfield 99, 3) := z_dk tdX11_init_202 5 rfl
theorem dX11_init_216 : decode cX11_init 216 = .ok (.iconst 0, 1) := z_dk tdX11_init_202 6 rfl
theorem dX11_init_217 : decode cX11_init 217 = .ok (.istore_n 1, 1) := z_dk tdX11_init_202 7 rfl
theorem dX11_init_218 : decode cX11_init 218 = .ok (.iload_n 1, 1) := z_dk tdX11_init_202 8 rfl
theorem dX11_init_219 : decode cX11_init 219 = .ok (.getstatic 9, 3) := z_dk tdX11_init_202 9 rfl
theorem dX11_init_222 : decode cX11_init 222 = .ok (.arraylength, 1) := z_dk tdX11_init_202 10 rfl
theorem dX11_init_223 : decode cX11_init 223 = .ok (.if_icmp .ge 22, 3) := z_dk tdX11_init_202 11 rfl
theorem dX11_init_226 : decode cX11_init 226 = .ok (.aload_n 0, 1) := z_dk tdX11_init_202 12 rfl
theorem dX11_init_227 : decode cX11_init 227 = .ok (.getfield 18, 3) := z_dk tdX11_init_202 13 rfl
theorem dX11_init_230 : decode cX11_init 230 = .ok (.iload_n 1, 1) := z_dk tdX11_init_202 14 rfl
theorem dX11_init_231 : decode cX11_init 231 = .ok (.getstatic 9, 3) := z_dk tdX11_init_202 15 rfl
theorem dX11_init_234 : decode cX11_init 234 = .ok (.iload_n 1, 1) := z_dk tdX11_init_202 16 rfl
theorem dX11_init_235 : decode cX11_init 235 = .ok (.iaload, 1) := z_dk tdX11_init_202 17 rfl
theorem dX11_init_236 : decode cX11_init 236 = .ok (.invokevirtual 103, 3) := z_dk tdX11_init_202 18 rfl
theorem dX11_init_239 : decode cX11_init 239 = .ok (.iinc 1 1, 3) := z_dk tdX11_init_202 19 rfl
theorem dX11_init_242 : decode cX11_init 242 = .ok (.goto (-24), 3) := z_dk tdX11_init_202 20 rfl
theorem dX11_init_245 : decode cX11_init 245 = .ok (.return_, 1) := z_dk tdX11_init_202 21 rfl
theorem tdX11_feed_0 : (([(0, .aload_n 0, 1), (1, .getfield 107, 3), (4, .sipush 280, 3), (7, .if_icmp .le 5, 3), (10, .iconst (-1), 1), (11, .ireturn, 1), (12, .aload_n 0, 1), (13, .iload_n 1, 1), (14, .invokevirtual 110, 3), (17, .aload_n 0, 1), (18, .iload_n 2, 1), (19, .invokevirtual 110, 3), (22, .aload_n 0, 1), (23, .iload_n 3, 1), (24, .invokevirtual 110, 3), (27, .aload_n 0, 1), (28, .iload 4, 2), (30, .invokevirtual 110, 3), (33, .aload_n 0, 1), (34, .iload 5, 2), (36, .invokevirtual 110, 3), (39, .aload_n 0, 1), (40, .getfield 107, 3), (43, .ireturn, 1)] : List (Nat × Instr × Nat)).all fun e => decide (decode cX11_feed e.1 = .ok e.2)) = true := by decide +kernel
theorem dX11_feed_0 : decode cX11_feed 0 = .ok (.aload_n 0, 1) := z_dk tdX11_feed_0 0 rfl
theorem dX11_feed_1 : decode cX11_feed 1 = .ok (.getfield 107, 3) := z_dk tdX11_feed_0 1 rfl
theorem dX11_feed_4 : decode cX11_feed 4 = .ok (.sipush 280, 3) := z_dk tdX11_feed_0 2 rfl
theorem dX11_feed_7 : decode cX11_feed 7 = .ok (.if_icmp .le 5, 3) := z_dk tdX11_feed_0 3 rfl
theorem dX11_feed_10 : decode cX11_feed 10 = .ok (.iconst (-1), 1) := z_dk tdX11_feed_0 4 rfl
theorem dX11_feed_11 : decode cX11_feed 11 = .ok (.ireturn, 1) := z_dk tdX11_feed_0 5 rfl
theorem dX11_feed_12 : decode cX11_feed 12 = .ok (.aload_n 0, 1) := z_dk tdX11_feed_0 6 rfl
theorem dX11_feed_13 : decode cX11_feed 13 = .ok (.iload_n 1, 1) := z_dk tdX11_feed_0 7 rfl
theorem dX11_feed_14 : decode cX11_feed 14 = .ok (.invokevirtual 110, 3) := z_dk tdX11_feed_0 8 rfl
theorem dX11_feed_17 : decode cX11_feed 17 = .ok (.aload_n 0, 1) := z_dk tdX11_feed_0 9 rfl
theorem dX11_feed_18 : decode cX11_feed 18 = .ok (.iload_n 2, 1) := z_dk tdX11_feed_0 10 rfl
theorem dX11_feed_19 : decode cX11_feed 19 = .ok (.invokevirtual 110, 3) := z_dk tdX11_feed_0 11 rfl
theorem dX11_feed_22 : decode cX11_feed 22 = .ok (.aload_n 0, 1) := z_dk tdX11_feed_0 12 rfl
theorem dX11_feed_23 : decode cX11_feed 23 = .ok (.iload_n 3, 1) := z_dk tdX11_feed_0 13 rfl
theorem dX11_feed_24 : decode cX11_feed 24 = .ok (.invokevirtual 110, 3) := z_dk tdX11_feed_0 14 rfl
theorem dX11_feed_27 : decode cX11_feed 27 = .ok (.aload_n 0, 1) := z_dk tdX11_feed_0 15 rfl
theorem dX11_feed_28 : decode cX11_feed 28 = .ok (.iload 4, 2) := z_dk tdX11_feed_0 16 rfl
theorem dX11_feed_30 : decode cX11_feed 30 = .ok (.invokevirtual 110, 3) := z_dk tdX11_feed_0 17 rfl
theorem dX11_feed_33 : decode cX11_feed 33 = .ok (.aload_n 0, 1) := z_dk tdX11_feed_0 18 rfl
theorem dX11_feed_34 : decode cX11_feed 34 = .ok (.iload 5, 2) := z_dk tdX11_feed_0 19 rfl
theorem dX11_feed_36 : decode cX11_feed 36 = .ok (.invokevirtual 110, 3) := z_dk tdX11_feed_0 20 rfl
theorem dX11_feed_39 : decode cX11_feed 39 = .ok (.aload_n 0, 1) := z_dk tdX11_feed_0 21 rfl
theorem dX11_feed_40 : decode cX11_feed 40 = .ok (.getfield 107, 3) := z_dk tdX11_feed_0 22 rfl
theorem dX11_feed_43 : decode cX11_feed 43 = .ok (.ireturn, 1) := z_dk tdX11_feed_0 23 rfl
theorem tdX11_text_0 : (([(0, .aload_n 0, 1), (1, .iload_n 1, 1), (2, .iconst 0, 1), (3, .aload_n 0, 1), (4, .getfield 107, 3), (7, .invokevirtual 113, 3), (10, .aload_n 0, 1), (11, .getfield 32, 3), (14, .invokevirtual 117, 3), (17, .aload_n 0, 1), (18, .iload_n 1, 1), (19, .invokevirtual 120, 3), (22, .istore_n 2, 1), (23, .aload_n 0, 1), (24, .invokevirtual 124, 3), (27, .iload_n 2, 1), (28, .ifCond .ne 13, 3), (31, .aload_n 0, 1), (32, .getfield 56, 3), (35, .getfield 127, 3), (38, .goto 7, 3), (41, .iload_n 2, 1), (42, .bipush 10, 2), (44, .isub, 1)] : List (Nat × Instr × Nat)).all fun e => decide (decode cX11_text e.1 = .ok e.2)) = true := by decide +kernel
theorem dX11_text_0 : decode cX11_text 0 = .ok (.aload_n 0, 1) := z_dk tdX11_text_0 0 rfl
theorem dX11_text_1 : decode cX11_text 1 = .ok (.iload_n 1, 1) := z_dk tdX11_text_0 1 rfl
theorem dX11_text_2 : decode cX11_text 2 = .ok (.iconst 0, 1) := z_dk tdX11_text_0 2 rfl
theorem dX11_text_3 : decode cX11_text 3 = .ok (.aload_n 0, 1) := z_dk tdX11_text_0 3 rfl
theorem dX11_text_4 : decode cX11_text 4 = .ok (.getfield 107, 3) := z_dk tdX11_text_0 4 rfl
theorem dX11_text_7 : decode cX11_text 7 = .ok (.invokevirtual 113, 3) := z_dk tdX11_text_0 5 rfl
theorem dX11_text_10 : decode cX11_text 10 = .ok (.aload_n 0, 1) := z_dk tdX11_text_0 6 rfl
theorem dX11_text_11 : decode cX11_text 11 = .ok (.getfield 32, 3) := z_dk tdX11_text_0 7 rfl
theorem dX11_text_14 : decode cX11_text 14 = .ok (.invokevirtual 117, 3) := z_dk tdX11_text_0 8 rfl
theorem dX11_text_17 : decode cX11_text 17 = .ok (.aload_n 0, 1) := z_dk tdX11_text_0 9 rfl
theorem dX11_text_18 : decode cX11_text 18 = .ok (.iload_n 1, 1) := z_dk tdX11_text_0 10 rfl
theorem dX11_text_19 : decode cX11_text 19 = .ok (.invokevirtual 120, 3) := z_dk tdX11_text_0 11 rfl
theorem dX11_text_22 : decode cX11_text 22 = .ok (.istore_n 2, 1) := z_dk tdX11_text_0 12 rfl
theorem dX11_text_23 : decode cX11_text 23 = .ok (.aload_n 0, 1) := z_dk tdX11_text_0 13 rfl
theorem dX11_text_24 : decode cX11_text 24 = .ok (.invokevirtual 124, 3) := z_dk tdX11_text_0 14 rfl
theorem dX11_text_27 : decode cX11_text 27 = .ok (.iload_n 2, 1) := z_dk tdX11_text_0 15 rfl
theorem dX11_text_28 : decode cX11_text 28 = .ok (.ifCond .ne 13, 3) := z_dk tdX11_text_0 16 rfl
theorem dX11_text_31 : decode cX11_text 31 = .ok (.aload_n 0, 1) := z_dk tdX11_text_0 17 rfl
theorem dX11_text_32 : decode cX11_text 32 = .ok (.getfield 56, 3) := z_dk tdX11_text_0 18 rfl
theorem dX11_text_35 : decode cX11_text 35 = .ok (.getfield 127, 3) := z_dk tdX11_text_0 19 rfl
theorem dX11_text_38 : decode cX11_text 38 = .ok (.goto 7, 3) := z_dk tdX11_text_0 20 rfl
theorem dX11_text_41 : decode cX11_text 41 = .ok (.iload_n 2, 1) := z_dk tdX11_text_0 21 rfl
theorem dX11_text_42 : decode cX11_text 42 = .ok (.bipush 10, 2) := z_dk tdX11_text_0 22 rfl
theorem dX11_text_44 : decode cX11_text 44 = .ok (.isub, 1) := z_dk tdX11_text_0 23 rfl
theorem tdX11_text_45 : (([(45, .ireturn, 1)] : List (Nat × Instr × Nat)).all fun e => decide (decode cX11_text e.1 = .ok e.2)) = true := by decide +kernel
theorem dX11_text_45 : decode cX11_text 45 = .ok (.ireturn, 1) := z_dk tdX11_text_45 0 rfl
theorem tdX11_more_0 : (([(0, .aload_n 0, 1), (1, .iload_n 1, 1), (2, .iconst 0, 1), (3, .aload_n 0, 1), (4, .getfield 107, 3), (7, .invokevirtual 113, 3), (10, .aload_n 0, 1), (11, .getfield 32, 3), (14, .aload_n 0, 1), (15, .getfield 28, 3), (18, .invokevirtual 130, 3), (21, .aload_n 0, 1), (22, .iload_n 1, 1), (23, .invokevirtual 120, 3), (26, .istore_n 2, 1), (27, .aload_n 0, 1), (28, .invokevirtual 124, 3), (31, .iload_n 2, 1), (32, .ifCond .ne 13, 3), (35, .aload_n 0, 1), (36, .getfield 56, 3), (39, .getfield 127, 3), (42, .goto 7, 3), (45, .iload_n 2, 1)] : List (Nat × Instr × Nat)).all fun e => decide (decode cX11_more e.1 = .ok e.2)) = true := by decide +kernel
theorem dX11_more_0 : decode cX11_more 0 = .ok (.aload_n 0, 1) := z_dk tdX11_more_0 0 rfl
theorem dX11_more_1 : decode cX11_more 1 = .ok (.iload_n 1, 1) := z_dk tdX11_more_0 1 rfl
theorem dX11_more_2 : decode cX11_more 2 = .ok (.iconst 0, 1) := z_dk tdX11_more_0 2 rfl
theorem dX11_more_3 : decode cX11_more 3 = .ok (.aload_n 0, 1) := z_dk tdX11_more_0 3 rfl
theorem dX11_more_4 : decode cX11_more 4 = .ok (.getfield 107, 3) := z_dk tdX11_more_0 4 rfl
theorem dX11_more_7 : decode cX11_more 7 = .ok (.invokevirtual 113, 3) := z_dk tdX11_more_0 5 rfl
theorem dX11_more_10 : decode cX11_more 10 = .ok (.aload_n 0, 1) := z_dk tdX11_more_0 6 rfl
theorem dX11_more_11 : decode cX11_more 11 = .ok (.getfield 32, 3) := z_dk tdX11_more_0 7 rfl
theorem dX11_more_14 : decode cX11_more 14 = .ok (.aload_n 0, 1) := z_dk tdX11_more_0 8 rfl
theorem dX11_more_15 : decode cX11_more 15 = .ok (.getfield 28, 3) := z_dk tdX11_more_0 9 rfl
theorem dX11_more_18 : decode cX11_more 18 = .ok (.invokevirtual 130, 3) := z_dk tdX11_more_0 10 rfl
theorem dX11_more_21 : decode cX11_more 21 = .ok (.aload_n 0, 1) := z_dk tdX11_more_0 11 rfl
theorem dX11_more_22 : decode cX11_more 22 = .ok (.iload_n 1, 1) := z_dk tdX11_more_0 12 rfl
theorem dX11_more_23 : decode cX11_more 23 = .ok (.invokevirtual 120, 3) := z_dk tdX11_more_0 13 rfl
theorem dX11_more_26 : decode cX11_more 26 = .ok (.istore_n 2, 1) := z_dk tdX11_more_0 14 rfl
theorem dX11_more_27 : decode cX11_more 27 = .ok (.aload_n 0, 1) := z_dk tdX11_more_0 15 rfl
theorem dX11_more_28 : decode cX11_more 28 = .ok (.invokevirtual 124, 3) := z_dk tdX11_more_0 16 rfl
theorem dX11_more_31 : decode cX11_more 31 = .ok (.iload_n 2, 1) := z_dk tdX11_more_0 17 rfl
theorem dX11_more_32 : decode cX11_more 32 = .ok (.ifCond .ne 13, 3) := z_dk tdX11_more_0 18 rfl
theorem dX11_more_35 : decode cX11_more 35 = .ok (.aload_n 0, 1) := z_dk tdX11_more_0 19 rfl
theorem dX11_more_36 : decode cX11_more 36 = .ok (.getfield 56, 3) := z_dk tdX11_more_0 20 rfl
theorem dX11_more_39 : decode cX11_more 39 = .ok (.getfield 127, 3) := z_dk tdX11_more_0 21 rfl
theorem dX11_more_42 : decode cX11_more 42 = .ok (.goto 7, 3) := z_dk tdX11_more_0 22 rfl
theorem dX11_more_45 : decode cX11_more 45 = .ok (.iload_n 2, 1) := z_dk tdX11_more_0 23 rfl
theorem tdX11_more_46 : (([(46, .bipush 10, 2), (48, .isub, 1), (49, .ireturn, 1)] : List (Nat × Instr × Nat)).all fun e => decide (decode cX11_more e.1 = .ok e.2)) = true := by decide +kernel
theorem dX11_more_46 : decode cX11_more 46 = .ok (.bipush 10, 2) := z_dk tdX11_more_46 0 rfl
theorem dX11_more_48 : decode cX11_more 48 = .ok (.isub, 1) := z_dk tdX11_more_46 1 rfl
theorem dX11_more_49 : decode cX11_more 49 = .ok (.ireturn, 1) := z_dk tdX11_more_46 2 rfl
theorem tdX11_fault_0 : (([(0, .aload_n 0, 1), (1, .getfield 99, 3), (4, .ireturn, 1)] : List (Nat × Instr × Nat)).all fun e => decide (decode cX11_fault e.1 = .ok e.2)) = true := by decide +kernel
theorem dX11_fault_0 : decode cX11_fault 0 = .ok (.aload_n 0, 1) := z_dk tdX11_fault_0 0 rfl
theorem dX11_fault_1 : decode cX11_fault 1 = .ok (.getfield 99, 3) := z_dk tdX11_fault_0 1 rfl
theorem dX11_fault_4 : decode cX11_fault 4 = .ok (.ireturn, 1) := z_dk tdX11_fault_0 2 rfl
theorem tdX11_set_0 : (([(0, .aload_n 0, 1), (1, .iload_n 1, 1), (2, .iconst 0, 1), (3, .getstatic 9, 3), (6, .arraylength, 1), (7, .iconst 1, 1), (8, .isub, 1), (9, .invokevirtual 113, 3), (12, .aload_n 0, 1), (13, .iload_n 2, 1), (14, .getstatic 133, 3), (17, .iload_n 1, 1), (18, .invokestatic 136, 3), (21, .getstatic 140, 3), (24, .iload_n 1, 1), (25, .invokestatic 136, 3), (28, .invokevirtual 113, 3), (31, .aload_n 0, 1), (32, .getfield 18, 3), (35, .iload_n 1, 1), (36, .invokevirtual 143, 3), (39, .istore_n 3, 1), (40, .aload_n 0, 1), (41, .getfield 18, 3)] : List (Nat × Instr × Nat)).all fun e => decide (decode cX11_set e.1 = .ok e.2)) = true := by decide +kernel
theorem dX11_set_0 : decode cX11_set 0 = .ok (.aload_n 0, 1) := z_dk tdX11_set_0 0 rfl
theorem dX11_set_1 : decode cX11_set 1 = .ok (.iload_n 1, 1) := z_dk tdX11_set_0 1 rfl
theorem dX11_set_2 : decode cX11_set 2 = .ok (.iconst 0, 1) := z_dk tdX11_set_0 2 rfl
theorem dX11_set_3 : decode cX11_set 3 = .ok (.getstatic 9, 3) := z_dk tdX11_set_0 3 rfl
theorem dX11_set_6 : decode cX11_set 6 = .ok (.arraylength, 1) := z_dk tdX11_set_0 4 rfl
theorem dX11_set_7 : decode cX11_set 7 = .ok (.iconst 1, 1) := z_dk tdX11_set_0 5 rfl
theorem dX11_set_8 : decode cX11_set 8 = .ok (.isub, 1) := z_dk tdX11_set_0 6 rfl
theorem dX11_set_9 : decode cX11_set 9 = .ok (.invokevirtual 113, 3) := z_dk tdX11_set_0 7 rfl
theorem dX11_set_12 : decode cX11_set 12 = .ok (.aload_n 0, 1) := z_dk tdX11_set_0 8 rfl
theorem dX11_set_13 : decode cX11_set 13 = .ok (.iload_n 2, 1) := z_dk tdX11_set_0 9 rfl
theorem dX11_set_14 : decode cX11_set 14 = .ok (.getstatic 133, 3) := z_dk tdX11_set_0 10 rfl
theorem dX11_set_17 : decode cX11_set 17 = .ok (.iload_n 1, 1) := z_dk tdX11_set_0 11 rfl
theorem dX11_set_18 : decode cX11_set 18 = .ok (.invokestatic 136, 3) := z_dk tdX11_set_0 12 rfl
theorem dX11_set_21 : decode cX11_set 21 = .ok (.getstatic 140, 3) := z_dk tdX11_set_0 13 rfl
theorem dX11_set_24 : decode cX11_set 24 = .ok (.iload_n 1, 1) := z_dk tdX11_set_0 14 rfl
theorem dX11_set_25 : decode cX11_set 25 = .ok (.invokestatic 136, 3) := z_dk tdX11_set_0 15 rfl
theorem dX11_set_28 : decode cX11_set 28 = .ok (.invokevirtual 113, 3) := z_dk tdX11_set_0 16 rfl
theorem dX11_set_31 : decode cX11_set 31 = .ok (.aload_n 0, 1) := z_dk tdX11_set_0 17 rfl
theorem dX11_set_32 : decode cX11_set 32 = .ok (.getfield 18, 3) := z_dk tdX11_set_0 18 rfl
theorem dX11_set_35 : decode cX11_set 35 = .ok (.iload_n 1, 1) := z_dk tdX11_set_0 19 rfl
theorem dX11_set_36 : decode cX11_set 36 = .ok (.invokevirtual 143, 3) := z_dk tdX11_set_0 20 rfl
theorem dX11_set_39 : decode cX11_set 39 = .ok (.istore_n 3, 1) := z_dk tdX11_set_0 21 rfl
theorem dX11_set_40 : decode cX11_set 40 = .ok (.aload_n 0, 1) := z_dk tdX11_set_0 22 rfl
theorem dX11_set_41 : decode cX11_set 41 = .ok (.getfield 18, 3) := z_dk tdX11_set_0 23 rfl
theorem tdX11_set_44 : (([(44, .iload_n 1, 1), (45, .iload_n 2, 1), (46, .invokevirtual 103, 3), (49, .aload_n 0, 1), (50, .iconst 0, 1), (51, .putfield 146, 3), (54, .iload_n 1, 1), (55, .ifCond .eq 24, 3), (58, .iload_n 1, 1), (59, .iconst 3, 1), (60, .if_icmp .eq 19, 3), (63, .iload_n 1, 1), (64, .iconst 4, 1), (65, .if_icmp .eq 14, 3), (68, .iload_n 1, 1), (69, .bipush 8, 2), (71, .if_icmp .eq 8, 3), (74, .aload_n 0, 1), (75, .iconst 0, 1), (76, .putfield 150, 3), (79, .iload_n 3, 1), (80, .ireturn, 1)] : List (Nat × Instr × Nat)).all fun e => decide (decode cX11_set e.1 = .ok e.2)) = true := by decide +kernel
theorem dX11_set_44 : decode cX11_set 44 = .ok (.iload_n 1, 1) := z_dk tdX11_set_44 0 rfl
theorem dX11_set_45 : decode cX11_set 45 = .ok (.iload_n 2, 1) := z_dk tdX11_set_44 1 rfl
theorem dX11_set_46 : decode cX11_set 46 = .ok (.invokevirtual 103, 3) := z_dk tdX11_set_44 2 rfl
theorem dX11_set_49 : decode cX11_set 49 = .ok (.aload_n 0, 1) := z_dk tdX11_set_44 3 rfl
theorem dX11_set_50 : decode cX11_set 50 = .ok (.iconst 0, 1) := z_dk tdX11_set_44 4 rfl
theorem dX11_set_51 : decode cX11_set 51 = .ok (.putfield 146, 3) := z_dk tdX11_set_44 5 rfl
theorem dX11_set_54 : decode cX11_set 54 = .ok (.iload_n 1, 1) := z_dk tdX11_set_44 6 rfl
theorem dX11_set_55 : decode cX11_set 55 = .ok (.ifCond .eq 24, 3) := z_dk tdX11_set_44 7 rfl
theorem dX11_set_58 : decode cX11_set 58 = .ok (.iload_n 1, 1) := z_dk tdX11_set_44 8 rfl
theorem dX11_set_59 : decode cX11_set 59 = .ok (.iconst 3, 1) := z_dk tdX11_set_44 9 rfl
theorem dX11_set_60 : decode cX11_set 60 = .ok (.if_icmp .eq 19, 3) := z_dk tdX11_set_44 10 rfl
theorem dX11_set_63 : decode cX11_set 63 = .ok (.iload_n 1, 1) := z_dk tdX11_set_44 11 rfl
theorem dX11_set_64 : decode cX11_set 64 = .ok (.iconst 4, 1) := z_dk tdX11_set_44 12 rfl
theorem dX11_set_65 : decode cX11_set 65 = .ok (.if_icmp .eq 14, 3) := z_dk tdX11_set_44 13 rfl
theorem dX11_set_68 : decode cX11_set 68 = .ok (.iload_n 1, 1) := z_dk tdX11_set_44 14 rfl
theorem dX11_set_69 : decode cX11_set 69 = .ok (.bipush 8, 2) := z_dk tdX11_set_44 15 rfl
theorem dX11_set_71 : decode cX11_set 71 = .ok (.if_icmp .eq 8, 3) := z_dk tdX11_set_44 16 rfl
theorem dX11_set_74 : decode cX11_set 74 = .ok (.aload_n 0, 1) := z_dk tdX11_set_44 17 rfl
theorem dX11_set_75 : decode cX11_set 75 = .ok (.iconst 0, 1) := z_dk tdX11_set_44 18 rfl
theorem dX11_set_76 : decode cX11_set 76 = .ok (.putfield 150, 3) := z_dk tdX11_set_44 19 rfl
theorem dX11_set_79 : decode cX11_set 79 = .ok (.iload_n 3, 1) := z_dk tdX11_set_44 20 rfl
theorem dX11_set_80 : decode cX11_set 80 = .ok (.ireturn, 1) := z_dk tdX11_set_44 21 rfl
theorem tdX11_cut_0 : (([(0, .aload_n 0, 1), (1, .invokevirtual 124, 3), (4, .aload_n 0, 1), (5, .iload_n 1, 1), (6, .aload_n 0, 1), (7, .getfield 56, 3), (10, .getfield 127, 3), (13, .invokevirtual 153, 3), (16, .aload_n 0, 1), (17, .iload_n 2, 1), (18, .aload_n 0, 1), (19, .getfield 56, 3), (22, .getfield 127, 3), (25, .invokevirtual 153, 3), (28, .aload_n 0, 1), (29, .iload_n 2, 1), (30, .iload_n 1, 1), (31, .aload_n 0, 1), (32, .getfield 56, 3), (35, .getfield 127, 3), (38, .invokevirtual 113, 3), (41, .aload_n 0, 1), (42, .getfield 47, 3), (45, .aload_n 0, 1)] : List (Nat × Instr × Nat)).all fun e => decide (decode cX11_cut e.1 = .ok e.2)) = true := by decide +kernel
theorem dX11_cut_0 : decode cX11_cut 0 = .ok (.aload_n 0, 1) := z_dk tdX11_cut_0 0 rfl
theorem dX11_cut_1 : decode cX11_cut 1 = .ok (.invokevirtual 124, 3) := z_dk tdX11_cut_0 1 rfl
theorem dX11_cut_4 : decode cX11_cut 4 = .ok (.aload_n 0, 1) := z_dk tdX11_cut_0 2 rfl
theorem dX11_cut_5 : decode cX11_cut 5 = .ok (.iload_n 1, 1) := z_dk tdX11_cut_0 3 rfl
theorem dX11_cut_6 : decode cX11_cut 6 = .ok (.aload_n 0, 1) := z_dk tdX11_cut_0 4 rfl
theorem dX11_cut_7 : decode cX11_cut 7 = .ok (.getfield 56, 3) := z_dk tdX11_cut_0 5 rfl
theorem dX11_cut_10 : decode cX11_cut 10 = .ok (.getfield 127, 3) := z_dk tdX11_cut_0 6 rfl
theorem dX11_cut_13 : decode cX11_cut 13 = .ok (.invokevirtual 153, 3) := z_dk tdX11_cut_0 7 rfl
theorem dX11_cut_16 : decode cX11_cut 16 = .ok (.aload_n 0, 1) := z_dk tdX11_cut_0 8 rfl
theorem dX11_cut_17 : decode cX11_cut 17 = .ok (.iload_n 2, 1) := z_dk tdX11_cut_0 9 rfl
theorem dX11_cut_18 : decode cX11_cut 18 = .ok (.aload_n 0, 1) := z_dk tdX11_cut_0 10 rfl
theorem dX11_cut_19 : decode cX11_cut 19 = .ok (.getfield 56, 3) := z_dk tdX11_cut_0 11 rfl
theorem dX11_cut_22 : decode cX11_cut 22 = .ok (.getfield 127, 3) := z_dk tdX11_cut_0 12 rfl
theorem dX11_cut_25 : decode cX11_cut 25 = .ok (.invokevirtual 153, 3) := z_dk tdX11_cut_0 13 rfl
theorem dX11_cut_28 : decode cX11_cut 28 = .ok (.aload_n 0, 1) := z_dk tdX11_cut_0 14 rfl
theorem dX11_cut_29 : decode cX11_cut 29 = .ok (.iload_n 2, 1) := z_dk tdX11_cut_0 15 rfl
theorem dX11_cut_30 : decode cX11_cut 30 = .ok (.iload_n 1, 1) := z_dk tdX11_cut_0 16 rfl
theorem dX11_cut_31 : decode cX11_cut 31 = .ok (.aload_n 0, 1) := z_dk tdX11_cut_0 17 rfl
theorem dX11_cut_32 : decode cX11_cut 32 = .ok (.getfield 56, 3) := z_dk tdX11_cut_0 18 rfl
theorem dX11_cut_35 : decode cX11_cut 35 = .ok (.getfield 127, 3) := z_dk tdX11_cut_0 19 rfl
theorem dX11_cut_38 : decode cX11_cut 38 = .ok (.invokevirtual 113, 3) := z_dk tdX11_cut_0 20 rfl
theorem dX11_cut_41 : decode cX11_cut 41 = .ok (.aload_n 0, 1) := z_dk tdX11_cut_0 21 rfl
theorem dX11_cut_42 : decode cX11_cut 42 = .ok (.getfield 47, 3) := z_dk tdX11_cut_0 22 rfl
theorem dX11_cut_45 : decode cX11_cut 45 = .ok (.aload_n 0, 1) := z_dk tdX11_cut_0 23 rfl
theorem tdX11_cut_46 : (([(46, .getfield 28, 3), (49, .invokevirtual 156, 3), (52, .aload_n 0, 1), (53, .getfield 28, 3), (56, .aload_n 0, 1), (57, .getfield 56, 3), (60, .getfield 159, 3), (63, .iload_n 1, 1), (64, .invokevirtual 143, 3), (67, .aload_n 0, 1), (68, .getfield 56, 3), (71, .getfield 159, 3), (74, .iload_n 2, 1), (75, .invokevirtual 143, 3), (78, .aload_n 0, 1), (79, .getfield 56, 3), (82, .getfield 162, 3), (85, .iload_n 2, 1), (86, .invokevirtual 143, 3), (89, .iadd, 1), (90, .invokevirtual 165, 3), (93, .aload_n 0, 1), (94, .iconst 0, 1), (95, .putfield 150, 3)] : List (Nat × Instr × Nat)).all fun e => decide (decode cX11_cut e.1 = .ok e.2)) = true := by decide +kernel
theorem dX11_cut_46 : decode cX11_cut 46 = .ok (.getfield 28, 3) := z_dk tdX11_cut_46 0 rfl
theorem dX11_cut_49 : decode cX11_cut 49 = .ok (.invokevirtual 156, 3) := z_dk tdX11_cut_46 1 rfl
theorem dX11_cut_52 : decode cX11_cut 52 = .ok (.aload_n 0, 1) := z_dk tdX11_cut_46 2 rfl
theorem dX11_cut_53 : decode cX11_cut 53 = .ok (.getfield 28, 3) := z_dk tdX11_cut_46 3 rfl
theorem dX11_cut_56 : decode cX11_cut 56 = .ok (.aload_n 0, 1) := z_dk tdX11_cut_46 4 rfl
theorem dX11_cut_57 : decode cX11_cut 57 = .ok (.getfield 56, 3) := z_dk tdX11_cut_46 5 rfl
theorem dX11_cut_60 : decode cX11_cut 60 = .ok (.getfield 159, 3) := z_dk tdX11_cut_46 6 rfl
theorem dX11_cut_63 : decode cX11_cut 63 = .ok (.iload_n 1, 1) := z_dk tdX11_cut_46 7 rfl
theorem dX11_cut_64 : decode cX11_cut 64 = .ok (.invokevirtual 143, 3) := z_dk tdX11_cut_46 8 rfl
theorem dX11_cut_67 : decode cX11_cut 67 = .ok (.aload_n 0, 1) := z_dk tdX11_cut_46 9 rfl
theorem dX11_cut_68 : decode cX11_cut 68 = .ok (.getfield 56, 3) := z_dk tdX11_cut_46 10 rfl
theorem dX11_cut_71 : decode cX11_cut 71 = .ok (.getfield 159, 3) := z_dk tdX11_cut_46 11 rfl
theorem dX11_cut_74 : decode cX11_cut 74 = .ok (.iload_n 2, 1) := z_dk tdX11_cut_46 12 rfl
theorem dX11_cut_75 : decode cX11_cut 75 = .ok (.invokevirtual 143, 3) := z_dk tdX11_cut_46 13 rfl
theorem dX11_cut_78 : decode cX11_cut 78 = .ok (.aload_n 0, 1) := z_dk tdX11_cut_46 14 rfl
theorem dX11_cut_79 : decode cX11_cut 79 = .ok (.getfield 56, 3) := z_dk tdX11_cut_46 15 rfl
theorem dX11_cut_82 : decode cX11_cut 82 = .ok (.getfield 162, 3) := z_dk tdX11_cut_46 16 rfl
theorem dX11_cut_85 : decode cX11_cut 85 = .ok (.iload_n 2, 1) := z_dk tdX11_cut_46 17 rfl
theorem dX11_cut_86 : decode cX11_cut 86 = .ok (.invokevirtual 143, 3) := z_dk tdX11_cut_46 18 rfl
theorem dX11_cut_89 : decode cX11_cut 89 = .ok (.iadd, 1) := z_dk tdX11_cut_46 19 rfl
theorem dX11_cut_90 : decode cX11_cut 90 = .ok (.invokevirtual 165, 3) := z_dk tdX11_cut_46 20 rfl
theorem dX11_cut_93 : decode cX11_cut 93 = .ok (.aload_n 0, 1) := z_dk tdX11_cut_46 21 rfl
theorem dX11_cut_94 : decode cX11_cut 94 = .ok (.iconst 0, 1) := z_dk tdX11_cut_46 22 rfl
theorem dX11_cut_95 : decode cX11_cut 95 = .ok (.putfield 150, 3) := z_dk tdX11_cut_46 23 rfl
theorem tdX11_cut_98 : (([(98, .aload_n 0, 1), (99, .invokevirtual 124, 3), (102, .aload_n 0, 1), (103, .getfield 56, 3), (106, .getfield 127, 3), (109, .ireturn, 1)] : List (Nat × Instr × Nat)).all fun e => decide (decode cX11_cut e.1 = .ok e.2)) = true := by decide +kernel
theorem dX11_cut_98 : decode cX11_cut 98 = .ok (.aload_n 0, 1) := z_dk tdX11_cut_98 0 rfl
theorem dX11_cut_99 : decode cX11_cut 99 = .ok (.invokevirtual 124, 3) := z_dk tdX11_cut_98 1 rfl
theorem dX11_cut_102 : decode cX11_cut 102 = .ok (.aload_n 0, 1) := z_dk tdX11_cut_98 2 rfl
theorem dX11_cut_103 : decode cX11_cut 103 = .ok (.getfield 56, 3) := z_dk tdX11_cut_98 3 rfl
theorem dX11_cut_106 : decode cX11_cut 106 = .ok (.getfield 127, 3) := z_dk tdX11_cut_98 4 rfl
theorem dX11_cut_109 : decode cX11_cut 109 = .ok (.ireturn, 1) := z_dk tdX11_cut_98 5 rfl
theorem tdX11_undo_0 : (([(0, .aload_n 0, 1), (1, .getfield 47, 3), (4, .aload_n 0, 1), (5, .getfield 28, 3), (8, .invokevirtual 168, 3), (11, .ifCond .ne 5, 3), (14, .iconst (-1), 1), (15, .ireturn, 1), (16, .aload_n 0, 1), (17, .iconst 0, 1), (18, .putfield 150, 3), (21, .aload_n 0, 1), (22, .invokevirtual 124, 3), (25, .aload_n 0, 1), (26, .getfield 56, 3), (29, .getfield 127, 3), (32, .ireturn, 1)] : List (Nat × Instr × Nat)).all fun e => decide (decode cX11_undo e.1 = .ok e.2)) = true := by decide +kernel
theorem dX11_undo_0 : decode cX11_undo 0 = .ok (.aload_n 0, 1) := z_dk tdX11_undo_0 0 rfl
theorem dX11_undo_1 : decode cX11_undo 1 = .ok (.getfield 47, 3) := z_dk tdX11_undo_0 1 rfl
theorem dX11_undo_4 : decode cX11_undo 4 = .ok (.aload_n 0, 1) := z_dk tdX11_undo_0 2 rfl
theorem dX11_undo_5 : decode cX11_undo 5 = .ok (.getfield 28, 3) := z_dk tdX11_undo_0 3 rfl
theorem dX11_undo_8 : decode cX11_undo 8 = .ok (.invokevirtual 168, 3) := z_dk tdX11_undo_0 4 rfl
theorem dX11_undo_11 : decode cX11_undo 11 = .ok (.ifCond .ne 5, 3) := z_dk tdX11_undo_0 5 rfl
theorem dX11_undo_14 : decode cX11_undo 14 = .ok (.iconst (-1), 1) := z_dk tdX11_undo_0 6 rfl
theorem dX11_undo_15 : decode cX11_undo 15 = .ok (.ireturn, 1) := z_dk tdX11_undo_0 7 rfl
theorem dX11_undo_16 : decode cX11_undo 16 = .ok (.aload_n 0, 1) := z_dk tdX11_undo_0 8 rfl
theorem dX11_undo_17 : decode cX11_undo 17 = .ok (.iconst 0, 1) := z_dk tdX11_undo_0 9 rfl
theorem dX11_undo_18 : decode cX11_undo 18 = .ok (.putfield 150, 3) := z_dk tdX11_undo_0 10 rfl
theorem dX11_undo_21 : decode cX11_undo 21 = .ok (.aload_n 0, 1) := z_dk tdX11_undo_0 11 rfl
theorem dX11_undo_22 : decode cX11_undo 22 = .ok (.invokevirtual 124, 3) := z_dk tdX11_undo_0 12 rfl
theorem dX11_undo_25 : decode cX11_undo 25 = .ok (.aload_n 0, 1) := z_dk tdX11_undo_0 13 rfl
theorem dX11_undo_26 : decode cX11_undo 26 = .ok (.getfield 56, 3) := z_dk tdX11_undo_0 14 rfl
theorem dX11_undo_29 : decode cX11_undo 29 = .ok (.getfield 127, 3) := z_dk tdX11_undo_0 15 rfl
theorem dX11_undo_32 : decode cX11_undo 32 = .ok (.ireturn, 1) := z_dk tdX11_undo_0 16 rfl
theorem tdX11_told_0 : (([(0, .aload_n 0, 1), (1, .iload_n 1, 1), (2, .iconst 0, 1), (3, .bipush 19, 2), (5, .invokevirtual 113, 3), (8, .aload_n 0, 1), (9, .invokevirtual 124, 3), (12, .iload_n 1, 1), (13, .tableswitch 228 0 19 #[95, 104, 113, 122, 131, 140, 228, 228, 228, 228, 228, 228, 228, 156, 165, 171, 188, 199, 210, 219], 95), (108, .aload_n 0, 1), (109, .getfield 56, 3), (112, .getfield 127, 3), (115, .i2l, 1), (116, .lreturn, 1), (117, .aload_n 0, 1), (118, .getfield 28, 3), (121, .getfield 172, 3), (124, .i2l, 1), (125, .lreturn, 1), (126, .aload_n 0, 1), (127, .getfield 28, 3), (130, .getfield 173, 3), (133, .i2l, 1), (134, .lreturn, 1)] : List (Nat × Instr × Nat)).all fun e => decide (decode cX11_told e.1 = .ok e.2)) = true := by decide +kernel
theorem dX11_told_0 : decode cX11_told 0 = .ok (.aload_n 0, 1) := z_dk tdX11_told_0 0 rfl
theorem dX11_told_1 : decode cX11_told 1 = .ok (.iload_n 1, 1) := z_dk tdX11_told_0 1 rfl
theorem dX11_told_2 : decode cX11_told 2 = .ok (.iconst 0, 1) := z_dk tdX11_told_0 2 rfl
theorem dX11_told_3 : decode cX11_told 3 = .ok (.bipush 19, 2) := z_dk tdX11_told_0 3 rfl
theorem dX11_told_5 : decode cX11_told 5 = .ok (.invokevirtual 113, 3) := z_dk tdX11_told_0 4 rfl
theorem dX11_told_8 : decode cX11_told 8 = .ok (.aload_n 0, 1) := z_dk tdX11_told_0 5 rfl
theorem dX11_told_9 : decode cX11_told 9 = .ok (.invokevirtual 124, 3) := z_dk tdX11_told_0 6 rfl
theorem dX11_told_12 : decode cX11_told 12 = .ok (.iload_n 1, 1) := z_dk tdX11_told_0 7 rfl
theorem dX11_told_13 : decode cX11_told 13 = .ok (.tableswitch 228 0 19 #[95, 104, 113, 122, 131, 140, 228, 228, 228, 228, 228, 228, 228, 156, 165, 171, 188, 199, 210, 219], 95) := z_dk tdX11_told_0 8 rfl
theorem dX11_told_108 : decode cX11_told 108 = .ok (.aload_n 0, 1) := z_dk tdX11_told_0 9 rfl
theorem dX11_told_109 : decode cX11_told 109 = .ok (.getfield 56, 3) := z_dk tdX11_told_0 10 rfl
theorem dX11_told_112 : decode cX11_told 112 = .ok (.getfield 127, 3) := z_dk tdX11_told_0 11 rfl
theorem dX11_told_115 : decode cX11_told 115 = .ok (.i2l, 1) := z_dk tdX11_told_0 12 rfl
theorem dX11_told_116 : decode cX11_told 116 = .ok (.lreturn, 1) := z_dk tdX11_told_0 13 rfl
theorem dX11_told_117 : decode cX11_told 117 = .ok (.aload_n 0, 1) := z_dk tdX11_told_0 14 rfl
theorem dX11_told_118 : decode cX11_told 118 = .ok (.getfield 28, 3) := z_dk tdX11_told_0 15 rfl
theorem dX11_told_121 : decode cX11_told 121 = .ok (.getfield 172, 3) := z_dk tdX11_told_0 16 rfl
theorem dX11_told_124 : decode cX11_told 124 = .ok (.i2l, 1) := z_dk tdX11_told_0 17 rfl
theorem dX11_told_125 : decode cX11_told 125 = .ok (.lreturn, 1) := z_dk tdX11_told_0 18 rfl
theorem dX11_told_126 : decode cX11_told 126 = .ok (.aload_n 0, 1) := z_dk tdX11_told_0 19 rfl
theorem dX11_told_127 : decode cX11_told 127 = .ok (.getfield 28, 3) := z_dk tdX11_told_0 20 rfl
theorem dX11_told_130 : decode cX11_told 130 = .ok (.getfield 173, 3) := z_dk tdX11_told_0 21 rfl
theorem dX11_told_133 : decode cX11_told 133 = .ok (.i2l, 1) := z_dk tdX11_told_0 22 rfl
theorem dX11_told_134 : decode cX11_told 134 = .ok (.lreturn, 1) := z_dk tdX11_told_0 23 rfl
theorem tdX11_told_135 : (([(135, .aload_n 0, 1), (136, .getfield 74, 3), (139, .getfield 176, 3), (142, .i2l, 1), (143, .lreturn, 1), (144, .aload_n 0, 1), (145, .getfield 86, 3), (148, .invokevirtual 177, 3), (151, .i2l, 1), (152, .lreturn, 1), (153, .aload_n 0, 1), (154, .getfield 74, 3), (157, .aload_n 0, 1), (158, .getfield 18, 3), (161, .iconst 0, 1), (162, .invokevirtual 143, 3), (165, .invokevirtual 181, 3), (168, .lreturn, 1), (169, .aload_n 0, 1), (170, .getfield 47, 3), (173, .getfield 185, 3), (176, .i2l, 1), (177, .lreturn, 1), (178, .aload_n 0, 1)] : List (Nat × Instr × Nat)).all fun e => decide (decode cX11_told e.1 = .ok e.2)) = true := by decide +kernel
theorem dX11_told_135 : decode cX11_told 135 = .ok (.aload_n 0, 1) := z_dk tdX11_told_135 0 rfl
theorem dX11_told_136 : decode cX11_told 136 = .ok (.getfield 74, 3) := z_dk tdX11_told_135 1 rfl
theorem dX11_told_139 : decode cX11_told 139 = .ok (.getfield 176, 3) := z_dk tdX11_told_135 2 rfl
theorem dX11_told_142 : decode cX11_told 142 = .ok (.i2l, 1) := z_dk tdX11_told_135 3 rfl
theorem dX11_told_143 : decode cX11_told 143 = .ok (.lreturn, 1) := z_dk tdX11_told_135 4 rfl
theorem dX11_told_144 : decode cX11_told 144 = .ok (.aload_n 0, 1) := z_dk tdX11_told_135 5 rfl
theorem dX11_told_145 : decode cX11_told 145 = .ok (.getfield 86, 3) := z_dk tdX11_told_135 6 rfl
theorem dX11_told_148 : decode cX11_told 148 = .ok (.invokevirtual 177, 3) := z_dk tdX11_told_135 7 rfl
theorem dX11_told_151 : decode cX11_told 151 = .ok (.i2l, 1) := z_dk tdX11_told_135 8 rfl
theorem dX11_told_152 : decode cX11_told 152 = .ok (.lreturn, 1) := z_dk tdX11_told_135 9 rfl
theorem dX11_told_153 : decode cX11_told 153 = .ok (.aload_n 0, 1) := z_dk tdX11_told_135 10 rfl
theorem dX11_told_154 : decode cX11_told 154 = .ok (.getfield 74, 3) := z_dk tdX11_told_135 11 rfl
theorem dX11_told_157 : decode cX11_told 157 = .ok (.aload_n 0, 1) := z_dk tdX11_told_135 12 rfl
theorem dX11_told_158 : decode cX11_told 158 = .ok (.getfield 18, 3) := z_dk tdX11_told_135 13 rfl
theorem dX11_told_161 : decode cX11_told 161 = .ok (.iconst 0, 1) := z_dk tdX11_told_135 14 rfl
theorem dX11_told_162 : decode cX11_told 162 = .ok (.invokevirtual 143, 3) := z_dk tdX11_told_135 15 rfl
theorem dX11_told_165 : decode cX11_told 165 = .ok (.invokevirtual 181, 3) := z_dk tdX11_told_135 16 rfl
theorem dX11_told_168 : decode cX11_told 168 = .ok (.lreturn, 1) := z_dk tdX11_told_135 17 rfl
theorem dX11_told_169 : decode cX11_told 169 = .ok (.aload_n 0, 1) := z_dk tdX11_told_135 18 rfl
theorem dX11_told_170 : decode cX11_told 170 = .ok (.getfield 47, 3) := z_dk tdX11_told_135 19 rfl
theorem dX11_told_173 : decode cX11_told 173 = .ok (.getfield 185, 3) := z_dk tdX11_told_135 20 rfl
theorem dX11_told_176 : decode cX11_told 176 = .ok (.i2l, 1) := z_dk tdX11_told_135 21 rfl
theorem dX11_told_177 : decode cX11_told 177 = .ok (.lreturn, 1) := z_dk tdX11_told_135 22 rfl
theorem dX11_told_178 : decode cX11_told 178 = .ok (.aload_n 0, 1) := z_dk tdX11_told_135 23 rfl
theorem tdX11_told_179 : (([(179, .getfield 107, 3), (182, .i2l, 1), (183, .lreturn, 1), (184, .aload_n 0, 1), (185, .getfield 74, 3), (188, .aload_n 0, 1), (189, .getfield 18, 3), (192, .iconst 0, 1), (193, .invokevirtual 143, 3), (196, .invokevirtual 186, 3), (199, .i2l, 1), (200, .lreturn, 1), (201, .aload_n 0, 1), (202, .getfield 18, 3), (205, .bipush 7, 2), (207, .invokevirtual 143, 3), (210, .i2l, 1), (211, .lreturn, 1), (212, .aload_n 0, 1), (213, .getfield 18, 3), (216, .bipush 8, 2), (218, .invokevirtual 143, 3), (221, .i2l, 1), (222, .lreturn, 1)] : List (Nat × Instr × Nat)).all fun e => decide (decode cX11_told e.1 = .ok e.2)) = true := by decide +kernel
theorem dX11_told_179 : decode cX11_told 179 = .ok (.getfield 107, 3) := z_dk tdX11_told_179 0 rfl
theorem dX11_told_182 : decode cX11_told 182 = .ok (.i2l, 1) := z_dk tdX11_told_179 1 rfl
theorem dX11_told_183 : decode cX11_told 183 = .ok (.lreturn, 1) := z_dk tdX11_told_179 2 rfl
theorem dX11_told_184 : decode cX11_told 184 = .ok (.aload_n 0, 1) := z_dk tdX11_told_179 3 rfl
theorem dX11_told_185 : decode cX11_told 185 = .ok (.getfield 74, 3) := z_dk tdX11_told_179 4 rfl
theorem dX11_told_188 : decode cX11_told 188 = .ok (.aload_n 0, 1) := z_dk tdX11_told_179 5 rfl
theorem dX11_told_189 : decode cX11_told 189 = .ok (.getfield 18, 3) := z_dk tdX11_told_179 6 rfl
theorem dX11_told_192 : decode cX11_told 192 = .ok (.iconst 0, 1) := z_dk tdX11_told_179 7 rfl
theorem dX11_told_193 : decode cX11_told 193 = .ok (.invokevirtual 143, 3) := z_dk tdX11_told_179 8 rfl
theorem dX11_told_196 : decode cX11_told 196 = .ok (.invokevirtual 186, 3) := z_dk tdX11_told_179 9 rfl
theorem dX11_told_199 : decode cX11_told 199 = .ok (.i2l, 1) := z_dk tdX11_told_179 10 rfl
theorem dX11_told_200 : decode cX11_told 200 = .ok (.lreturn, 1) := z_dk tdX11_told_179 11 rfl
theorem dX11_told_201 : decode cX11_told 201 = .ok (.aload_n 0, 1) := z_dk tdX11_told_179 12 rfl
theorem dX11_told_202 : decode cX11_told 202 = .ok (.getfield 18, 3) := z_dk tdX11_told_179 13 rfl
theorem dX11_told_205 : decode cX11_told 205 = .ok (.bipush 7, 2) := z_dk tdX11_told_179 14 rfl
theorem dX11_told_207 : decode cX11_told 207 = .ok (.invokevirtual 143, 3) := z_dk tdX11_told_179 15 rfl
theorem dX11_told_210 : decode cX11_told 210 = .ok (.i2l, 1) := z_dk tdX11_told_179 16 rfl
theorem dX11_told_211 : decode cX11_told 211 = .ok (.lreturn, 1) := z_dk tdX11_told_179 17 rfl
theorem dX11_told_212 : decode cX11_told 212 = .ok (.aload_n 0, 1) := z_dk tdX11_told_179 18 rfl
theorem dX11_told_213 : decode cX11_told 213 = .ok (.getfield 18, 3) := z_dk tdX11_told_179 19 rfl
theorem dX11_told_216 : decode cX11_told 216 = .ok (.bipush 8, 2) := z_dk tdX11_told_179 20 rfl
theorem dX11_told_218 : decode cX11_told 218 = .ok (.invokevirtual 143, 3) := z_dk tdX11_told_179 21 rfl
theorem dX11_told_221 : decode cX11_told 221 = .ok (.i2l, 1) := z_dk tdX11_told_179 22 rfl
theorem dX11_told_222 : decode cX11_told 222 = .ok (.lreturn, 1) := z_dk tdX11_told_179 23 rfl
theorem tdX11_told_223 : (([(223, .aload_n 0, 1), (224, .getfield 56, 3), (227, .getfield 189, 3), (230, .i2l, 1), (231, .lreturn, 1), (232, .aload_n 0, 1), (233, .getfield 56, 3), (236, .getfield 192, 3), (239, .i2l, 1), (240, .lreturn, 1), (241, .aload_n 0, 1), (242, .getfield 18, 3), (245, .iload_n 1, 1), (246, .bipush 6, 2), (248, .isub, 1), (249, .invokevirtual 143, 3), (252, .i2l, 1), (253, .lreturn, 1)] : List (Nat × Instr × Nat)).all fun e => decide (decode cX11_told e.1 = .ok e.2)) = true := by decide +kernel
theorem dX11_told_223 : decode cX11_told 223 = .ok (.aload_n 0, 1) := z_dk tdX11_told_223 0 rfl
theorem dX11_told_224 : decode cX11_told 224 = .ok (.getfield 56, 3) := z_dk tdX11_told_223 1 rfl
theorem dX11_told_227 : decode cX11_told 227 = .ok (.getfield 189, 3) := z_dk tdX11_told_223 2 rfl
theorem dX11_told_230 : decode cX11_told 230 = .ok (.i2l, 1) := z_dk tdX11_told_223 3 rfl
theorem dX11_told_231 : decode cX11_told 231 = .ok (.lreturn, 1) := z_dk tdX11_told_223 4 rfl
theorem dX11_told_232 : decode cX11_told 232 = .ok (.aload_n 0, 1) := z_dk tdX11_told_223 5 rfl
theorem dX11_told_233 : decode cX11_told 233 = .ok (.getfield 56, 3) := z_dk tdX11_told_223 6 rfl
theorem dX11_told_236 : decode cX11_told 236 = .ok (.getfield 192, 3) := z_dk tdX11_told_223 7 rfl
theorem dX11_told_239 : decode cX11_told 239 = .ok (.i2l, 1) := z_dk tdX11_told_223 8 rfl
theorem dX11_told_240 : decode cX11_told 240 = .ok (.lreturn, 1) := z_dk tdX11_told_223 9 rfl
theorem dX11_told_241 : decode cX11_told 241 = .ok (.aload_n 0, 1) := z_dk tdX11_told_223 10 rfl
theorem dX11_told_242 : decode cX11_told 242 = .ok (.getfield 18, 3) := z_dk tdX11_told_223 11 rfl
theorem dX11_told_245 : decode cX11_told 245 = .ok (.iload_n 1, 1) := z_dk tdX11_told_223 12 rfl
theorem dX11_told_246 : decode cX11_told 246 = .ok (.bipush 6, 2) := z_dk tdX11_told_223 13 rfl
theorem dX11_told_248 : decode cX11_told 248 = .ok (.isub, 1) := z_dk tdX11_told_223 14 rfl
theorem dX11_told_249 : decode cX11_told 249 = .ok (.invokevirtual 143, 3) := z_dk tdX11_told_223 15 rfl
theorem dX11_told_252 : decode cX11_told 252 = .ok (.i2l, 1) := z_dk tdX11_told_223 16 rfl
theorem dX11_told_253 : decode cX11_told 253 = .ok (.lreturn, 1) := z_dk tdX11_told_223 17 rfl
theorem tdX11_unit_0 : (([(0, .aload_n 0, 1), (1, .invokevirtual 124, 3), (4, .aload_n 0, 1), (5, .iload_n 1, 1), (6, .aload_n 0, 1), (7, .getfield 56, 3), (10, .getfield 127, 3), (13, .invokevirtual 153, 3), (16, .aload_n 0, 1), (17, .iload_n 2, 1), (18, .iconst 0, 1), (19, .bipush 7, 2), (21, .invokevirtual 113, 3), (24, .iload_n 2, 1), (25, .tableswitch 127 0 6 #[43, 55, 67, 79, 91, 103, 115], 43), (68, .aload_n 0, 1), (69, .getfield 56, 3), (72, .getfield 195, 3), (75, .iload_n 1, 1), (76, .invokevirtual 143, 3), (79, .ireturn, 1), (80, .aload_n 0, 1), (81, .getfield 56, 3), (84, .getfield 159, 3)] : List (Nat × Instr × Nat)).all fun e => decide (decode cX11_unit e.1 = .ok e.2)) = true := by decide +kernel
theorem dX11_unit_0 : decode cX11_unit 0 = .ok (.aload_n 0, 1) := z_dk tdX11_unit_0 0 rfl
theorem dX11_unit_1 : decode cX11_unit 1 = .ok (.invokevirtual 124, 3) := z_dk tdX11_unit_0 1 rfl
theorem dX11_unit_4 : decode cX11_unit 4 = .ok (.aload_n 0, 1) := z_dk tdX11_unit_0 2 rfl
theorem dX11_unit_5 : decode cX11_unit 5 = .ok (.iload_n 1, 1) := z_dk tdX11_unit_0 3 rfl
theorem dX11_unit_6 : decode cX11_unit 6 = .ok (.aload_n 0, 1) := z_dk tdX11_unit_0 4 rfl
theorem dX11_unit_7 : decode cX11_unit 7 = .ok (.getfield 56, 3) := z_dk tdX11_unit_0 5 rfl
theorem dX11_unit_10 : decode cX11_unit 10 = .ok (.getfield 127, 3) := z_dk tdX11_unit_0 6 rfl
theorem dX11_unit_13 : decode cX11_unit 13 = .ok (.invokevirtual 153, 3) := z_dk tdX11_unit_0 7 rfl
theorem dX11_unit_16 : decode cX11_unit 16 = .ok (.aload_n 0, 1) := z_dk tdX11_unit_0 8 rfl
theorem dX11_unit_17 : decode cX11_unit 17 = .ok (.iload_n 2, 1) := z_dk tdX11_unit_0 9 rfl
theorem dX11_unit_18 : decode cX11_unit 18 = .ok (.iconst 0, 1) := z_dk tdX11_unit_0 10 rfl
theorem dX11_unit_19 : decode cX11_unit 19 = .ok (.bipush 7, 2) := z_dk tdX11_unit_0 11 rfl
theorem dX11_unit_21 : decode cX11_unit 21 = .ok (.invokevirtual 113, 3) := z_dk tdX11_unit_0 12 rfl
theorem dX11_unit_24 : decode cX11_unit 24 = .ok (.iload_n 2, 1) := z_dk tdX11_unit_0 13 rfl
theorem dX11_unit_25 : decode cX11_unit 25 = .ok (.tableswitch 127 0 6 #[43, 55, 67, 79, 91, 103, 115], 43) := z_dk tdX11_unit_0 14 rfl
theorem dX11_unit_68 : decode cX11_unit 68 = .ok (.aload_n 0, 1) := z_dk tdX11_unit_0 15 rfl
theorem dX11_unit_69 : decode cX11_unit 69 = .ok (.getfield 56, 3) := z_dk tdX11_unit_0 16 rfl
theorem dX11_unit_72 : decode cX11_unit 72 = .ok (.getfield 195, 3) := z_dk tdX11_unit_0 17 rfl
theorem dX11_unit_75 : decode cX11_unit 75 = .ok (.iload_n 1, 1) := z_dk tdX11_unit_0 18 rfl
theorem dX11_unit_76 : decode cX11_unit 76 = .ok (.invokevirtual 143, 3) := z_dk tdX11_unit_0 19 rfl
theorem dX11_unit_79 : decode cX11_unit 79 = .ok (.ireturn, 1) := z_dk tdX11_unit_0 20 rfl
theorem dX11_unit_80 : decode cX11_unit 80 = .ok (.aload_n 0, 1) := z_dk tdX11_unit_0 21 rfl
theorem dX11_unit_81 : decode cX11_unit 81 = .ok (.getfield 56, 3) := z_dk tdX11_unit_0 22 rfl
theorem dX11_unit_84 : decode cX11_unit 84 = .ok (.getfield 159, 3) := z_dk tdX11_unit_0 23 rfl
theorem tdX11_unit_87 : (([(87, .iload_n 1, 1), (88, .invokevirtual 143, 3), (91, .ireturn, 1), (92, .aload_n 0, 1), (93, .getfield 56, 3), (96, .getfield 162, 3), (99, .iload_n 1, 1), (100, .invokevirtual 143, 3), (103, .ireturn, 1), (104, .aload_n 0, 1), (105, .getfield 86, 3), (108, .getfield 198, 3), (111, .iload_n 1, 1), (112, .invokevirtual 143, 3), (115, .ireturn, 1), (116, .aload_n 0, 1), (117, .getfield 86, 3), (120, .getfield 201, 3), (123, .iload_n 1, 1), (124, .invokevirtual 143, 3), (127, .ireturn, 1), (128, .aload_n 0, 1), (129, .getfield 86, 3), (132, .getfield 204, 3)] : List (Nat × Instr × Nat)).all fun e => decide (decode cX11_unit e.1 = .ok e.2)) = true := by decide +kernel
theorem dX11_unit_87 : decode cX11_unit 87 = .ok (.iload_n 1, 1) := z_dk tdX11_unit_87 0 rfl
theorem dX11_unit_88 : decode cX11_unit 88 = .ok (.invokevirtual 143, 3) := z_dk tdX11_unit_87 1 rfl
theorem dX11_unit_91 : decode cX11_unit 91 = .ok (.ireturn, 1) := z_dk tdX11_unit_87 2 rfl
theorem dX11_unit_92 : decode cX11_unit 92 = .ok (.aload_n 0, 1) := z_dk tdX11_unit_87 3 rfl
theorem dX11_unit_93 : decode cX11_unit 93 = .ok (.getfield 56, 3) := z_dk tdX11_unit_87 4 rfl
theorem dX11_unit_96 : decode cX11_unit 96 = .ok (.getfield 162, 3) := z_dk tdX11_unit_87 5 rfl
theorem dX11_unit_99 : decode cX11_unit 99 = .ok (.iload_n 1, 1) := z_dk tdX11_unit_87 6 rfl
theorem dX11_unit_100 : decode cX11_unit 100 = .ok (.invokevirtual 143, 3) := z_dk tdX11_unit_87 7 rfl
theorem dX11_unit_103 : decode cX11_unit 103 = .ok (.ireturn, 1) := z_dk tdX11_unit_87 8 rfl
theorem dX11_unit_104 : decode cX11_unit 104 = .ok (.aload_n 0, 1) := z_dk tdX11_unit_87 9 rfl
theorem dX11_unit_105 : decode cX11_unit 105 = .ok (.getfield 86, 3) := z_dk tdX11_unit_87 10 rfl
theorem dX11_unit_108 : decode cX11_unit 108 = .ok (.getfield 198, 3) := z_dk tdX11_unit_87 11 rfl
theorem dX11_unit_111 : decode cX11_unit 111 = .ok (.iload_n 1, 1) := z_dk tdX11_unit_87 12 rfl
theorem dX11_unit_112 : decode cX11_unit 112 = .ok (.invokevirtual 143, 3) := z_dk tdX11_unit_87 13 rfl
theorem dX11_unit_115 : decode cX11_unit 115 = .ok (.ireturn, 1) := z_dk tdX11_unit_87 14 rfl
theorem dX11_unit_116 : decode cX11_unit 116 = .ok (.aload_n 0, 1) := z_dk tdX11_unit_87 15 rfl
theorem dX11_unit_117 : decode cX11_unit 117 = .ok (.getfield 86, 3) := z_dk tdX11_unit_87 16 rfl
theorem dX11_unit_120 : decode cX11_unit 120 = .ok (.getfield 201, 3) := z_dk tdX11_unit_87 17 rfl
theorem dX11_unit_123 : decode cX11_unit 123 = .ok (.iload_n 1, 1) := z_dk tdX11_unit_87 18 rfl
theorem dX11_unit_124 : decode cX11_unit 124 = .ok (.invokevirtual 143, 3) := z_dk tdX11_unit_87 19 rfl
theorem dX11_unit_127 : decode cX11_unit 127 = .ok (.ireturn, 1) := z_dk tdX11_unit_87 20 rfl
theorem dX11_unit_128 : decode cX11_unit 128 = .ok (.aload_n 0, 1) := z_dk tdX11_unit_87 21 rfl
theorem dX11_unit_129 : decode cX11_unit 129 = .ok (.getfield 86, 3) := z_dk tdX11_unit_87 22 rfl
theorem dX11_unit_132 : decode cX11_unit 132 = .ok (.getfield 204, 3) := z_dk tdX11_unit_87 23 rfl
theorem tdX11_unit_135 : (([(135, .iload_n 1, 1), (136, .invokevirtual 143, 3), (139, .ireturn, 1), (140, .aload_n 0, 1), (141, .getfield 56, 3), (144, .getfield 207, 3), (147, .iload_n 1, 1), (148, .invokevirtual 143, 3), (151, .ireturn, 1), (152, .aload_n 0, 1), (153, .getfield 86, 3), (156, .getfield 210, 3), (159, .iload_n 1, 1), (160, .invokevirtual 143, 3), (163, .ireturn, 1)] : List (Nat × Instr × Nat)).all fun e => decide (decode cX11_unit e.1 = .ok e.2)) = true := by decide +kernel
theorem dX11_unit_135 : decode cX11_unit 135 = .ok (.iload_n 1, 1) := z_dk tdX11_unit_135 0 rfl
theorem dX11_unit_136 : decode cX11_unit 136 = .ok (.invokevirtual 143, 3) := z_dk tdX11_unit_135 1 rfl
theorem dX11_unit_139 : decode cX11_unit 139 = .ok (.ireturn, 1) := z_dk tdX11_unit_135 2 rfl
theorem dX11_unit_140 : decode cX11_unit 140 = .ok (.aload_n 0, 1) := z_dk tdX11_unit_135 3 rfl
theorem dX11_unit_141 : decode cX11_unit 141 = .ok (.getfield 56, 3) := z_dk tdX11_unit_135 4 rfl
theorem dX11_unit_144 : decode cX11_unit 144 = .ok (.getfield 207, 3) := z_dk tdX11_unit_135 5 rfl
theorem dX11_unit_147 : decode cX11_unit 147 = .ok (.iload_n 1, 1) := z_dk tdX11_unit_135 6 rfl
theorem dX11_unit_148 : decode cX11_unit 148 = .ok (.invokevirtual 143, 3) := z_dk tdX11_unit_135 7 rfl
theorem dX11_unit_151 : decode cX11_unit 151 = .ok (.ireturn, 1) := z_dk tdX11_unit_135 8 rfl
theorem dX11_unit_152 : decode cX11_unit 152 = .ok (.aload_n 0, 1) := z_dk tdX11_unit_135 9 rfl
theorem dX11_unit_153 : decode cX11_unit 153 = .ok (.getfield 86, 3) := z_dk tdX11_unit_135 10 rfl
theorem dX11_unit_156 : decode cX11_unit 156 = .ok (.getfield 210, 3) := z_dk tdX11_unit_135 11 rfl
theorem dX11_unit_159 : decode cX11_unit 159 = .ok (.iload_n 1, 1) := z_dk tdX11_unit_135 12 rfl
theorem dX11_unit_160 : decode cX11_unit 160 = .ok (.invokevirtual 143, 3) := z_dk tdX11_unit_135 13 rfl
theorem dX11_unit_163 : decode cX11_unit 163 = .ok (.ireturn, 1) := z_dk tdX11_unit_135 14 rfl
theorem tdX11_sign_0 : (([(0, .aload_n 0, 1), (1, .invokevirtual 124, 3), (4, .aload_n 0, 1), (5, .iload_n 1, 1), (6, .aload_n 0, 1), (7, .getfield 28, 3), (10, .getfield 172, 3), (13, .invokevirtual 153, 3), (16, .aload_n 0, 1), (17, .iload_n 2, 1), (18, .iconst 0, 1), (19, .bipush 6, 2), (21, .invokevirtual 113, 3), (24, .iload_n 2, 1), (25, .tableswitch 119 0 5 #[39, 51, 63, 85, 97, 109], 39), (64, .aload_n 0, 1), (65, .getfield 28, 3), (68, .getfield 213, 3), (71, .iload_n 1, 1), (72, .invokevirtual 143, 3), (75, .ireturn, 1), (76, .aload_n 0, 1), (77, .getfield 56, 3), (80, .getfield 216, 3)] : List (Nat × Instr × Nat)).all fun e => decide (decode cX11_sign e.1 = .ok e.2)) = true := by decide +kernel
theorem dX11_sign_0 : decode cX11_sign 0 = .ok (.aload_n 0, 1) := z_dk tdX11_sign_0 0 rfl
theorem dX11_sign_1 : decode cX11_sign 1 = .ok (.invokevirtual 124, 3) := z_dk tdX11_sign_0 1 rfl
theorem dX11_sign_4 : decode cX11_sign 4 = .ok (.aload_n 0, 1) := z_dk tdX11_sign_0 2 rfl
theorem dX11_sign_5 : decode cX11_sign 5 = .ok (.iload_n 1, 1) := z_dk tdX11_sign_0 3 rfl
theorem dX11_sign_6 : decode cX11_sign 6 = .ok (.aload_n 0, 1) := z_dk tdX11_sign_0 4 rfl
theorem dX11_sign_7 : decode cX11_sign 7 = .ok (.getfield 28, 3) := z_dk tdX11_sign_0 5 rfl
theorem dX11_sign_10 : decode cX11_sign 10 = .ok (.getfield 172, 3) := z_dk tdX11_sign_0 6 rfl
theorem dX11_sign_13 : decode cX11_sign 13 = .ok (.invokevirtual 153, 3) := z_dk tdX11_sign_0 7 rfl
theorem dX11_sign_16 : decode cX11_sign 16 = .ok (.aload_n 0, 1) := z_dk tdX11_sign_0 8 rfl
theorem dX11_sign_17 : decode cX11_sign 17 = .ok (.iload_n 2, 1) := z_dk tdX11_sign_0 9 rfl
theorem dX11_sign_18 : decode cX11_sign 18 = .ok (.iconst 0, 1) := z_dk tdX11_sign_0 10 rfl
theorem dX11_sign_19 : decode cX11_sign 19 = .ok (.bipush 6, 2) := z_dk tdX11_sign_0 11 rfl
theorem dX11_sign_21 : decode cX11_sign 21 = .ok (.invokevirtual 113, 3) := z_dk tdX11_sign_0 12 rfl
theorem dX11_sign_24 : decode cX11_sign 24 = .ok (.iload_n 2, 1) := z_dk tdX11_sign_0 13 rfl
theorem dX11_sign_25 : decode cX11_sign 25 = .ok (.tableswitch 119 0 5 #[39, 51, 63, 85, 97, 109], 39) := z_dk tdX11_sign_0 14 rfl
theorem dX11_sign_64 : decode cX11_sign 64 = .ok (.aload_n 0, 1) := z_dk tdX11_sign_0 15 rfl
theorem dX11_sign_65 : decode cX11_sign 65 = .ok (.getfield 28, 3) := z_dk tdX11_sign_0 16 rfl
theorem dX11_sign_68 : decode cX11_sign 68 = .ok (.getfield 213, 3) := z_dk tdX11_sign_0 17 rfl
theorem dX11_sign_71 : decode cX11_sign 71 = .ok (.iload_n 1, 1) := z_dk tdX11_sign_0 18 rfl
theorem dX11_sign_72 : decode cX11_sign 72 = .ok (.invokevirtual 143, 3) := z_dk tdX11_sign_0 19 rfl
theorem dX11_sign_75 : decode cX11_sign 75 = .ok (.ireturn, 1) := z_dk tdX11_sign_0 20 rfl
theorem dX11_sign_76 : decode cX11_sign 76 = .ok (.aload_n 0, 1) := z_dk tdX11_sign_0 21 rfl
theorem dX11_sign_77 : decode cX11_sign 77 = .ok (.getfield 56, 3) := z_dk tdX11_sign_0 22 rfl
theorem dX11_sign_80 : decode cX11_sign 80 = .ok (.getfield 216, 3) := z_dk tdX11_sign_0 23 rfl
theorem tdX11_sign_83 : (([(83, .iload_n 1, 1), (84, .invokevirtual 143, 3), (87, .ireturn, 1), (88, .aload_n 0, 1), (89, .getfield 86, 3), (92, .getfield 201, 3), (95, .aload_n 0, 1), (96, .getfield 56, 3), (99, .getfield 216, 3), (102, .iload_n 1, 1), (103, .invokevirtual 143, 3), (106, .invokevirtual 143, 3), (109, .ireturn, 1), (110, .aload_n 0, 1), (111, .getfield 86, 3), (114, .getfield 219, 3), (117, .iload_n 1, 1), (118, .invokevirtual 143, 3), (121, .ireturn, 1), (122, .aload_n 0, 1), (123, .getfield 56, 3), (126, .getfield 222, 3), (129, .iload_n 1, 1), (130, .invokevirtual 143, 3)] : List (Nat × Instr × Nat)).all fun e => decide (decode cX11_sign e.1 = .ok e.2)) = true := by decide +kernel
theorem dX11_sign_83 : decode cX11_sign 83 = .ok (.iload_n 1, 1) := z_dk tdX11_sign_83 0 rfl
theorem dX11_sign_84 : decode cX11_sign 84 = .ok (.invokevirtual 143, 3) := z_dk tdX11_sign_83 1 rfl
theorem dX11_sign_87 : decode cX11_sign 87 = .ok (.ireturn, 1) := z_dk tdX11_sign_83 2 rfl
theorem dX11_sign_88 : decode cX11_sign 88 = .ok (.aload_n 0, 1) := z_dk tdX11_sign_83 3 rfl
theorem dX11_sign_89 : decode cX11_sign 89 = .ok (.getfield 86, 3) := z_dk tdX11_sign_83 4 rfl
theorem dX11_sign_92 : decode cX11_sign 92 = .ok (.getfield 201, 3) := z_dk tdX11_sign_83 5 rfl
theorem dX11_sign_95 : decode cX11_sign 95 = .ok (.aload_n 0, 1) := z_dk tdX11_sign_83 6 rfl
theorem dX11_sign_96 : decode cX11_sign 96 = .ok (.getfield 56, 3) := z_dk tdX11_sign_83 7 rfl
theorem dX11_sign_99 : decode cX11_sign 99 = .ok (.getfield 216, 3) := z_dk tdX11_sign_83 8 rfl
theorem dX11_sign_102 : decode cX11_sign 102 = .ok (.iload_n 1, 1) := z_dk tdX11_sign_83 9 rfl
theorem dX11_sign_103 : decode cX11_sign 103 = .ok (.invokevirtual 143, 3) := z_dk tdX11_sign_83 10 rfl
theorem dX11_sign_106 : decode cX11_sign 106 = .ok (.invokevirtual 143, 3) := z_dk tdX11_sign_83 11 rfl
theorem dX11_sign_109 : decode cX11_sign 109 = .ok (.ireturn, 1) := z_dk tdX11_sign_83 12 rfl
theorem dX11_sign_110 : decode cX11_sign 110 = .ok (.aload_n 0, 1) := z_dk tdX11_sign_83 13 rfl
theorem dX11_sign_111 : decode cX11_sign 111 = .ok (.getfield 86, 3) := z_dk tdX11_sign_83 14 rfl
theorem dX11_sign_114 : decode cX11_sign 114 = .ok (.getfield 219, 3) := z_dk tdX11_sign_83 15 rfl
theorem dX11_sign_117 : decode cX11_sign 117 = .ok (.iload_n 1, 1) := z_dk tdX11_sign_83 16 rfl
theorem dX11_sign_118 : decode cX11_sign 118 = .ok (.invokevirtual 143, 3) := z_dk tdX11_sign_83 17 rfl
theorem dX11_sign_121 : decode cX11_sign 121 = .ok (.ireturn, 1) := z_dk tdX11_sign_83 18 rfl
theorem dX11_sign_122 : decode cX11_sign 122 = .ok (.aload_n 0, 1) := z_dk tdX11_sign_83 19 rfl
theorem dX11_sign_123 : decode cX11_sign 123 = .ok (.getfield 56, 3) := z_dk tdX11_sign_83 20 rfl
theorem dX11_sign_126 : decode cX11_sign 126 = .ok (.getfield 222, 3) := z_dk tdX11_sign_83 21 rfl
theorem dX11_sign_129 : decode cX11_sign 129 = .ok (.iload_n 1, 1) := z_dk tdX11_sign_83 22 rfl
theorem dX11_sign_130 : decode cX11_sign 130 = .ok (.invokevirtual 143, 3) := z_dk tdX11_sign_83 23 rfl
theorem tdX11_sign_133 : (([(133, .ireturn, 1), (134, .aload_n 0, 1), (135, .getfield 56, 3), (138, .iload_n 1, 1), (139, .iconst 0, 1), (140, .invokevirtual 225, 3), (143, .ireturn, 1), (144, .aload_n 0, 1), (145, .getfield 56, 3), (148, .iload_n 1, 1), (149, .iconst 1, 1), (150, .invokevirtual 225, 3), (153, .ireturn, 1)] : List (Nat × Instr × Nat)).all fun e => decide (decode cX11_sign e.1 = .ok e.2)) = true := by decide +kernel
theorem dX11_sign_133 : decode cX11_sign 133 = .ok (.ireturn, 1) := z_dk tdX11_sign_133 0 rfl
theorem dX11_sign_134 : decode cX11_sign 134 = .ok (.aload_n 0, 1) := z_dk tdX11_sign_133 1 rfl
theorem dX11_sign_135 : decode cX11_sign 135 = .ok (.getfield 56, 3) := z_dk tdX11_sign_133 2 rfl
theorem dX11_sign_138 : decode cX11_sign 138 = .ok (.iload_n 1, 1) := z_dk tdX11_sign_133 3 rfl
theorem dX11_sign_139 : decode cX11_sign 139 = .ok (.iconst 0, 1) := z_dk tdX11_sign_133 4 rfl
theorem dX11_sign_140 : decode cX11_sign 140 = .ok (.invokevirtual 225, 3) := z_dk tdX11_sign_133 5 rfl
theorem dX11_sign_143 : decode cX11_sign 143 = .ok (.ireturn, 1) := z_dk tdX11_sign_133 6 rfl
theorem dX11_sign_144 : decode cX11_sign 144 = .ok (.aload_n 0, 1) := z_dk tdX11_sign_133 7 rfl
theorem dX11_sign_145 : decode cX11_sign 145 = .ok (.getfield 56, 3) := z_dk tdX11_sign_133 8 rfl
theorem dX11_sign_148 : decode cX11_sign 148 = .ok (.iload_n 1, 1) := z_dk tdX11_sign_133 9 rfl
theorem dX11_sign_149 : decode cX11_sign 149 = .ok (.iconst 1, 1) := z_dk tdX11_sign_133 10 rfl
theorem dX11_sign_150 : decode cX11_sign 150 = .ok (.invokevirtual 225, 3) := z_dk tdX11_sign_133 11 rfl
theorem dX11_sign_153 : decode cX11_sign 153 = .ok (.ireturn, 1) := z_dk tdX11_sign_133 12 rfl
theorem tdX11_line_0 : (([(0, .aload_n 0, 1), (1, .invokevirtual 124, 3), (4, .aload_n 0, 1), (5, .iload_n 1, 1), (6, .aload_n 0, 1), (7, .getfield 74, 3), (10, .getfield 176, 3), (13, .invokevirtual 153, 3), (16, .aload_n 0, 1), (17, .iload_n 2, 1), (18, .iconst 0, 1), (19, .bipush 7, 2), (21, .invokevirtual 113, 3), (24, .iload_n 2, 1), (25, .tableswitch 164 0 6 #[43, 55, 81, 93, 114, 126, 152], 43), (68, .aload_n 0, 1), (69, .getfield 74, 3), (72, .getfield 229, 3), (75, .iload_n 1, 1), (76, .invokevirtual 143, 3), (79, .ireturn, 1), (80, .aload_n 0, 1), (81, .getfield 74, 3), (84, .getfield 229, 3)] : List (Nat × Instr × Nat)).all fun e => decide (decode cX11_line e.1 = .ok e.2)) = true := by decide +kernel
theorem dX11_line_0 : decode cX11_line 0 = .ok (.aload_n 0, 1) := z_dk tdX11_line_0 0 rfl
theorem dX11_line_1 : decode cX11_line 1 = .ok (.invokevirtual 124, 3) := z_dk tdX11_line_0 1 rfl
theorem dX11_line_4 : decode cX11_line 4 = .ok (.aload_n 0, 1) := z_dk tdX11_line_0 2 rfl
theorem dX11_line_5 : decode cX11_line 5 = .ok (.iload_n 1, 1) := z_dk tdX11_line_0 3 rfl
theorem dX11_line_6 : decode cX11_line 6 = .ok (.aload_n 0, 1) := z_dk tdX11_line_0 4 rfl
theorem dX11_line_7 : decode cX11_line 7 = .ok (.getfield 74, 3) := z_dk tdX11_line_0 5 rfl
theorem dX11_line_10 : decode cX11_line 10 = .ok (.getfield 176, 3) := z_dk tdX11_line_0 6 rfl
theorem dX11_line_13 : decode cX11_line 13 = .ok (.invokevirtual 153, 3) := z_dk tdX11_line_0 7 rfl
theorem dX11_line_16 : decode cX11_line 16 = .ok (.aload_n 0, 1) := z_dk tdX11_line_0 8 rfl
theorem dX11_line_17 : decode cX11_line 17 = .ok (.iload_n 2, 1) := z_dk tdX11_line_0 9 rfl
theorem dX11_line_18 : decode cX11_line 18 = .ok (.iconst 0, 1) := z_dk tdX11_line_0 10 rfl
theorem dX11_line_19 : decode cX11_line 19 = .ok (.bipush 7, 2) := z_dk tdX11_line_0 11 rfl
theorem dX11_line_21 : decode cX11_line 21 = .ok (.invokevirtual 113, 3) := z_dk tdX11_line_0 12 rfl
theorem dX11_line_24 : decode cX11_line 24 = .ok (.iload_n 2, 1) := z_dk tdX11_line_0 13 rfl
theorem dX11_line_25 : decode cX11_line 25 = .ok (.tableswitch 164 0 6 #[43, 55, 81, 93, 114, 126, 152], 43) := z_dk tdX11_line_0 14 rfl
theorem dX11_line_68 : decode cX11_line 68 = .ok (.aload_n 0, 1) := z_dk tdX11_line_0 15 rfl
theorem dX11_line_69 : decode cX11_line 69 = .ok (.getfield 74, 3) := z_dk tdX11_line_0 16 rfl
theorem dX11_line_72 : decode cX11_line 72 = .ok (.getfield 229, 3) := z_dk tdX11_line_0 17 rfl
theorem dX11_line_75 : decode cX11_line 75 = .ok (.iload_n 1, 1) := z_dk tdX11_line_0 18 rfl
theorem dX11_line_76 : decode cX11_line 76 = .ok (.invokevirtual 143, 3) := z_dk tdX11_line_0 19 rfl
theorem dX11_line_79 : decode cX11_line 79 = .ok (.ireturn, 1) := z_dk tdX11_line_0 20 rfl
theorem dX11_line_80 : decode cX11_line 80 = .ok (.aload_n 0, 1) := z_dk tdX11_line_0 21 rfl
theorem dX11_line_81 : decode cX11_line 81 = .ok (.getfield 74, 3) := z_dk tdX11_line_0 22 rfl
theorem dX11_line_84 : decode cX11_line 84 = .ok (.getfield 229, 3) := z_dk tdX11_line_0 23 rfl
theorem tdX11_line_87 : (([(87, .iload_n 1, 1), (88, .iconst 1, 1), (89, .iadd, 1), (90, .invokevirtual 143, 3), (93, .aload_n 0, 1), (94, .getfield 74, 3), (97, .getfield 229, 3), (100, .iload_n 1, 1), (101, .invokevirtual 143, 3), (104, .isub, 1), (105, .ireturn, 1), (106, .aload_n 0, 1), (107, .getfield 86, 3), (110, .getfield 232, 3), (113, .iload_n 1, 1), (114, .invokevirtual 143, 3), (117, .ireturn, 1), (118, .aload_n 0, 1), (119, .getfield 18, 3), (122, .iconst 0, 1), (123, .invokevirtual 143, 3), (126, .aload_n 0, 1), (127, .getfield 86, 3), (130, .getfield 232, 3)] : List (Nat × Instr × Nat)).all fun e => decide (decode cX11_line e.1 = .ok e.2)) = true := by decide +kernel
theorem dX11_line_87 : decode cX11_line 87 = .ok (.iload_n 1, 1) := z_dk tdX11_line_87 0 rfl
theorem dX11_line_88 : decode cX11_line 88 = .ok (.iconst 1, 1) := z_dk tdX11_line_87 1 rfl
theorem dX11_line_89 : decode cX11_line 89 = .ok (.iadd, 1) := z_dk tdX11_line_87 2 rfl
theorem dX11_line_90 : decode cX11_line 90 = .ok (.invokevirtual 143, 3) := z_dk tdX11_line_87 3 rfl
theorem dX11_line_93 : decode cX11_line 93 = .ok (.aload_n 0, 1) := z_dk tdX11_line_87 4 rfl
theorem dX11_line_94 : decode cX11_line 94 = .ok (.getfield 74, 3) := z_dk tdX11_line_87 5 rfl
theorem dX11_line_97 : decode cX11_line 97 = .ok (.getfield 229, 3) := z_dk tdX11_line_87 6 rfl
theorem dX11_line_100 : decode cX11_line 100 = .ok (.iload_n 1, 1) := z_dk tdX11_line_87 7 rfl
theorem dX11_line_101 : decode cX11_line 101 = .ok (.invokevirtual 143, 3) := z_dk tdX11_line_87 8 rfl
theorem dX11_line_104 : decode cX11_line 104 = .ok (.isub, 1) := z_dk tdX11_line_87 9 rfl
theorem dX11_line_105 : decode cX11_line 105 = .ok (.ireturn, 1) := z_dk tdX11_line_87 10 rfl
theorem dX11_line_106 : decode cX11_line 106 = .ok (.aload_n 0, 1) := z_dk tdX11_line_87 11 rfl
theorem dX11_line_107 : decode cX11_line 107 = .ok (.getfield 86, 3) := z_dk tdX11_line_87 12 rfl
theorem dX11_line_110 : decode cX11_line 110 = .ok (.getfield 232, 3) := z_dk tdX11_line_87 13 rfl
theorem dX11_line_113 : decode cX11_line 113 = .ok (.iload_n 1, 1) := z_dk tdX11_line_87 14 rfl
theorem dX11_line_114 : decode cX11_line 114 = .ok (.invokevirtual 143, 3) := z_dk tdX11_line_87 15 rfl
theorem dX11_line_117 : decode cX11_line 117 = .ok (.ireturn, 1) := z_dk tdX11_line_87 16 rfl
theorem dX11_line_118 : decode cX11_line 118 = .ok (.aload_n 0, 1) := z_dk tdX11_line_87 17 rfl
theorem dX11_line_119 : decode cX11_line 119 = .ok (.getfield 18, 3) := z_dk tdX11_line_87 18 rfl
theorem dX11_line_122 : decode cX11_line 122 = .ok (.iconst 0, 1) := z_dk tdX11_line_87 19 rfl
theorem dX11_line_123 : decode cX11_line 123 = .ok (.invokevirtual 143, 3) := z_dk tdX11_line_87 20 rfl
theorem dX11_line_126 : decode cX11_line 126 = .ok (.aload_n 0, 1) := z_dk tdX11_line_87 21 rfl
theorem dX11_line_127 : decode cX11_line 127 = .ok (.getfield 86, 3) := z_dk tdX11_line_87 22 rfl
theorem dX11_line_130 : decode cX11_line 130 = .ok (.getfield 232, 3) := z_dk tdX11_line_87 23 rfl
theorem tdX11_line_133 : (([(133, .iload_n 1, 1), (134, .invokevirtual 143, 3), (137, .isub, 1), (138, .ireturn, 1), (139, .aload_n 0, 1), (140, .getfield 86, 3), (143, .getfield 235, 3), (146, .iload_n 1, 1), (147, .invokevirtual 143, 3), (150, .ireturn, 1), (151, .aload_n 0, 1), (152, .getfield 86, 3), (155, .getfield 238, 3), (158, .iload_n 1, 1), (159, .iconst 1, 1), (160, .iadd, 1), (161, .invokevirtual 143, 3), (164, .aload_n 0, 1), (165, .getfield 86, 3), (168, .getfield 238, 3), (171, .iload_n 1, 1), (172, .invokevirtual 143, 3), (175, .isub, 1), (176, .ireturn, 1)] : List (Nat × Instr × Nat)).all fun e => decide (decode cX11_line e.1 = .ok e.2)) = true := by decide +kernel
theorem dX11_line_133 : decode cX11_line 133 = .ok (.iload_n 1, 1) := z_dk tdX11_line_133 0 rfl
theorem dX11_line_134 : decode cX11_line 134 = .ok (.invokevirtual 143, 3) := z_dk tdX11_line_133 1 rfl
theorem dX11_line_137 : decode cX11_line 137 = .ok (.isub, 1) := z_dk tdX11_line_133 2 rfl
theorem dX11_line_138 : decode cX11_line 138 = .ok (.ireturn, 1) := z_dk tdX11_line_133 3 rfl
theorem dX11_line_139 : decode cX11_line 139 = .ok (.aload_n 0, 1) := z_dk tdX11_line_133 4 rfl
theorem dX11_line_140 : decode cX11_line 140 = .ok (.getfield 86, 3) := z_dk tdX11_line_133 5 rfl
theorem dX11_line_143 : decode cX11_line 143 = .ok (.getfield 235, 3) := z_dk tdX11_line_133 6 rfl
theorem dX11_line_146 : decode cX11_line 146 = .ok (.iload_n 1, 1) := z_dk tdX11_line_133 7 rfl
theorem dX11_line_147 : decode cX11_line 147 = .ok (.invokevirtual 143, 3) := z_dk tdX11_line_133 8 rfl
theorem dX11_line_150 : decode cX11_line 150 = .ok (.ireturn, 1) := z_dk tdX11_line_133 9 rfl
theorem dX11_line_151 : decode cX11_line 151 = .ok (.aload_n 0, 1) := z_dk tdX11_line_133 10 rfl
theorem dX11_line_152 : decode cX11_line 152 = .ok (.getfield 86, 3) := z_dk tdX11_line_133 11 rfl
theorem dX11_line_155 : decode cX11_line 155 = .ok (.getfield 238, 3) := z_dk tdX11_line_133 12 rfl
theorem dX11_line_158 : decode cX11_line 158 = .ok (.iload_n 1, 1) := z_dk tdX11_line_133 13 rfl
theorem dX11_line_159 : decode cX11_line 159 = .ok (.iconst 1, 1) := z_dk tdX11_line_133 14 rfl
theorem dX11_line_160 : decode cX11_line 160 = .ok (.iadd, 1) := z_dk tdX11_line_133 15 rfl
theorem dX11_line_161 : decode cX11_line 161 = .ok (.invokevirtual 143, 3) := z_dk tdX11_line_133 16 rfl
theorem dX11_line_164 : decode cX11_line 164 = .ok (.aload_n 0, 1) := z_dk tdX11_line_133 17 rfl
theorem dX11_line_165 : decode cX11_line 165 = .ok (.getfield 86, 3) := z_dk tdX11_line_133 18 rfl
theorem dX11_line_168 : decode cX11_line 168 = .ok (.getfield 238, 3) := z_dk tdX11_line_133 19 rfl
theorem dX11_line_171 : decode cX11_line 171 = .ok (.iload_n 1, 1) := z_dk tdX11_line_133 20 rfl
theorem dX11_line_172 : decode cX11_line 172 = .ok (.invokevirtual 143, 3) := z_dk tdX11_line_133 21 rfl
theorem dX11_line_175 : decode cX11_line 175 = .ok (.isub, 1) := z_dk tdX11_line_133 22 rfl
theorem dX11_line_176 : decode cX11_line 176 = .ok (.ireturn, 1) := z_dk tdX11_line_133 23 rfl
theorem tdX11_line_177 : (([(177, .aload_n 0, 1), (178, .getfield 86, 3), (181, .getfield 241, 3), (184, .iload_n 1, 1), (185, .invokevirtual 143, 3), (188, .ireturn, 1), (189, .aload_n 0, 1), (190, .getfield 86, 3), (193, .getfield 244, 3), (196, .iload_n 1, 1), (197, .invokevirtual 143, 3), (200, .ireturn, 1)] : List (Nat × Instr × Nat)).all fun e => decide (decode cX11_line e.1 = .ok e.2)) = true := by decide +kernel
theorem dX11_line_177 : decode cX11_line 177 = .ok (.aload_n 0, 1) := z_dk tdX11_line_177 0 rfl
theorem dX11_line_178 : decode cX11_line 178 = .ok (.getfield 86, 3) := z_dk tdX11_line_177 1 rfl
theorem dX11_line_181 : decode cX11_line 181 = .ok (.getfield 241, 3) := z_dk tdX11_line_177 2 rfl
theorem dX11_line_184 : decode cX11_line 184 = .ok (.iload_n 1, 1) := z_dk tdX11_line_177 3 rfl
theorem dX11_line_185 : decode cX11_line 185 = .ok (.invokevirtual 143, 3) := z_dk tdX11_line_177 4 rfl
theorem dX11_line_188 : decode cX11_line 188 = .ok (.ireturn, 1) := z_dk tdX11_line_177 5 rfl
theorem dX11_line_189 : decode cX11_line 189 = .ok (.aload_n 0, 1) := z_dk tdX11_line_177 6 rfl
theorem dX11_line_190 : decode cX11_line 190 = .ok (.getfield 86, 3) := z_dk tdX11_line_177 7 rfl
theorem dX11_line_193 : decode cX11_line 193 = .ok (.getfield 244, 3) := z_dk tdX11_line_177 8 rfl
theorem dX11_line_196 : decode cX11_line 196 = .ok (.iload_n 1, 1) := z_dk tdX11_line_177 9 rfl
theorem dX11_line_197 : decode cX11_line 197 = .ok (.invokevirtual 143, 3) := z_dk tdX11_line_177 10 rfl
theorem dX11_line_200 : decode cX11_line 200 = .ok (.ireturn, 1) := z_dk tdX11_line_177 11 rfl
theorem tdX11_block_0 : (([(0, .aload_n 0, 1), (1, .invokevirtual 124, 3), (4, .aload_n 0, 1), (5, .getfield 86, 3), (8, .getfield 247, 3), (11, .astore_n 3, 1), (12, .aload_n 0, 1), (13, .iload_n 1, 1), (14, .aload_n 3, 1), (15, .getfield 251, 3), (18, .invokevirtual 153, 3), (21, .aload_n 0, 1), (22, .iload_n 2, 1), (23, .iconst 0, 1), (24, .bipush 7, 2), (26, .invokevirtual 113, 3), (29, .iload_n 2, 1), (30, .tableswitch 113 0 6 #[42, 51, 71, 80, 89, 98, 107], 42), (72, .aload_n 3, 1), (73, .getfield 254, 3), (76, .iload_n 1, 1), (77, .invokevirtual 143, 3), (80, .ireturn, 1), (81, .aload_n 3, 1)] : List (Nat × Instr × Nat)).all fun e => decide (decode cX11_block e.1 = .ok e.2)) = true := by decide +kernel
theorem dX11_block_0 : decode cX11_block 0 = .ok (.aload_n 0, 1) := z_dk tdX11_block_0 0 rfl
theorem dX11_block_1 : decode cX11_block 1 = .ok (.invokevirtual 124, 3) := z_dk tdX11_block_0 1 rfl
theorem dX11_block_4 : decode cX11_block 4 = .ok (.aload_n 0, 1) := z_dk tdX11_block_0 2 rfl
theorem dX11_block_5 : decode cX11_block 5 = .ok (.getfield 86, 3) := z_dk tdX11_block_0 3 rfl
theorem dX11_block_8 : decode cX11_block 8 = .ok (.getfield 247, 3) := z_dk tdX11_block_0 4 rfl
theorem dX11_block_11 : decode cX11_block 11 = .ok (.astore_n 3, 1) := z_dk tdX11_block_0 5 rfl
theorem dX11_block_12 : decode cX11_block 12 = .ok (.aload_n 0, 1) := z_dk tdX11_block_0 6 rfl
theorem dX11_block_13 : decode cX11_block 13 = .ok (.iload_n 1, 1) := z_dk tdX11_block_0 7 rfl
theorem dX11_block_14 : decode cX11_block 14 = .ok (.aload_n 3, 1) := z_dk tdX11_block_0 8 rfl
theorem dX11_block_15 : decode cX11_block 15 = .ok (.getfield 251, 3) := z_dk tdX11_block_0 9 rfl
theorem dX11_block_18 : decode cX11_block 18 = .ok (.invokevirtual 153, 3) := z_dk tdX11_block_0 10 rfl
theorem dX11_block_21 : decode cX11_block 21 = .ok (.aload_n 0, 1) := z_dk tdX11_block_0 11 rfl
theorem dX11_block_22 : decode cX11_block 22 = .ok (.iload_n 2, 1) := z_dk tdX11_block_0 12 rfl
theorem dX11_block_23 : decode cX11_block 23 = .ok (.iconst 0, 1) := z_dk tdX11_block_0 13 rfl
theorem dX11_block_24 : decode cX11_block 24 = .ok (.bipush 7, 2) := z_dk tdX11_block_0 14 rfl
theorem dX11_block_26 : decode cX11_block 26 = .ok (.invokevirtual 113, 3) := z_dk tdX11_block_0 15 rfl
theorem dX11_block_29 : decode cX11_block 29 = .ok (.iload_n 2, 1) := z_dk tdX11_block_0 16 rfl
theorem dX11_block_30 : decode cX11_block 30 = .ok (.tableswitch 113 0 6 #[42, 51, 71, 80, 89, 98, 107], 42) := z_dk tdX11_block_0 17 rfl
theorem dX11_block_72 : decode cX11_block 72 = .ok (.aload_n 3, 1) := z_dk tdX11_block_0 18 rfl
theorem dX11_block_73 : decode cX11_block 73 = .ok (.getfield 254, 3) := z_dk tdX11_block_0 19 rfl
theorem dX11_block_76 : decode cX11_block 76 = .ok (.iload_n 1, 1) := z_dk tdX11_block_0 20 rfl
theorem dX11_block_77 : decode cX11_block 77 = .ok (.invokevirtual 143, 3) := z_dk tdX11_block_0 21 rfl
theorem dX11_block_80 : decode cX11_block 80 = .ok (.ireturn, 1) := z_dk tdX11_block_0 22 rfl
theorem dX11_block_81 : decode cX11_block 81 = .ok (.aload_n 3, 1) := z_dk tdX11_block_0 23 rfl
theorem tdX11_block_82 : (([(82, .getfield 255, 3), (85, .iload_n 1, 1), (86, .invokevirtual 143, 3), (89, .aload_n 3, 1), (90, .getfield 254, 3), (93, .iload_n 1, 1), (94, .invokevirtual 143, 3), (97, .isub, 1), (98, .iconst 1, 1), (99, .iadd, 1), (100, .ireturn, 1), (101, .aload_n 3, 1), (102, .getfield 258, 3), (105, .iload_n 1, 1), (106, .invokevirtual 143, 3), (109, .ireturn, 1), (110, .aload_n 3, 1), (111, .getfield 261, 3), (114, .iload_n 1, 1), (115, .invokevirtual 143, 3), (118, .ireturn, 1), (119, .aload_n 3, 1), (120, .getfield 264, 3), (123, .iload_n 1, 1)] : List (Nat × Instr × Nat)).all fun e => decide (decode cX11_block e.1 = .ok e.2)) = true := by decide +kernel
theorem dX11_block_82 : decode cX11_block 82 = .ok (.getfield 255, 3) := z_dk tdX11_block_82 0 rfl
theorem dX11_block_85 : decode cX11_block 85 = .ok (.iload_n 1, 1) := z_dk tdX11_block_82 1 rfl
theorem dX11_block_86 : decode cX11_block 86 = .ok (.invokevirtual 143, 3) := z_dk tdX11_block_82 2 rfl
theorem dX11_block_89 : decode cX11_block 89 = .ok (.aload_n 3, 1) := z_dk tdX11_block_82 3 rfl
theorem dX11_block_90 : decode cX11_block 90 = .ok (.getfield 254, 3) := z_dk tdX11_block_82 4 rfl
theorem dX11_block_93 : decode cX11_block 93 = .ok (.iload_n 1, 1) := z_dk tdX11_block_82 5 rfl
theorem dX11_block_94 : decode cX11_block 94 = .ok (.invokevirtual 143, 3) := z_dk tdX11_block_82 6 rfl
theorem dX11_block_97 : decode cX11_block 97 = .ok (.isub, 1) := z_dk tdX11_block_82 7 rfl
theorem dX11_block_98 : decode cX11_block 98 = .ok (.iconst 1, 1) := z_dk tdX11_block_82 8 rfl
theorem dX11_block_99 : decode cX11_block 99 = .ok (.iadd, 1) := z_dk tdX11_block_82 9 rfl
theorem dX11_block_100 : decode cX11_block 100 = .ok (.ireturn, 1) := z_dk tdX11_block_82 10 rfl
theorem dX11_block_101 : decode cX11_block 101 = .ok (.aload_n 3, 1) := z_dk tdX11_block_82 11 rfl
theorem dX11_block_102 : decode cX11_block 102 = .ok (.getfield 258, 3) := z_dk tdX11_block_82 12 rfl
theorem dX11_block_105 : decode cX11_block 105 = .ok (.iload_n 1, 1) := z_dk tdX11_block_82 13 rfl
theorem dX11_block_106 : decode cX11_block 106 = .ok (.invokevirtual 143, 3) := z_dk tdX11_block_82 14 rfl
theorem dX11_block_109 : decode cX11_block 109 = .ok (.ireturn, 1) := z_dk tdX11_block_82 15 rfl
theorem dX11_block_110 : decode cX11_block 110 = .ok (.aload_n 3, 1) := z_dk tdX11_block_82 16 rfl
theorem dX11_block_111 : decode cX11_block 111 = .ok (.getfield 261, 3) := z_dk tdX11_block_82 17 rfl
theorem dX11_block_114 : decode cX11_block 114 = .ok (.iload_n 1, 1) := z_dk tdX11_block_82 18 rfl
theorem dX11_block_115 : decode cX11_block 115 = .ok (.invokevirtual 143, 3) := z_dk tdX11_block_82 19 rfl
theorem dX11_block_118 : decode cX11_block 118 = .ok (.ireturn, 1) := z_dk tdX11_block_82 20 rfl
theorem dX11_block_119 : decode cX11_block 119 = .ok (.aload_n 3, 1) := z_dk tdX11_block_82 21 rfl
theorem dX11_block_120 : decode cX11_block 120 = .ok (.getfield 264, 3) := z_dk tdX11_block_82 22 rfl
theorem dX11_block_123 : decode cX11_block 123 = .ok (.iload_n 1, 1) := z_dk tdX11_block_82 23 rfl
theorem tdX11_block_124 : (([(124, .invokevirtual 143, 3), (127, .ireturn, 1), (128, .aload_n 3, 1), (129, .getfield 267, 3), (132, .iload_n 1, 1), (133, .invokevirtual 143, 3), (136, .ireturn, 1), (137, .aload_n 3, 1), (138, .iload_n 1, 1), (139, .invokevirtual 270, 3), (142, .ireturn, 1), (143, .aload_n 3, 1), (144, .iload_n 1, 1), (145, .invokevirtual 273, 3), (148, .ireturn, 1)] : List (Nat × Instr × Nat)).all fun e => decide (decode cX11_block e.1 = .ok e.2)) = true := by decide +kernel
theorem dX11_block_124 : decode cX11_block 124 = .ok (.invokevirtual 143, 3) := z_dk tdX11_block_124 0 rfl
theorem dX11_block_127 : decode cX11_block 127 = .ok (.ireturn, 1) := z_dk tdX11_block_124 1 rfl
theorem dX11_block_128 : decode cX11_block 128 = .ok (.aload_n 3, 1) := z_dk tdX11_block_124 2 rfl
theorem dX11_block_129 : decode cX11_block 129 = .ok (.getfield 267, 3) := z_dk tdX11_block_124 3 rfl
theorem dX11_block_132 : decode cX11_block 132 = .ok (.iload_n 1, 1) := z_dk tdX11_block_124 4 rfl
theorem dX11_block_133 : decode cX11_block 133 = .ok (.invokevirtual 143, 3) := z_dk tdX11_block_124 5 rfl
theorem dX11_block_136 : decode cX11_block 136 = .ok (.ireturn, 1) := z_dk tdX11_block_124 6 rfl
theorem dX11_block_137 : decode cX11_block 137 = .ok (.aload_n 3, 1) := z_dk tdX11_block_124 7 rfl
theorem dX11_block_138 : decode cX11_block 138 = .ok (.iload_n 1, 1) := z_dk tdX11_block_124 8 rfl
theorem dX11_block_139 : decode cX11_block 139 = .ok (.invokevirtual 270, 3) := z_dk tdX11_block_124 9 rfl
theorem dX11_block_142 : decode cX11_block 142 = .ok (.ireturn, 1) := z_dk tdX11_block_124 10 rfl
theorem dX11_block_143 : decode cX11_block 143 = .ok (.aload_n 3, 1) := z_dk tdX11_block_124 11 rfl
theorem dX11_block_144 : decode cX11_block 144 = .ok (.iload_n 1, 1) := z_dk tdX11_block_124 12 rfl
theorem dX11_block_145 : decode cX11_block 145 = .ok (.invokevirtual 273, 3) := z_dk tdX11_block_124 13 rfl
theorem dX11_block_148 : decode cX11_block 148 = .ok (.ireturn, 1) := z_dk tdX11_block_124 14 rfl
theorem tdX11_reading_0 : (([(0, .aload_n 0, 1), (1, .invokevirtual 124, 3), (4, .aload_n 0, 1), (5, .iload_n 1, 1), (6, .aload_n 0, 1), (7, .getfield 86, 3), (10, .getfield 247, 3), (13, .getfield 251, 3), (16, .invokevirtual 153, 3), (19, .aload_n 0, 1), (20, .iload_n 2, 1), (21, .iconst 0, 1), (22, .iconst 1, 1), (23, .invokevirtual 113, 3), (26, .aload_n 0, 1), (27, .iload_n 3, 1), (28, .iconst 0, 1), (29, .ldc_w 276, 3), (32, .invokevirtual 113, 3), (35, .aload_n 0, 1), (36, .iload 4, 2), (38, .iconst 0, 1), (39, .iconst 1, 1), (40, .invokevirtual 113, 3)] : List (Nat × Instr × Nat)).all fun e => decide (decode cX11_reading e.1 = .ok e.2)) = true := by decide +kernel
theorem dX11_reading_0 : decode cX11_reading 0 = .ok (.aload_n 0, 1) := z_dk tdX11_reading_0 0 rfl
theorem dX11_reading_1 : decode cX11_reading 1 = .ok (.invokevirtual 124, 3) := z_dk tdX11_reading_0 1 rfl
theorem dX11_reading_4 : decode cX11_reading 4 = .ok (.aload_n 0, 1) := z_dk tdX11_reading_0 2 rfl
theorem dX11_reading_5 : decode cX11_reading 5 = .ok (.iload_n 1, 1) := z_dk tdX11_reading_0 3 rfl
theorem dX11_reading_6 : decode cX11_reading 6 = .ok (.aload_n 0, 1) := z_dk tdX11_reading_0 4 rfl
theorem dX11_reading_7 : decode cX11_reading 7 = .ok (.getfield 86, 3) := z_dk tdX11_reading_0 5 rfl
theorem dX11_reading_10 : decode cX11_reading 10 = .ok (.getfield 247, 3) := z_dk tdX11_reading_0 6 rfl
theorem dX11_reading_13 : decode cX11_reading 13 = .ok (.getfield 251, 3) := z_dk tdX11_reading_0 7 rfl
theorem dX11_reading_16 : decode cX11_reading 16 = .ok (.invokevirtual 153, 3) := z_dk tdX11_reading_0 8 rfl
theorem dX11_reading_19 : decode cX11_reading 19 = .ok (.aload_n 0, 1) := z_dk tdX11_reading_0 9 rfl
theorem dX11_reading_20 : decode cX11_reading 20 = .ok (.iload_n 2, 1) := z_dk tdX11_reading_0 10 rfl
theorem dX11_reading_21 : decode cX11_reading 21 = .ok (.iconst 0, 1) := z_dk tdX11_reading_0 11 rfl
theorem dX11_reading_22 : decode cX11_reading 22 = .ok (.iconst 1, 1) := z_dk tdX11_reading_0 12 rfl
theorem dX11_reading_23 : decode cX11_reading 23 = .ok (.invokevirtual 113, 3) := z_dk tdX11_reading_0 13 rfl
theorem dX11_reading_26 : decode cX11_reading 26 = .ok (.aload_n 0, 1) := z_dk tdX11_reading_0 14 rfl
theorem dX11_reading_27 : decode cX11_reading 27 = .ok (.iload_n 3, 1) := z_dk tdX11_reading_0 15 rfl
theorem dX11_reading_28 : decode cX11_reading 28 = .ok (.iconst 0, 1) := z_dk tdX11_reading_0 16 rfl
theorem dX11_reading_29 : decode cX11_reading 29 = .ok (.ldc_w 276, 3) := z_dk tdX11_reading_0 17 rfl
theorem dX11_reading_32 : decode cX11_reading 32 = .ok (.invokevirtual 113, 3) := z_dk tdX11_reading_0 18 rfl
theorem dX11_reading_35 : decode cX11_reading 35 = .ok (.aload_n 0, 1) := z_dk tdX11_reading_0 19 rfl
theorem dX11_reading_36 : decode cX11_reading 36 = .ok (.iload 4, 2) := z_dk tdX11_reading_0 20 rfl
theorem dX11_reading_38 : decode cX11_reading 38 = .ok (.iconst 0, 1) := z_dk tdX11_reading_0 21 rfl
theorem dX11_reading_39 : decode cX11_reading 39 = .ok (.iconst 1, 1) := z_dk tdX11_reading_0 22 rfl
theorem dX11_reading_40 : decode cX11_reading 40 = .ok (.invokevirtual 113, 3) := z_dk tdX11_reading_0 23 rfl
theorem tdX11_reading_43 : (([(43, .iload_n 3, 1), (44, .aload_n 0, 1), (45, .getfield 86, 3), (48, .getfield 247, 3), (51, .iload_n 1, 1), (52, .iload_n 2, 1), (53, .invokevirtual 277, 3), (56, .if_icmp .lt 7, 3), (59, .iconst 1, 1), (60, .goto 4, 3), (63, .iconst 0, 1), (64, .istore 5, 2), (66, .iload 4, 2), (68, .ifCond .ne 23, 3), (71, .iload 5, 2), (73, .ifCond .eq 7, 3), (76, .iconst (-1), 1), (77, .goto 13, 3), (80, .aload_n 0, 1), (81, .getfield 86, 3), (84, .iload_n 1, 1), (85, .iload_n 2, 1), (86, .iload_n 3, 1), (87, .invokevirtual 280, 3)] : List (Nat × Instr × Nat)).all fun e => decide (decode cX11_reading e.1 = .ok e.2)) = true := by decide +kernel
theorem dX11_reading_43 : decode cX11_reading 43 = .ok (.iload_n 3, 1) := z_dk tdX11_reading_43 0 rfl
theorem dX11_reading_44 : decode cX11_reading 44 = .ok (.aload_n 0, 1) := z_dk tdX11_reading_43 1 rfl
theorem dX11_reading_45 : decode cX11_reading 45 = .ok (.getfield 86, 3) := z_dk tdX11_reading_43 2 rfl
theorem dX11_reading_48 : decode cX11_reading 48 = .ok (.getfield 247, 3) := z_dk tdX11_reading_43 3 rfl
theorem dX11_reading_51 : decode cX11_reading 51 = .ok (.iload_n 1, 1) := z_dk tdX11_reading_43 4 rfl
theorem dX11_reading_52 : decode cX11_reading 52 = .ok (.iload_n 2, 1) := z_dk tdX11_reading_43 5 rfl
theorem dX11_reading_53 : decode cX11_reading 53 = .ok (.invokevirtual 277, 3) := z_dk tdX11_reading_43 6 rfl
theorem dX11_reading_56 : decode cX11_reading 56 = .ok (.if_icmp .lt 7, 3) := z_dk tdX11_reading_43 7 rfl
theorem dX11_reading_59 : decode cX11_reading 59 = .ok (.iconst 1, 1) := z_dk tdX11_reading_43 8 rfl
theorem dX11_reading_60 : decode cX11_reading 60 = .ok (.goto 4, 3) := z_dk tdX11_reading_43 9 rfl
theorem dX11_reading_63 : decode cX11_reading 63 = .ok (.iconst 0, 1) := z_dk tdX11_reading_43 10 rfl
theorem dX11_reading_64 : decode cX11_reading 64 = .ok (.istore 5, 2) := z_dk tdX11_reading_43 11 rfl
theorem dX11_reading_66 : decode cX11_reading 66 = .ok (.iload 4, 2) := z_dk tdX11_reading_43 12 rfl
theorem dX11_reading_68 : decode cX11_reading 68 = .ok (.ifCond .ne 23, 3) := z_dk tdX11_reading_43 13 rfl
theorem dX11_reading_71 : decode cX11_reading 71 = .ok (.iload 5, 2) := z_dk tdX11_reading_43 14 rfl
theorem dX11_reading_73 : decode cX11_reading 73 = .ok (.ifCond .eq 7, 3) := z_dk tdX11_reading_43 15 rfl
theorem dX11_reading_76 : decode cX11_reading 76 = .ok (.iconst (-1), 1) := z_dk tdX11_reading_43 16 rfl
theorem dX11_reading_77 : decode cX11_reading 77 = .ok (.goto 13, 3) := z_dk tdX11_reading_43 17 rfl
theorem dX11_reading_80 : decode cX11_reading 80 = .ok (.aload_n 0, 1) := z_dk tdX11_reading_43 18 rfl
theorem dX11_reading_81 : decode cX11_reading 81 = .ok (.getfield 86, 3) := z_dk tdX11_reading_43 19 rfl
theorem dX11_reading_84 : decode cX11_reading 84 = .ok (.iload_n 1, 1) := z_dk tdX11_reading_43 20 rfl
theorem dX11_reading_85 : decode cX11_reading 85 = .ok (.iload_n 2, 1) := z_dk tdX11_reading_43 21 rfl
theorem dX11_reading_86 : decode cX11_reading 86 = .ok (.iload_n 3, 1) := z_dk tdX11_reading_43 22 rfl
theorem dX11_reading_87 : decode cX11_reading 87 = .ok (.invokevirtual 280, 3) := z_dk tdX11_reading_43 23 rfl
theorem tdX11_reading_90 : (([(90, .ireturn, 1), (91, .iload 5, 2), (93, .ifCond .eq 9, 3), (96, .sipush (-1000), 3), (99, .goto 13, 3), (102, .aload_n 0, 1), (103, .getfield 86, 3), (106, .iload_n 1, 1), (107, .iload_n 2, 1), (108, .iload_n 3, 1), (109, .invokevirtual 284, 3), (112, .ireturn, 1)] : List (Nat × Instr × Nat)).all fun e => decide (decode cX11_reading e.1 = .ok e.2)) = true := by decide +kernel
theorem dX11_reading_90 : decode cX11_reading 90 = .ok (.ireturn, 1) := z_dk tdX11_reading_90 0 rfl
theorem dX11_reading_91 : decode cX11_reading 91 = .ok (.iload 5, 2) := z_dk tdX11_reading_90 1 rfl
theorem dX11_reading_93 : decode cX11_reading 93 = .ok (.ifCond .eq 9, 3) := z_dk tdX11_reading_90 2 rfl
theorem dX11_reading_96 : decode cX11_reading 96 = .ok (.sipush (-1000), 3) := z_dk tdX11_reading_90 3 rfl
theorem dX11_reading_99 : decode cX11_reading 99 = .ok (.goto 13, 3) := z_dk tdX11_reading_90 4 rfl
theorem dX11_reading_102 : decode cX11_reading 102 = .ok (.aload_n 0, 1) := z_dk tdX11_reading_90 5 rfl
theorem dX11_reading_103 : decode cX11_reading 103 = .ok (.getfield 86, 3) := z_dk tdX11_reading_90 6 rfl
theorem dX11_reading_106 : decode cX11_reading 106 = .ok (.iload_n 1, 1) := z_dk tdX11_reading_90 7 rfl
theorem dX11_reading_107 : decode cX11_reading 107 = .ok (.iload_n 2, 1) := z_dk tdX11_reading_90 8 rfl
theorem dX11_reading_108 : decode cX11_reading 108 = .ok (.iload_n 3, 1) := z_dk tdX11_reading_90 9 rfl
theorem dX11_reading_109 : decode cX11_reading 109 = .ok (.invokevirtual 284, 3) := z_dk tdX11_reading_90 10 rfl
theorem dX11_reading_112 : decode cX11_reading 112 = .ok (.ireturn, 1) := z_dk tdX11_reading_90 11 rfl
theorem tdX11_run_0 : (([(0, .aload_n 0, 1), (1, .iload_n 2, 1), (2, .iconst 0, 1), (3, .iconst 2, 1), (4, .invokevirtual 113, 3), (7, .aload_n 0, 1), (8, .invokevirtual 124, 3), (11, .iconst 0, 1), (12, .istore_n 3, 1), (13, .iconst 0, 1), (14, .istore 4, 2), (16, .iconst 1, 1), (17, .istore 5, 2), (19, .iload 5, 2), (21, .aload_n 0, 1), (22, .getfield 28, 3), (25, .getfield 172, 3), (28, .if_icmp .gt 89, 3), (31, .aload_n 0, 1), (32, .getfield 56, 3), (35, .getfield 222, 3), (38, .iload 4, 2), (40, .invokevirtual 143, 3), (43, .istore 6, 2)] : List (Nat × Instr × Nat)).all fun e => decide (decode cX11_run e.1 = .ok e.2)) = true := by decide +kernel
theorem dX11_run_0 : decode cX11_run 0 = .ok (.aload_n 0, 1) := z_dk tdX11_run_0 0 rfl
theorem dX11_run_1 : decode cX11_run 1 = .ok (.iload_n 2, 1) := z_dk tdX11_run_0 1 rfl
theorem dX11_run_2 : decode cX11_run 2 = .ok (.iconst 0, 1) := z_dk tdX11_run_0 2 rfl
theorem dX11_run_3 : decode cX11_run 3 = .ok (.iconst 2, 1) := z_dk tdX11_run_0 3 rfl
theorem dX11_run_4 : decode cX11_run 4 = .ok (.invokevirtual 113, 3) := z_dk tdX11_run_0 4 rfl
theorem dX11_run_7 : decode cX11_run 7 = .ok (.aload_n 0, 1) := z_dk tdX11_run_0 5 rfl
theorem dX11_run_8 : decode cX11_run 8 = .ok (.invokevirtual 124, 3) := z_dk tdX11_run_0 6 rfl
theorem dX11_run_11 : decode cX11_run 11 = .ok (.iconst 0, 1) := z_dk tdX11_run_0 7 rfl
theorem dX11_run_12 : decode cX11_run 12 = .ok (.istore_n 3, 1) := z_dk tdX11_run_0 8 rfl
theorem dX11_run_13 : decode cX11_run 13 = .ok (.iconst 0, 1) := z_dk tdX11_run_0 9 rfl
theorem dX11_run_14 : decode cX11_run 14 = .ok (.istore 4, 2) := z_dk tdX11_run_0 10 rfl
theorem dX11_run_16 : decode cX11_run 16 = .ok (.iconst 1, 1) := z_dk tdX11_run_0 11 rfl
theorem dX11_run_17 : decode cX11_run 17 = .ok (.istore 5, 2) := z_dk tdX11_run_0 12 rfl
theorem dX11_run_19 : decode cX11_run 19 = .ok (.iload 5, 2) := z_dk tdX11_run_0 13 rfl
theorem dX11_run_21 : decode cX11_run 21 = .ok (.aload_n 0, 1) := z_dk tdX11_run_0 14 rfl
theorem dX11_run_22 : decode cX11_run 22 = .ok (.getfield 28, 3) := z_dk tdX11_run_0 15 rfl
theorem dX11_run_25 : decode cX11_run 25 = .ok (.getfield 172, 3) := z_dk tdX11_run_0 16 rfl
theorem dX11_run_28 : decode cX11_run 28 = .ok (.if_icmp .gt 89, 3) := z_dk tdX11_run_0 17 rfl
theorem dX11_run_31 : decode cX11_run 31 = .ok (.aload_n 0, 1) := z_dk tdX11_run_0 18 rfl
theorem dX11_run_32 : decode cX11_run 32 = .ok (.getfield 56, 3) := z_dk tdX11_run_0 19 rfl
theorem dX11_run_35 : decode cX11_run 35 = .ok (.getfield 222, 3) := z_dk tdX11_run_0 20 rfl
theorem dX11_run_38 : decode cX11_run 38 = .ok (.iload 4, 2) := z_dk tdX11_run_0 21 rfl
theorem dX11_run_40 : decode cX11_run 40 = .ok (.invokevirtual 143, 3) := z_dk tdX11_run_0 22 rfl
theorem dX11_run_43 : decode cX11_run 43 = .ok (.istore 6, 2) := z_dk tdX11_run_0 23 rfl
theorem tdX11_run_45 : (([(45, .iload 5, 2), (47, .aload_n 0, 1), (48, .getfield 28, 3), (51, .getfield 172, 3), (54, .if_icmp .eq 20, 3), (57, .aload_n 0, 1), (58, .getfield 56, 3), (61, .getfield 222, 3), (64, .iload 5, 2), (66, .invokevirtual 143, 3), (69, .iload 6, 2), (71, .if_icmp .eq 40, 3), (74, .iload_n 3, 1), (75, .iload_n 1, 1), (76, .if_icmp .ne 28, 3), (79, .iload_n 2, 1), (80, .ifCond .ne 8, 3), (83, .iload 4, 2), (85, .goto 18, 3), (88, .iload_n 2, 1), (89, .iconst 1, 1), (90, .if_icmp .ne 11, 3), (93, .iload 5, 2), (95, .iload 4, 2)] : List (Nat × Instr × Nat)).all fun e => decide (decode cX11_run e.1 = .ok e.2)) = true := by decide +kernel
theorem dX11_run_45 : decode cX11_run 45 = .ok (.iload 5, 2) := z_dk tdX11_run_45 0 rfl
theorem dX11_run_47 : decode cX11_run 47 = .ok (.aload_n 0, 1) := z_dk tdX11_run_45 1 rfl
theorem dX11_run_48 : decode cX11_run 48 = .ok (.getfield 28, 3) := z_dk tdX11_run_45 2 rfl
theorem dX11_run_51 : decode cX11_run 51 = .ok (.getfield 172, 3) := z_dk tdX11_run_45 3 rfl
theorem dX11_run_54 : decode cX11_run 54 = .ok (.if_icmp .eq 20, 3) := z_dk tdX11_run_45 4 rfl
theorem dX11_run_57 : decode cX11_run 57 = .ok (.aload_n 0, 1) := z_dk tdX11_run_45 5 rfl
theorem dX11_run_58 : decode cX11_run 58 = .ok (.getfield 56, 3) := z_dk tdX11_run_45 6 rfl
theorem dX11_run_61 : decode cX11_run 61 = .ok (.getfield 222, 3) := z_dk tdX11_run_45 7 rfl
theorem dX11_run_64 : decode cX11_run 64 = .ok (.iload 5, 2) := z_dk tdX11_run_45 8 rfl
theorem dX11_run_66 : decode cX11_run 66 = .ok (.invokevirtual 143, 3) := z_dk tdX11_run_45 9 rfl
theorem dX11_run_69 : decode cX11_run 69 = .ok (.iload 6, 2) := z_dk tdX11_run_45 10 rfl
theorem dX11_run_71 : decode cX11_run 71 = .ok (.if_icmp .eq 40, 3) := z_dk tdX11_run_45 11 rfl
theorem dX11_run_74 : decode cX11_run 74 = .ok (.iload_n 3, 1) := z_dk tdX11_run_45 12 rfl
theorem dX11_run_75 : decode cX11_run 75 = .ok (.iload_n 1, 1) := z_dk tdX11_run_45 13 rfl
theorem dX11_run_76 : decode cX11_run 76 = .ok (.if_icmp .ne 28, 3) := z_dk tdX11_run_45 14 rfl
theorem dX11_run_79 : decode cX11_run 79 = .ok (.iload_n 2, 1) := z_dk tdX11_run_45 15 rfl
theorem dX11_run_80 : decode cX11_run 80 = .ok (.ifCond .ne 8, 3) := z_dk tdX11_run_45 16 rfl
theorem dX11_run_83 : decode cX11_run 83 = .ok (.iload 4, 2) := z_dk tdX11_run_45 17 rfl
theorem dX11_run_85 : decode cX11_run 85 = .ok (.goto 18, 3) := z_dk tdX11_run_45 18 rfl
theorem dX11_run_88 : decode cX11_run 88 = .ok (.iload_n 2, 1) := z_dk tdX11_run_45 19 rfl
theorem dX11_run_89 : decode cX11_run 89 = .ok (.iconst 1, 1) := z_dk tdX11_run_45 20 rfl
theorem dX11_run_90 : decode cX11_run 90 = .ok (.if_icmp .ne 11, 3) := z_dk tdX11_run_45 21 rfl
theorem dX11_run_93 : decode cX11_run 93 = .ok (.iload 5, 2) := z_dk tdX11_run_45 22 rfl
theorem dX11_run_95 : decode cX11_run 95 = .ok (.iload 4, 2) := z_dk tdX11_run_45 23 rfl
theorem tdX11_run_97 : (([(97, .isub, 1), (98, .goto 5, 3), (101, .iload 6, 2), (103, .ireturn, 1), (104, .iinc 3 1, 3), (107, .iload 5, 2), (109, .istore 4, 2), (111, .iinc 5 1, 3), (114, .goto (-95), 3), (117, .iconst (-1), 1), (118, .ireturn, 1)] : List (Nat × Instr × Nat)).all fun e => decide (decode cX11_run e.1 = .ok e.2)) = true := by decide +kernel
theorem dX11_run_97 : decode cX11_run 97 = .ok (.isub, 1) := z_dk tdX11_run_97 0 rfl
theorem dX11_run_98 : decode cX11_run 98 = .ok (.goto 5, 3) := z_dk tdX11_run_97 1 rfl
theorem dX11_run_101 : decode cX11_run 101 = .ok (.iload 6, 2) := z_dk tdX11_run_97 2 rfl
theorem dX11_run_103 : decode cX11_run 103 = .ok (.ireturn, 1) := z_dk tdX11_run_97 3 rfl
theorem dX11_run_104 : decode cX11_run 104 = .ok (.iinc 3 1, 3) := z_dk tdX11_run_97 4 rfl
theorem dX11_run_107 : decode cX11_run 107 = .ok (.iload 5, 2) := z_dk tdX11_run_97 5 rfl
theorem dX11_run_109 : decode cX11_run 109 = .ok (.istore 4, 2) := z_dk tdX11_run_97 6 rfl
theorem dX11_run_111 : decode cX11_run 111 = .ok (.iinc 5 1, 3) := z_dk tdX11_run_97 7 rfl
theorem dX11_run_114 : decode cX11_run 114 = .ok (.goto (-95), 3) := z_dk tdX11_run_97 8 rfl
theorem dX11_run_117 : decode cX11_run 117 = .ok (.iconst (-1), 1) := z_dk tdX11_run_97 9 rfl
theorem dX11_run_118 : decode cX11_run 118 = .ok (.ireturn, 1) := z_dk tdX11_run_97 10 rfl
theorem tdX11_at_0 : (([(0, .aload_n 0, 1), (1, .invokevirtual 124, 3), (4, .aload_n 0, 1), (5, .iload_n 1, 1), (6, .aload_n 0, 1), (7, .getfield 74, 3), (10, .getfield 176, 3), (13, .invokevirtual 153, 3), (16, .aload_n 0, 1), (17, .getfield 86, 3), (20, .iload_n 1, 1), (21, .iload_n 2, 1), (22, .invokevirtual 287, 3), (25, .ireturn, 1)] : List (Nat × Instr × Nat)).all fun e => decide (decode cX11_at e.1 = .ok e.2)) = true := by decide +kernel
theorem dX11_at_0 : decode cX11_at 0 = .ok (.aload_n 0, 1) := z_dk tdX11_at_0 0 rfl
theorem dX11_at_1 : decode cX11_at 1 = .ok (.invokevirtual 124, 3) := z_dk tdX11_at_0 1 rfl
theorem dX11_at_4 : decode cX11_at 4 = .ok (.aload_n 0, 1) := z_dk tdX11_at_0 2 rfl
theorem dX11_at_5 : decode cX11_at 5 = .ok (.iload_n 1, 1) := z_dk tdX11_at_0 3 rfl
theorem dX11_at_6 : decode cX11_at 6 = .ok (.aload_n 0, 1) := z_dk tdX11_at_0 4 rfl
theorem dX11_at_7 : decode cX11_at 7 = .ok (.getfield 74, 3) := z_dk tdX11_at_0 5 rfl
theorem dX11_at_10 : decode cX11_at 10 = .ok (.getfield 176, 3) := z_dk tdX11_at_0 6 rfl
theorem dX11_at_13 : decode cX11_at 13 = .ok (.invokevirtual 153, 3) := z_dk tdX11_at_0 7 rfl
theorem dX11_at_16 : decode cX11_at 16 = .ok (.aload_n 0, 1) := z_dk tdX11_at_0 8 rfl
theorem dX11_at_17 : decode cX11_at 17 = .ok (.getfield 86, 3) := z_dk tdX11_at_0 9 rfl
theorem dX11_at_20 : decode cX11_at 20 = .ok (.iload_n 1, 1) := z_dk tdX11_at_0 10 rfl
theorem dX11_at_21 : decode cX11_at 21 = .ok (.iload_n 2, 1) := z_dk tdX11_at_0 11 rfl
theorem dX11_at_22 : decode cX11_at 22 = .ok (.invokevirtual 287, 3) := z_dk tdX11_at_0 12 rfl
theorem dX11_at_25 : decode cX11_at 25 = .ok (.ireturn, 1) := z_dk tdX11_at_0 13 rfl
theorem tdX11_ends_0 : (([(0, .aload_n 0, 1), (1, .invokevirtual 124, 3), (4, .aload_n 0, 1), (5, .iload_n 1, 1), (6, .aload_n 0, 1), (7, .getfield 56, 3), (10, .getfield 127, 3), (13, .invokevirtual 153, 3), (16, .aload_n 0, 1), (17, .getfield 56, 3), (20, .getfield 290, 3), (23, .iload_n 1, 1), (24, .invokevirtual 143, 3), (27, .iconst 1, 1), (28, .if_icmp .ne 7, 3), (31, .iconst 1, 1), (32, .goto 4, 3), (35, .iconst 0, 1), (36, .ireturn, 1)] : List (Nat × Instr × Nat)).all fun e => decide (decode cX11_ends e.1 = .ok e.2)) = true := by decide +kernel
theorem dX11_ends_0 : decode cX11_ends 0 = .ok (.aload_n 0, 1) := z_dk tdX11_ends_0 0 rfl
theorem dX11_ends_1 : decode cX11_ends 1 = .ok (.invokevirtual 124, 3) := z_dk tdX11_ends_0 1 rfl
theorem dX11_ends_4 : decode cX11_ends 4 = .ok (.aload_n 0, 1) := z_dk tdX11_ends_0 2 rfl
theorem dX11_ends_5 : decode cX11_ends 5 = .ok (.iload_n 1, 1) := z_dk tdX11_ends_0 3 rfl
theorem dX11_ends_6 : decode cX11_ends 6 = .ok (.aload_n 0, 1) := z_dk tdX11_ends_0 4 rfl
theorem dX11_ends_7 : decode cX11_ends 7 = .ok (.getfield 56, 3) := z_dk tdX11_ends_0 5 rfl
theorem dX11_ends_10 : decode cX11_ends 10 = .ok (.getfield 127, 3) := z_dk tdX11_ends_0 6 rfl
theorem dX11_ends_13 : decode cX11_ends 13 = .ok (.invokevirtual 153, 3) := z_dk tdX11_ends_0 7 rfl
theorem dX11_ends_16 : decode cX11_ends 16 = .ok (.aload_n 0, 1) := z_dk tdX11_ends_0 8 rfl
theorem dX11_ends_17 : decode cX11_ends 17 = .ok (.getfield 56, 3) := z_dk tdX11_ends_0 9 rfl
theorem dX11_ends_20 : decode cX11_ends 20 = .ok (.getfield 290, 3) := z_dk tdX11_ends_0 10 rfl
theorem dX11_ends_23 : decode cX11_ends 23 = .ok (.iload_n 1, 1) := z_dk tdX11_ends_0 11 rfl
theorem dX11_ends_24 : decode cX11_ends 24 = .ok (.invokevirtual 143, 3) := z_dk tdX11_ends_0 12 rfl
theorem dX11_ends_27 : decode cX11_ends 27 = .ok (.iconst 1, 1) := z_dk tdX11_ends_0 13 rfl
theorem dX11_ends_28 : decode cX11_ends 28 = .ok (.if_icmp .ne 7, 3) := z_dk tdX11_ends_0 14 rfl
theorem dX11_ends_31 : decode cX11_ends 31 = .ok (.iconst 1, 1) := z_dk tdX11_ends_0 15 rfl
theorem dX11_ends_32 : decode cX11_ends 32 = .ok (.goto 4, 3) := z_dk tdX11_ends_0 16 rfl
theorem dX11_ends_35 : decode cX11_ends 35 = .ok (.iconst 0, 1) := z_dk tdX11_ends_0 17 rfl
theorem dX11_ends_36 : decode cX11_ends 36 = .ok (.ireturn, 1) := z_dk tdX11_ends_0 18 rfl
theorem tdX11_longOf_0 : (([(0, .aload_n 0, 1), (1, .invokevirtual 124, 3), (4, .aload_n 0, 1), (5, .iload_n 1, 1), (6, .aload_n 0, 1), (7, .getfield 56, 3), (10, .getfield 127, 3), (13, .invokevirtual 153, 3), (16, .aload_n 0, 1), (17, .iload_n 2, 1), (18, .aload_n 0, 1), (19, .getfield 56, 3), (22, .getfield 127, 3), (25, .invokevirtual 153, 3), (28, .aload_n 0, 1), (29, .iload_n 2, 1), (30, .iload_n 1, 1), (31, .aload_n 0, 1), (32, .getfield 56, 3), (35, .getfield 127, 3), (38, .invokevirtual 113, 3), (41, .aload_n 0, 1), (42, .getfield 65, 3), (45, .iload_n 1, 1)] : List (Nat × Instr × Nat)).all fun e => decide (decode cX11_longOf e.1 = .ok e.2)) = true := by decide +kernel
theorem dX11_longOf_0 : decode cX11_longOf 0 = .ok (.aload_n 0, 1) := z_dk tdX11_longOf_0 0 rfl
theorem dX11_longOf_1 : decode cX11_longOf 1 = .ok (.invokevirtual 124, 3) := z_dk tdX11_longOf_0 1 rfl
theorem dX11_longOf_4 : decode cX11_longOf 4 = .ok (.aload_n 0, 1) := z_dk tdX11_longOf_0 2 rfl
theorem dX11_longOf_5 : decode cX11_longOf 5 = .ok (.iload_n 1, 1) := z_dk tdX11_longOf_0 3 rfl
theorem dX11_longOf_6 : decode cX11_longOf 6 = .ok (.aload_n 0, 1) := z_dk tdX11_longOf_0 4 rfl
theorem dX11_longOf_7 : decode cX11_longOf 7 = .ok (.getfield 56, 3) := z_dk tdX11_longOf_0 5 rfl
theorem dX11_longOf_10 : decode cX11_longOf 10 = .ok (.getfield 127, 3) := z_dk tdX11_longOf_0 6 rfl
theorem dX11_longOf_13 : decode cX11_longOf 13 = .ok (.invokevirtual 153, 3) := z_dk tdX11_longOf_0 7 rfl
theorem dX11_longOf_16 : decode cX11_longOf 16 = .ok (.aload_n 0, 1) := z_dk tdX11_longOf_0 8 rfl
theorem dX11_longOf_17 : decode cX11_longOf 17 = .ok (.iload_n 2, 1) := z_dk tdX11_longOf_0 9 rfl
theorem dX11_longOf_18 : decode cX11_longOf 18 = .ok (.aload_n 0, 1) := z_dk tdX11_longOf_0 10 rfl
theorem dX11_longOf_19 : decode cX11_longOf 19 = .ok (.getfield 56, 3) := z_dk tdX11_longOf_0 11 rfl
theorem dX11_longOf_22 : decode cX11_longOf 22 = .ok (.getfield 127, 3) := z_dk tdX11_longOf_0 12 rfl
theorem dX11_longOf_25 : decode cX11_longOf 25 = .ok (.invokevirtual 153, 3) := z_dk tdX11_longOf_0 13 rfl
theorem dX11_longOf_28 : decode cX11_longOf 28 = .ok (.aload_n 0, 1) := z_dk tdX11_longOf_0 14 rfl
theorem dX11_longOf_29 : decode cX11_longOf 29 = .ok (.iload_n 2, 1) := z_dk tdX11_longOf_0 15 rfl
theorem dX11_longOf_30 : decode cX11_longOf 30 = .ok (.iload_n 1, 1) := z_dk tdX11_longOf_0 16 rfl
theorem dX11_longOf_31 : decode cX11_longOf 31 = .ok (.aload_n 0, 1) := z_dk tdX11_longOf_0 17 rfl
theorem dX11_longOf_32 : decode cX11_longOf 32 = .ok (.getfield 56, 3) := z_dk tdX11_longOf_0 18 rfl
theorem dX11_longOf_35 : decode cX11_longOf 35 = .ok (.getfield 127, 3) := z_dk tdX11_longOf_0 19 rfl
theorem dX11_longOf_38 : decode cX11_longOf 38 = .ok (.invokevirtual 113, 3) := z_dk tdX11_longOf_0 20 rfl
theorem dX11_longOf_41 : decode cX11_longOf 41 = .ok (.aload_n 0, 1) := z_dk tdX11_longOf_0 21 rfl
theorem dX11_longOf_42 : decode cX11_longOf 42 = .ok (.getfield 65, 3) := z_dk tdX11_longOf_0 22 rfl
theorem dX11_longOf_45 : decode cX11_longOf 45 = .ok (.iload_n 1, 1) := z_dk tdX11_longOf_0 23 rfl
theorem tdX11_longOf_46 : (([(46, .iload_n 2, 1), (47, .invokevirtual 293, 3), (50, .ireturn, 1)] : List (Nat × Instr × Nat)).all fun e => decide (decode cX11_longOf e.1 = .ok e.2)) = true := by decide +kernel
theorem dX11_longOf_46 : decode cX11_longOf 46 = .ok (.iload_n 2, 1) := z_dk tdX11_longOf_46 0 rfl
theorem dX11_longOf_47 : decode cX11_longOf 47 = .ok (.invokevirtual 293, 3) := z_dk tdX11_longOf_46 1 rfl
theorem dX11_longOf_50 : decode cX11_longOf 50 = .ok (.ireturn, 1) := z_dk tdX11_longOf_46 2 rfl
theorem tdX11_lines_0 : (([(0, .aload_n 0, 1), (1, .iload_n 1, 1), (2, .getstatic 133, 3), (5, .iconst 0, 1), (6, .invokestatic 136, 3), (9, .getstatic 140, 3), (12, .iconst 0, 1), (13, .invokestatic 136, 3), (16, .invokevirtual 113, 3), (19, .aload_n 0, 1), (20, .iload_n 2, 1), (21, .iconst 0, 1), (22, .iconst 1, 1), (23, .invokevirtual 113, 3), (26, .aload_n 0, 1), (27, .invokevirtual 124, 3), (30, .aload_n 0, 1), (31, .getfield 78, 3), (34, .iload_n 1, 1), (35, .iload_n 2, 1), (36, .invokevirtual 296, 3), (39, .aload_n 0, 1), (40, .getfield 78, 3), (43, .getfield 176, 3)] : List (Nat × Instr × Nat)).all fun e => decide (decode cX11_lines e.1 = .ok e.2)) = true := by decide +kernel
theorem dX11_lines_0 : decode cX11_lines 0 = .ok (.aload_n 0, 1) := z_dk tdX11_lines_0 0 rfl
theorem dX11_lines_1 : decode cX11_lines 1 = .ok (.iload_n 1, 1) := z_dk tdX11_lines_0 1 rfl
theorem dX11_lines_2 : decode cX11_lines 2 = .ok (.getstatic 133, 3) := z_dk tdX11_lines_0 2 rfl
theorem dX11_lines_5 : decode cX11_lines 5 = .ok (.iconst 0, 1) := z_dk tdX11_lines_0 3 rfl
theorem dX11_lines_6 : decode cX11_lines 6 = .ok (.invokestatic 136, 3) := z_dk tdX11_lines_0 4 rfl
theorem dX11_lines_9 : decode cX11_lines 9 = .ok (.getstatic 140, 3) := z_dk tdX11_lines_0 5 rfl
theorem dX11_lines_12 : decode cX11_lines 12 = .ok (.iconst 0, 1) := z_dk tdX11_lines_0 6 rfl
theorem dX11_lines_13 : decode cX11_lines 13 = .ok (.invokestatic 136, 3) := z_dk tdX11_lines_0 7 rfl
theorem dX11_lines_16 : decode cX11_lines 16 = .ok (.invokevirtual 113, 3) := z_dk tdX11_lines_0 8 rfl
theorem dX11_lines_19 : decode cX11_lines 19 = .ok (.aload_n 0, 1) := z_dk tdX11_lines_0 9 rfl
theorem dX11_lines_20 : decode cX11_lines 20 = .ok (.iload_n 2, 1) := z_dk tdX11_lines_0 10 rfl
theorem dX11_lines_21 : decode cX11_lines 21 = .ok (.iconst 0, 1) := z_dk tdX11_lines_0 11 rfl
theorem dX11_lines_22 : decode cX11_lines 22 = .ok (.iconst 1, 1) := z_dk tdX11_lines_0 12 rfl
theorem dX11_lines_23 : decode cX11_lines 23 = .ok (.invokevirtual 113, 3) := z_dk tdX11_lines_0 13 rfl
theorem dX11_lines_26 : decode cX11_lines 26 = .ok (.aload_n 0, 1) := z_dk tdX11_lines_0 14 rfl
theorem dX11_lines_27 : decode cX11_lines 27 = .ok (.invokevirtual 124, 3) := z_dk tdX11_lines_0 15 rfl
theorem dX11_lines_30 : decode cX11_lines 30 = .ok (.aload_n 0, 1) := z_dk tdX11_lines_0 16 rfl
theorem dX11_lines_31 : decode cX11_lines 31 = .ok (.getfield 78, 3) := z_dk tdX11_lines_0 17 rfl
theorem dX11_lines_34 : decode cX11_lines 34 = .ok (.iload_n 1, 1) := z_dk tdX11_lines_0 18 rfl
theorem dX11_lines_35 : decode cX11_lines 35 = .ok (.iload_n 2, 1) := z_dk tdX11_lines_0 19 rfl
theorem dX11_lines_36 : decode cX11_lines 36 = .ok (.invokevirtual 296, 3) := z_dk tdX11_lines_0 20 rfl
theorem dX11_lines_39 : decode cX11_lines 39 = .ok (.aload_n 0, 1) := z_dk tdX11_lines_0 21 rfl
theorem dX11_lines_40 : decode cX11_lines 40 = .ok (.getfield 78, 3) := z_dk tdX11_lines_0 22 rfl
theorem dX11_lines_43 : decode cX11_lines 43 = .ok (.getfield 176, 3) := z_dk tdX11_lines_0 23 rfl
theorem tdX11_lines_46 : (([(46, .ireturn, 1)] : List (Nat × Instr × Nat)).all fun e => decide (decode cX11_lines e.1 = .ok e.2)) = true := by decide +kernel
theorem dX11_lines_46 : decode cX11_lines 46 = .ok (.ireturn, 1) := z_dk tdX11_lines_46 0 rfl
theorem tdX11_least_0 : (([(0, .aload_n 0, 1), (1, .iload_n 1, 1), (2, .iconst 1, 1), (3, .sipush 200, 3), (6, .invokevirtual 113, 3), (9, .aload_n 0, 1), (10, .invokevirtual 124, 3), (13, .aload_n 0, 1), (14, .getfield 18, 3), (17, .iconst 3, 1), (18, .invokevirtual 143, 3), (21, .istore_n 2, 1), (22, .getstatic 140, 3), (25, .iconst 0, 1), (26, .invokestatic 136, 3), (29, .istore_n 3, 1), (30, .aload_n 0, 1), (31, .iload_n 1, 1), (32, .iload_n 2, 1), (33, .invokevirtual 299, 3), (36, .istore 4, 2), (38, .iload 4, 2), (40, .iload_n 3, 1), (41, .if_icmp .gt 45, 3)] : List (Nat × Instr × Nat)).all fun e => decide (decode cX11_least e.1 = .ok e.2)) = true := by decide +kernel
theorem dX11_least_0 : decode cX11_least 0 = .ok (.aload_n 0, 1) := z_dk tdX11_least_0 0 rfl
theorem dX11_least_1 : decode cX11_least 1 = .ok (.iload_n 1, 1) := z_dk tdX11_least_0 1 rfl
theorem dX11_least_2 : decode cX11_least 2 = .ok (.iconst 1, 1) := z_dk tdX11_least_0 2 rfl
theorem dX11_least_3 : decode cX11_least 3 = .ok (.sipush 200, 3) := z_dk tdX11_least_0 3 rfl
theorem dX11_least_6 : decode cX11_least 6 = .ok (.invokevirtual 113, 3) := z_dk tdX11_least_0 4 rfl
theorem dX11_least_9 : decode cX11_least 9 = .ok (.aload_n 0, 1) := z_dk tdX11_least_0 5 rfl
theorem dX11_least_10 : decode cX11_least 10 = .ok (.invokevirtual 124, 3) := z_dk tdX11_least_0 6 rfl
theorem dX11_least_13 : decode cX11_least 13 = .ok (.aload_n 0, 1) := z_dk tdX11_least_0 7 rfl
theorem dX11_least_14 : decode cX11_least 14 = .ok (.getfield 18, 3) := z_dk tdX11_least_0 8 rfl
theorem dX11_least_17 : decode cX11_least 17 = .ok (.iconst 3, 1) := z_dk tdX11_least_0 9 rfl
theorem dX11_least_18 : decode cX11_least 18 = .ok (.invokevirtual 143, 3) := z_dk tdX11_least_0 10 rfl
theorem dX11_least_21 : decode cX11_least 21 = .ok (.istore_n 2, 1) := z_dk tdX11_least_0 11 rfl
theorem dX11_least_22 : decode cX11_least 22 = .ok (.getstatic 140, 3) := z_dk tdX11_least_0 12 rfl
theorem dX11_least_25 : decode cX11_least 25 = .ok (.iconst 0, 1) := z_dk tdX11_least_0 13 rfl
theorem dX11_least_26 : decode cX11_least 26 = .ok (.invokestatic 136, 3) := z_dk tdX11_least_0 14 rfl
theorem dX11_least_29 : decode cX11_least 29 = .ok (.istore_n 3, 1) := z_dk tdX11_least_0 15 rfl
theorem dX11_least_30 : decode cX11_least 30 = .ok (.aload_n 0, 1) := z_dk tdX11_least_0 16 rfl
theorem dX11_least_31 : decode cX11_least 31 = .ok (.iload_n 1, 1) := z_dk tdX11_least_0 17 rfl
theorem dX11_least_32 : decode cX11_least 32 = .ok (.iload_n 2, 1) := z_dk tdX11_least_0 18 rfl
theorem dX11_least_33 : decode cX11_least 33 = .ok (.invokevirtual 299, 3) := z_dk tdX11_least_0 19 rfl
theorem dX11_least_36 : decode cX11_least 36 = .ok (.istore 4, 2) := z_dk tdX11_least_0 20 rfl
theorem dX11_least_38 : decode cX11_least 38 = .ok (.iload 4, 2) := z_dk tdX11_least_0 21 rfl
theorem dX11_least_40 : decode cX11_least 40 = .ok (.iload_n 3, 1) := z_dk tdX11_least_0 22 rfl
theorem dX11_least_41 : decode cX11_least 41 = .ok (.if_icmp .gt 45, 3) := z_dk tdX11_least_0 23 rfl
theorem tdX11_least_44 : (([(44, .aload_n 0, 1), (45, .getfield 78, 3), (48, .iload 4, 2), (50, .iload_n 2, 1), (51, .invokevirtual 296, 3), (54, .aload_n 0, 1), (55, .getfield 78, 3), (58, .getfield 176, 3), (61, .iload_n 1, 1), (62, .if_icmp .gt 18, 3), (65, .aload_n 0, 1), (66, .getfield 78, 3), (69, .iload 4, 2), (71, .invokevirtual 186, 3), (74, .ifCond .ne 6, 3), (77, .iload 4, 2), (79, .ireturn, 1), (80, .iinc 4 1, 3), (83, .goto (-45), 3), (86, .iconst (-1), 1), (87, .ireturn, 1)] : List (Nat × Instr × Nat)).all fun e => decide (decode cX11_least e.1 = .ok e.2)) = true := by decide +kernel
theorem dX11_least_44 : decode cX11_least 44 = .ok (.aload_n 0, 1) := z_dk tdX11_least_44 0 rfl
theorem dX11_least_45 : decode cX11_least 45 = .ok (.getfield 78, 3) := z_dk tdX11_least_44 1 rfl
theorem dX11_least_48 : decode cX11_least 48 = .ok (.iload 4, 2) := z_dk tdX11_least_44 2 rfl
theorem dX11_least_50 : decode cX11_least 50 = .ok (.iload_n 2, 1) := z_dk tdX11_least_44 3 rfl
theorem dX11_least_51 : decode cX11_least 51 = .ok (.invokevirtual 296, 3) := z_dk tdX11_least_44 4 rfl
theorem dX11_least_54 : decode cX11_least 54 = .ok (.aload_n 0, 1) := z_dk tdX11_least_44 5 rfl
theorem dX11_least_55 : decode cX11_least 55 = .ok (.getfield 78, 3) := z_dk tdX11_least_44 6 rfl
theorem dX11_least_58 : decode cX11_least 58 = .ok (.getfield 176, 3) := z_dk tdX11_least_44 7 rfl
theorem dX11_least_61 : decode cX11_least 61 = .ok (.iload_n 1, 1) := z_dk tdX11_least_44 8 rfl
theorem dX11_least_62 : decode cX11_least 62 = .ok (.if_icmp .gt 18, 3) := z_dk tdX11_least_44 9 rfl
theorem dX11_least_65 : decode cX11_least 65 = .ok (.aload_n 0, 1) := z_dk tdX11_least_44 10 rfl
theorem dX11_least_66 : decode cX11_least 66 = .ok (.getfield 78, 3) := z_dk tdX11_least_44 11 rfl
theorem dX11_least_69 : decode cX11_least 69 = .ok (.iload 4, 2) := z_dk tdX11_least_44 12 rfl
theorem dX11_least_71 : decode cX11_least 71 = .ok (.invokevirtual 186, 3) := z_dk tdX11_least_44 13 rfl
theorem dX11_least_74 : decode cX11_least 74 = .ok (.ifCond .ne 6, 3) := z_dk tdX11_least_44 14 rfl
theorem dX11_least_77 : decode cX11_least 77 = .ok (.iload 4, 2) := z_dk tdX11_least_44 15 rfl
theorem dX11_least_79 : decode cX11_least 79 = .ok (.ireturn, 1) := z_dk tdX11_least_44 16 rfl
theorem dX11_least_80 : decode cX11_least 80 = .ok (.iinc 4 1, 3) := z_dk tdX11_least_44 17 rfl
theorem dX11_least_83 : decode cX11_least 83 = .ok (.goto (-45), 3) := z_dk tdX11_least_44 18 rfl
theorem dX11_least_86 : decode cX11_least 86 = .ok (.iconst (-1), 1) := z_dk tdX11_least_44 19 rfl
theorem dX11_least_87 : decode cX11_least 87 = .ok (.ireturn, 1) := z_dk tdX11_least_44 20 rfl
theorem tdX11_better_0 : (([(0, .aload_n 0, 1), (1, .invokevirtual 124, 3), (4, .aload_n 0, 1), (5, .getfield 18, 3), (8, .iconst 0, 1), (9, .invokevirtual 143, 3), (12, .istore_n 1, 1), (13, .aload_n 0, 1), (14, .getfield 78, 3), (17, .iload_n 1, 1), (18, .iconst 0, 1), (19, .invokevirtual 296, 3), (22, .aload_n 0, 1), (23, .getfield 78, 3), (26, .iload_n 1, 1), (27, .invokevirtual 181, 3), (30, .lstore_n 2, 1), (31, .aload_n 0, 1), (32, .getfield 78, 3), (35, .iload_n 1, 1), (36, .iconst 1, 1), (37, .invokevirtual 296, 3), (40, .lload_n 2, 1), (41, .aload_n 0, 1)] : List (Nat × Instr × Nat)).all fun e => decide (decode cX11_better e.1 = .ok e.2)) = true := by decide +kernel
theorem dX11_better_0 : decode cX11_better 0 = .ok (.aload_n 0, 1) := z_dk tdX11_better_0 0 rfl
theorem dX11_better_1 : decode cX11_better 1 = .ok (.invokevirtual 124, 3) := z_dk tdX11_better_0 1 rfl
theorem dX11_better_4 : decode cX11_better 4 = .ok (.aload_n 0, 1) := z_dk tdX11_better_0 2 rfl
theorem dX11_better_5 : decode cX11_better 5 = .ok (.getfield 18, 3) := z_dk tdX11_better_0 3 rfl
theorem dX11_better_8 : decode cX11_better 8 = .ok (.iconst 0, 1) := z_dk tdX11_better_0 4 rfl
theorem dX11_better_9 : decode cX11_better 9 = .ok (.invokevirtual 143, 3) := z_dk tdX11_better_0 5 rfl
theorem dX11_better_12 : decode cX11_better 12 = .ok (.istore_n 1, 1) := z_dk tdX11_better_0 6 rfl
theorem dX11_better_13 : decode cX11_better 13 = .ok (.aload_n 0, 1) := z_dk tdX11_better_0 7 rfl
theorem dX11_better_14 : decode cX11_better 14 = .ok (.getfield 78, 3) := z_dk tdX11_better_0 8 rfl
theorem dX11_better_17 : decode cX11_better 17 = .ok (.iload_n 1, 1) := z_dk tdX11_better_0 9 rfl
theorem dX11_better_18 : decode cX11_better 18 = .ok (.iconst 0, 1) := z_dk tdX11_better_0 10 rfl
theorem dX11_better_19 : decode cX11_better 19 = .ok (.invokevirtual 296, 3) := z_dk tdX11_better_0 11 rfl
theorem dX11_better_22 : decode cX11_better 22 = .ok (.aload_n 0, 1) := z_dk tdX11_better_0 12 rfl
theorem dX11_better_23 : decode cX11_better 23 = .ok (.getfield 78, 3) := z_dk tdX11_better_0 13 rfl
theorem dX11_better_26 : decode cX11_better 26 = .ok (.iload_n 1, 1) := z_dk tdX11_better_0 14 rfl
theorem dX11_better_27 : decode cX11_better 27 = .ok (.invokevirtual 181, 3) := z_dk tdX11_better_0 15 rfl
theorem dX11_better_30 : decode cX11_better 30 = .ok (.lstore_n 2, 1) := z_dk tdX11_better_0 16 rfl
theorem dX11_better_31 : decode cX11_better 31 = .ok (.aload_n 0, 1) := z_dk tdX11_better_0 17 rfl
theorem dX11_better_32 : decode cX11_better 32 = .ok (.getfield 78, 3) := z_dk tdX11_better_0 18 rfl
theorem dX11_better_35 : decode cX11_better 35 = .ok (.iload_n 1, 1) := z_dk tdX11_better_0 19 rfl
theorem dX11_better_36 : decode cX11_better 36 = .ok (.iconst 1, 1) := z_dk tdX11_better_0 20 rfl
theorem dX11_better_37 : decode cX11_better 37 = .ok (.invokevirtual 296, 3) := z_dk tdX11_better_0 21 rfl
theorem dX11_better_40 : decode cX11_better 40 = .ok (.lload_n 2, 1) := z_dk tdX11_better_0 22 rfl
theorem dX11_better_41 : decode cX11_better 41 = .ok (.aload_n 0, 1) := z_dk tdX11_better_0 23 rfl
theorem tdX11_better_42 : (([(42, .getfield 78, 3), (45, .iload_n 1, 1), (46, .invokevirtual 181, 3), (49, .lsub, 1), (50, .lreturn, 1)] : List (Nat × Instr × Nat)).all fun e => decide (decode cX11_better e.1 = .ok e.2)) = true := by decide +kernel
theorem dX11_better_42 : decode cX11_better 42 = .ok (.getfield 78, 3) := z_dk tdX11_better_42 0 rfl
theorem dX11_better_45 : decode cX11_better 45 = .ok (.iload_n 1, 1) := z_dk tdX11_better_42 1 rfl
theorem dX11_better_46 : decode cX11_better 46 = .ok (.invokevirtual 181, 3) := z_dk tdX11_better_42 2 rfl
theorem dX11_better_49 : decode cX11_better 49 = .ok (.lsub, 1) := z_dk tdX11_better_42 3 rfl
theorem dX11_better_50 : decode cX11_better 50 = .ok (.lreturn, 1) := z_dk tdX11_better_42 4 rfl
theorem tdX11_marks_0 : (([(0, .aload_n 0, 1), (1, .iload_n 1, 1), (2, .iconst 0, 1), (3, .iconst 1, 1), (4, .invokevirtual 113, 3), (7, .aload_n 0, 1), (8, .invokevirtual 124, 3), (11, .aload_n 0, 1), (12, .getfield 56, 3), (15, .iconst 0, 1), (16, .aload_n 0, 1), (17, .getfield 28, 3), (20, .getfield 172, 3), (23, .iconst 1, 1), (24, .isub, 1), (25, .iload_n 1, 1), (26, .invokevirtual 302, 3), (29, .ireturn, 1)] : List (Nat × Instr × Nat)).all fun e => decide (decode cX11_marks e.1 = .ok e.2)) = true := by decide +kernel
theorem dX11_marks_0 : decode cX11_marks 0 = .ok (.aload_n 0, 1) := z_dk tdX11_marks_0 0 rfl
theorem dX11_marks_1 : decode cX11_marks 1 = .ok (.iload_n 1, 1) := z_dk tdX11_marks_0 1 rfl
theorem dX11_marks_2 : decode cX11_marks 2 = .ok (.iconst 0, 1) := z_dk tdX11_marks_0 2 rfl
theorem dX11_marks_3 : decode cX11_marks 3 = .ok (.iconst 1, 1) := z_dk tdX11_marks_0 3 rfl
theorem dX11_marks_4 : decode cX11_marks 4 = .ok (.invokevirtual 113, 3) := z_dk tdX11_marks_0 4 rfl
theorem dX11_marks_7 : decode cX11_marks 7 = .ok (.aload_n 0, 1) := z_dk tdX11_marks_0 5 rfl
theorem dX11_marks_8 : decode cX11_marks 8 = .ok (.invokevirtual 124, 3) := z_dk tdX11_marks_0 6 rfl
theorem dX11_marks_11 : decode cX11_marks 11 = .ok (.aload_n 0, 1) := z_dk tdX11_marks_0 7 rfl
theorem dX11_marks_12 : decode cX11_marks 12 = .ok (.getfield 56, 3) := z_dk tdX11_marks_0 8 rfl
theorem dX11_marks_15 : decode cX11_marks 15 = .ok (.iconst 0, 1) := z_dk tdX11_marks_0 9 rfl
theorem dX11_marks_16 : decode cX11_marks 16 = .ok (.aload_n 0, 1) := z_dk tdX11_marks_0 10 rfl
theorem dX11_marks_17 : decode cX11_marks 17 = .ok (.getfield 28, 3) := z_dk tdX11_marks_0 11 rfl
theorem dX11_marks_20 : decode cX11_marks 20 = .ok (.getfield 172, 3) := z_dk tdX11_marks_0 12 rfl
theorem dX11_marks_23 : decode cX11_marks 23 = .ok (.iconst 1, 1) := z_dk tdX11_marks_0 13 rfl
theorem dX11_marks_24 : decode cX11_marks 24 = .ok (.isub, 1) := z_dk tdX11_marks_0 14 rfl
theorem dX11_marks_25 : decode cX11_marks 25 = .ok (.iload_n 1, 1) := z_dk tdX11_marks_0 15 rfl
theorem dX11_marks_26 : decode cX11_marks 26 = .ok (.invokevirtual 302, 3) := z_dk tdX11_marks_0 16 rfl
theorem dX11_marks_29 : decode cX11_marks 29 = .ok (.ireturn, 1) := z_dk tdX11_marks_0 17 rfl
theorem tdX11_moves_0 : (([(0, .aload_n 0, 1), (1, .invokevirtual 124, 3), (4, .aload_n 0, 1), (5, .getfield 18, 3), (8, .iconst 5, 1), (9, .iconst 1, 1), (10, .aload_n 0, 1), (11, .getfield 18, 3), (14, .iconst 5, 1), (15, .invokevirtual 143, 3), (18, .isub, 1), (19, .invokevirtual 103, 3), (22, .aload_n 0, 1), (23, .getfield 56, 3), (26, .invokevirtual 305, 3), (29, .aload_n 0, 1), (30, .getfield 65, 3), (33, .invokevirtual 308, 3), (36, .aload_n 0, 1), (37, .getfield 78, 3), (40, .aload_n 0, 1), (41, .getfield 18, 3), (44, .iconst 0, 1), (45, .invokevirtual 143, 3)] : List (Nat × Instr × Nat)).all fun e => decide (decode cX11_moves e.1 = .ok e.2)) = true := by decide +kernel
theorem dX11_moves_0 : decode cX11_moves 0 = .ok (.aload_n 0, 1) := z_dk tdX11_moves_0 0 rfl
theorem dX11_moves_1 : decode cX11_moves 1 = .ok (.invokevirtual 124, 3) := z_dk tdX11_moves_0 1 rfl
theorem dX11_moves_4 : decode cX11_moves 4 = .ok (.aload_n 0, 1) := z_dk tdX11_moves_0 2 rfl
theorem dX11_moves_5 : decode cX11_moves 5 = .ok (.getfield 18, 3) := z_dk tdX11_moves_0 3 rfl
theorem dX11_moves_8 : decode cX11_moves 8 = .ok (.iconst 5, 1) := z_dk tdX11_moves_0 4 rfl
theorem dX11_moves_9 : decode cX11_moves 9 = .ok (.iconst 1, 1) := z_dk tdX11_moves_0 5 rfl
theorem dX11_moves_10 : decode cX11_moves 10 = .ok (.aload_n 0, 1) := z_dk tdX11_moves_0 6 rfl
theorem dX11_moves_11 : decode cX11_moves 11 = .ok (.getfield 18, 3) := z_dk tdX11_moves_0 7 rfl
theorem dX11_moves_14 : decode cX11_moves 14 = .ok (.iconst 5, 1) := z_dk tdX11_moves_0 8 rfl
theorem dX11_moves_15 : decode cX11_moves 15 = .ok (.invokevirtual 143, 3) := z_dk tdX11_moves_0 9 rfl
theorem dX11_moves_18 : decode cX11_moves 18 = .ok (.isub, 1) := z_dk tdX11_moves_0 10 rfl
theorem dX11_moves_19 : decode cX11_moves 19 = .ok (.invokevirtual 103, 3) := z_dk tdX11_moves_0 11 rfl
theorem dX11_moves_22 : decode cX11_moves 22 = .ok (.aload_n 0, 1) := z_dk tdX11_moves_0 12 rfl
theorem dX11_moves_23 : decode cX11_moves 23 = .ok (.getfield 56, 3) := z_dk tdX11_moves_0 13 rfl
theorem dX11_moves_26 : decode cX11_moves 26 = .ok (.invokevirtual 305, 3) := z_dk tdX11_moves_0 14 rfl
theorem dX11_moves_29 : decode cX11_moves 29 = .ok (.aload_n 0, 1) := z_dk tdX11_moves_0 15 rfl
theorem dX11_moves_30 : decode cX11_moves 30 = .ok (.getfield 65, 3) := z_dk tdX11_moves_0 16 rfl
theorem dX11_moves_33 : decode cX11_moves 33 = .ok (.invokevirtual 308, 3) := z_dk tdX11_moves_0 17 rfl
theorem dX11_moves_36 : decode cX11_moves 36 = .ok (.aload_n 0, 1) := z_dk tdX11_moves_0 18 rfl
theorem dX11_moves_37 : decode cX11_moves 37 = .ok (.getfield 78, 3) := z_dk tdX11_moves_0 19 rfl
theorem dX11_moves_40 : decode cX11_moves 40 = .ok (.aload_n 0, 1) := z_dk tdX11_moves_0 20 rfl
theorem dX11_moves_41 : decode cX11_moves 41 = .ok (.getfield 18, 3) := z_dk tdX11_moves_0 21 rfl
theorem dX11_moves_44 : decode cX11_moves 44 = .ok (.iconst 0, 1) := z_dk tdX11_moves_0 22 rfl
theorem dX11_moves_45 : decode cX11_moves 45 = .ok (.invokevirtual 143, 3) := z_dk tdX11_moves_0 23 rfl
theorem tdX11_moves_48 : (([(48, .aload_n 0, 1), (49, .getfield 18, 3), (52, .iconst 3, 1), (53, .invokevirtual 143, 3), (56, .invokevirtual 296, 3), (59, .aload_n 0, 1), (60, .getfield 78, 3), (63, .aload_n 0, 1), (64, .getfield 86, 3), (67, .getfield 201, 3), (70, .invokevirtual 311, 3), (73, .istore_n 1, 1), (74, .aload_n 0, 1), (75, .getfield 18, 3), (78, .iconst 5, 1), (79, .iconst 1, 1), (80, .aload_n 0, 1), (81, .getfield 18, 3), (84, .iconst 5, 1), (85, .invokevirtual 143, 3), (88, .isub, 1), (89, .invokevirtual 103, 3), (92, .aload_n 0, 1), (93, .iconst 0, 1)] : List (Nat × Instr × Nat)).all fun e => decide (decode cX11_moves e.1 = .ok e.2)) = true := by decide +kernel
theorem dX11_moves_48 : decode cX11_moves 48 = .ok (.aload_n 0, 1) := z_dk tdX11_moves_48 0 rfl
theorem dX11_moves_49 : decode cX11_moves 49 = .ok (.getfield 18, 3) := z_dk tdX11_moves_48 1 rfl
theorem dX11_moves_52 : decode cX11_moves 52 = .ok (.iconst 3, 1) := z_dk tdX11_moves_48 2 rfl
theorem dX11_moves_53 : decode cX11_moves 53 = .ok (.invokevirtual 143, 3) := z_dk tdX11_moves_48 3 rfl
theorem dX11_moves_56 : decode cX11_moves 56 = .ok (.invokevirtual 296, 3) := z_dk tdX11_moves_48 4 rfl
theorem dX11_moves_59 : decode cX11_moves 59 = .ok (.aload_n 0, 1) := z_dk tdX11_moves_48 5 rfl
theorem dX11_moves_60 : decode cX11_moves 60 = .ok (.getfield 78, 3) := z_dk tdX11_moves_48 6 rfl
theorem dX11_moves_63 : decode cX11_moves 63 = .ok (.aload_n 0, 1) := z_dk tdX11_moves_48 7 rfl
theorem dX11_moves_64 : decode cX11_moves 64 = .ok (.getfield 86, 3) := z_dk tdX11_moves_48 8 rfl
theorem dX11_moves_67 : decode cX11_moves 67 = .ok (.getfield 201, 3) := z_dk tdX11_moves_48 9 rfl
theorem dX11_moves_70 : decode cX11_moves 70 = .ok (.invokevirtual 311, 3) := z_dk tdX11_moves_48 10 rfl
theorem dX11_moves_73 : decode cX11_moves 73 = .ok (.istore_n 1, 1) := z_dk tdX11_moves_48 11 rfl
theorem dX11_moves_74 : decode cX11_moves 74 = .ok (.aload_n 0, 1) := z_dk tdX11_moves_48 12 rfl
theorem dX11_moves_75 : decode cX11_moves 75 = .ok (.getfield 18, 3) := z_dk tdX11_moves_48 13 rfl
theorem dX11_moves_78 : decode cX11_moves 78 = .ok (.iconst 5, 1) := z_dk tdX11_moves_48 14 rfl
theorem dX11_moves_79 : decode cX11_moves 79 = .ok (.iconst 1, 1) := z_dk tdX11_moves_48 15 rfl
theorem dX11_moves_80 : decode cX11_moves 80 = .ok (.aload_n 0, 1) := z_dk tdX11_moves_48 16 rfl
theorem dX11_moves_81 : decode cX11_moves 81 = .ok (.getfield 18, 3) := z_dk tdX11_moves_48 17 rfl
theorem dX11_moves_84 : decode cX11_moves 84 = .ok (.iconst 5, 1) := z_dk tdX11_moves_48 18 rfl
theorem dX11_moves_85 : decode cX11_moves 85 = .ok (.invokevirtual 143, 3) := z_dk tdX11_moves_48 19 rfl
theorem dX11_moves_88 : decode cX11_moves 88 = .ok (.isub, 1) := z_dk tdX11_moves_48 20 rfl
theorem dX11_moves_89 : decode cX11_moves 89 = .ok (.invokevirtual 103, 3) := z_dk tdX11_moves_48 21 rfl
theorem dX11_moves_92 : decode cX11_moves 92 = .ok (.aload_n 0, 1) := z_dk tdX11_moves_48 22 rfl
theorem dX11_moves_93 : decode cX11_moves 93 = .ok (.iconst 0, 1) := z_dk tdX11_moves_48 23 rfl
theorem tdX11_moves_94 : (([(94, .putfield 150, 3), (97, .iload_n 1, 1), (98, .ireturn, 1)] : List (Nat × Instr × Nat)).all fun e => decide (decode cX11_moves e.1 = .ok e.2)) = true := by decide +kernel
theorem dX11_moves_94 : decode cX11_moves 94 = .ok (.putfield 150, 3) := z_dk tdX11_moves_94 0 rfl
theorem dX11_moves_97 : decode cX11_moves 97 = .ok (.iload_n 1, 1) := z_dk tdX11_moves_94 1 rfl
theorem dX11_moves_98 : decode cX11_moves 98 = .ok (.ireturn, 1) := z_dk tdX11_moves_94 2 rfl
theorem tdX11_lend_0 : (([(0, .aload_n 0, 1), (1, .iload_n 1, 1), (2, .iconst 0, 1), (3, .iconst 1, 1), (4, .invokevirtual 113, 3), (7, .aload_n 0, 1), (8, .invokevirtual 124, 3), (11, .getstatic 133, 3), (14, .iconst 2, 1), (15, .invokestatic 136, 3), (18, .istore_n 2, 1), (19, .aload_n 0, 1), (20, .getfield 65, 3), (23, .iconst 0, 1), (24, .aload_n 0, 1), (25, .getfield 56, 3), (28, .getfield 127, 3), (31, .iconst 1, 1), (32, .isub, 1), (33, .iload_n 2, 1), (34, .invokevirtual 315, 3), (37, .istore_n 3, 1), (38, .iload_n 2, 1), (39, .iconst 1, 1)] : List (Nat × Instr × Nat)).all fun e => decide (decode cX11_lend e.1 = .ok e.2)) = true := by decide +kernel
theorem dX11_lend_0 : decode cX11_lend 0 = .ok (.aload_n 0, 1) := z_dk tdX11_lend_0 0 rfl
theorem dX11_lend_1 : decode cX11_lend 1 = .ok (.iload_n 1, 1) := z_dk tdX11_lend_0 1 rfl
theorem dX11_lend_2 : decode cX11_lend 2 = .ok (.iconst 0, 1) := z_dk tdX11_lend_0 2 rfl
theorem dX11_lend_3 : decode cX11_lend 3 = .ok (.iconst 1, 1) := z_dk tdX11_lend_0 3 rfl
theorem dX11_lend_4 : decode cX11_lend 4 = .ok (.invokevirtual 113, 3) := z_dk tdX11_lend_0 4 rfl
theorem dX11_lend_7 : decode cX11_lend 7 = .ok (.aload_n 0, 1) := z_dk tdX11_lend_0 5 rfl
theorem dX11_lend_8 : decode cX11_lend 8 = .ok (.invokevirtual 124, 3) := z_dk tdX11_lend_0 6 rfl
theorem dX11_lend_11 : decode cX11_lend 11 = .ok (.getstatic 133, 3) := z_dk tdX11_lend_0 7 rfl
theorem dX11_lend_14 : decode cX11_lend 14 = .ok (.iconst 2, 1) := z_dk tdX11_lend_0 8 rfl
theorem dX11_lend_15 : decode cX11_lend 15 = .ok (.invokestatic 136, 3) := z_dk tdX11_lend_0 9 rfl
theorem dX11_lend_18 : decode cX11_lend 18 = .ok (.istore_n 2, 1) := z_dk tdX11_lend_0 10 rfl
theorem dX11_lend_19 : decode cX11_lend 19 = .ok (.aload_n 0, 1) := z_dk tdX11_lend_0 11 rfl
theorem dX11_lend_20 : decode cX11_lend 20 = .ok (.getfield 65, 3) := z_dk tdX11_lend_0 12 rfl
theorem dX11_lend_23 : decode cX11_lend 23 = .ok (.iconst 0, 1) := z_dk tdX11_lend_0 13 rfl
theorem dX11_lend_24 : decode cX11_lend 24 = .ok (.aload_n 0, 1) := z_dk tdX11_lend_0 14 rfl
theorem dX11_lend_25 : decode cX11_lend 25 = .ok (.getfield 56, 3) := z_dk tdX11_lend_0 15 rfl
theorem dX11_lend_28 : decode cX11_lend 28 = .ok (.getfield 127, 3) := z_dk tdX11_lend_0 16 rfl
theorem dX11_lend_31 : decode cX11_lend 31 = .ok (.iconst 1, 1) := z_dk tdX11_lend_0 17 rfl
theorem dX11_lend_32 : decode cX11_lend 32 = .ok (.isub, 1) := z_dk tdX11_lend_0 18 rfl
theorem dX11_lend_33 : decode cX11_lend 33 = .ok (.iload_n 2, 1) := z_dk tdX11_lend_0 19 rfl
theorem dX11_lend_34 : decode cX11_lend 34 = .ok (.invokevirtual 315, 3) := z_dk tdX11_lend_0 20 rfl
theorem dX11_lend_37 : decode cX11_lend 37 = .ok (.istore_n 3, 1) := z_dk tdX11_lend_0 21 rfl
theorem dX11_lend_38 : decode cX11_lend 38 = .ok (.iload_n 2, 1) := z_dk tdX11_lend_0 22 rfl
theorem dX11_lend_39 : decode cX11_lend 39 = .ok (.iconst 1, 1) := z_dk tdX11_lend_0 23 rfl
theorem tdX11_lend_40 : (([(40, .iadd, 1), (41, .istore 4, 2), (43, .iload 4, 2), (45, .getstatic 140, 3), (48, .iconst 2, 1), (49, .invokestatic 136, 3), (52, .if_icmp .gt 42, 3), (55, .aload_n 0, 1), (56, .getfield 65, 3), (59, .iconst 0, 1), (60, .aload_n 0, 1), (61, .getfield 56, 3), (64, .getfield 127, 3), (67, .iconst 1, 1), (68, .isub, 1), (69, .iload 4, 2), (71, .invokevirtual 315, 3), (74, .istore 5, 2), (76, .iload 5, 2), (78, .iload_n 3, 1), (79, .if_icmp .ge 9, 3), (82, .iload 5, 2), (84, .istore_n 3, 1), (85, .iload 4, 2)] : List (Nat × Instr × Nat)).all fun e => decide (decode cX11_lend e.1 = .ok e.2)) = true := by decide +kernel
theorem dX11_lend_40 : decode cX11_lend 40 = .ok (.iadd, 1) := z_dk tdX11_lend_40 0 rfl
theorem dX11_lend_41 : decode cX11_lend 41 = .ok (.istore 4, 2) := z_dk tdX11_lend_40 1 rfl
theorem dX11_lend_43 : decode cX11_lend 43 = .ok (.iload 4, 2) := z_dk tdX11_lend_40 2 rfl
theorem dX11_lend_45 : decode cX11_lend 45 = .ok (.getstatic 140, 3) := z_dk tdX11_lend_40 3 rfl
theorem dX11_lend_48 : decode cX11_lend 48 = .ok (.iconst 2, 1) := z_dk tdX11_lend_40 4 rfl
theorem dX11_lend_49 : decode cX11_lend 49 = .ok (.invokestatic 136, 3) := z_dk tdX11_lend_40 5 rfl
theorem dX11_lend_52 : decode cX11_lend 52 = .ok (.if_icmp .gt 42, 3) := z_dk tdX11_lend_40 6 rfl
theorem dX11_lend_55 : decode cX11_lend 55 = .ok (.aload_n 0, 1) := z_dk tdX11_lend_40 7 rfl
theorem dX11_lend_56 : decode cX11_lend 56 = .ok (.getfield 65, 3) := z_dk tdX11_lend_40 8 rfl
theorem dX11_lend_59 : decode cX11_lend 59 = .ok (.iconst 0, 1) := z_dk tdX11_lend_40 9 rfl
theorem dX11_lend_60 : decode cX11_lend 60 = .ok (.aload_n 0, 1) := z_dk tdX11_lend_40 10 rfl
theorem dX11_lend_61 : decode cX11_lend 61 = .ok (.getfield 56, 3) := z_dk tdX11_lend_40 11 rfl
theorem dX11_lend_64 : decode cX11_lend 64 = .ok (.getfield 127, 3) := z_dk tdX11_lend_40 12 rfl
theorem dX11_lend_67 : decode cX11_lend 67 = .ok (.iconst 1, 1) := z_dk tdX11_lend_40 13 rfl
theorem dX11_lend_68 : decode cX11_lend 68 = .ok (.isub, 1) := z_dk tdX11_lend_40 14 rfl
theorem dX11_lend_69 : decode cX11_lend 69 = .ok (.iload 4, 2) := z_dk tdX11_lend_40 15 rfl
theorem dX11_lend_71 : decode cX11_lend 71 = .ok (.invokevirtual 315, 3) := z_dk tdX11_lend_40 16 rfl
theorem dX11_lend_74 : decode cX11_lend 74 = .ok (.istore 5, 2) := z_dk tdX11_lend_40 17 rfl
theorem dX11_lend_76 : decode cX11_lend 76 = .ok (.iload 5, 2) := z_dk tdX11_lend_40 18 rfl
theorem dX11_lend_78 : decode cX11_lend 78 = .ok (.iload_n 3, 1) := z_dk tdX11_lend_40 19 rfl
theorem dX11_lend_79 : decode cX11_lend 79 = .ok (.if_icmp .ge 9, 3) := z_dk tdX11_lend_40 20 rfl
theorem dX11_lend_82 : decode cX11_lend 82 = .ok (.iload 5, 2) := z_dk tdX11_lend_40 21 rfl
theorem dX11_lend_84 : decode cX11_lend 84 = .ok (.istore_n 3, 1) := z_dk tdX11_lend_40 22 rfl
theorem dX11_lend_85 : decode cX11_lend 85 = .ok (.iload 4, 2) := z_dk tdX11_lend_40 23 rfl
theorem tdX11_lend_87 : (([(87, .istore_n 2, 1), (88, .iinc 4 1, 3), (91, .goto (-48), 3), (94, .iload_n 1, 1), (95, .ifCond .ne 7, 3), (98, .iload_n 2, 1), (99, .goto 4, 3), (102, .iload_n 3, 1), (103, .ireturn, 1)] : List (Nat × Instr × Nat)).all fun e => decide (decode cX11_lend e.1 = .ok e.2)) = true := by decide +kernel
theorem dX11_lend_87 : decode cX11_lend 87 = .ok (.istore_n 2, 1) := z_dk tdX11_lend_87 0 rfl
theorem dX11_lend_88 : decode cX11_lend 88 = .ok (.iinc 4 1, 3) := z_dk tdX11_lend_87 1 rfl
theorem dX11_lend_91 : decode cX11_lend 91 = .ok (.goto (-48), 3) := z_dk tdX11_lend_87 2 rfl
theorem dX11_lend_94 : decode cX11_lend 94 = .ok (.iload_n 1, 1) := z_dk tdX11_lend_87 3 rfl
theorem dX11_lend_95 : decode cX11_lend 95 = .ok (.ifCond .ne 7, 3) := z_dk tdX11_lend_87 4 rfl
theorem dX11_lend_98 : decode cX11_lend 98 = .ok (.iload_n 2, 1) := z_dk tdX11_lend_87 5 rfl
theorem dX11_lend_99 : decode cX11_lend 99 = .ok (.goto 4, 3) := z_dk tdX11_lend_87 6 rfl
theorem dX11_lend_102 : decode cX11_lend 102 = .ok (.iload_n 3, 1) := z_dk tdX11_lend_87 7 rfl
theorem dX11_lend_103 : decode cX11_lend 103 = .ok (.ireturn, 1) := z_dk tdX11_lend_87 8 rfl
theorem tdX11_nearest_0 : (([(0, .aload_n 0, 1), (1, .iload_n 1, 1), (2, .iconst 0, 1), (3, .iconst 1, 1), (4, .invokevirtual 113, 3), (7, .aload_n 0, 1), (8, .invokevirtual 124, 3), (11, .ldc_w 276, 3), (14, .istore_n 2, 1), (15, .iconst (-1), 1), (16, .istore_n 3, 1), (17, .iconst 0, 1), (18, .istore 4, 2), (20, .iload 4, 2), (22, .aload_n 0, 1), (23, .getfield 74, 3), (26, .getfield 176, 3), (29, .if_icmp .ge 46, 3), (32, .aload_n 0, 1), (33, .getfield 86, 3), (36, .iload 4, 2), (38, .iconst 0, 1), (39, .invokevirtual 318, 3), (42, .aload_n 0, 1)] : List (Nat × Instr × Nat)).all fun e => decide (decode cX11_nearest e.1 = .ok e.2)) = true := by decide +kernel
theorem dX11_nearest_0 : decode cX11_nearest 0 = .ok (.aload_n 0, 1) := z_dk tdX11_nearest_0 0 rfl
theorem dX11_nearest_1 : decode cX11_nearest 1 = .ok (.iload_n 1, 1) := z_dk tdX11_nearest_0 1 rfl
theorem dX11_nearest_2 : decode cX11_nearest 2 = .ok (.iconst 0, 1) := z_dk tdX11_nearest_0 2 rfl
theorem dX11_nearest_3 : decode cX11_nearest 3 = .ok (.iconst 1, 1) := z_dk tdX11_nearest_0 3 rfl
theorem dX11_nearest_4 : decode cX11_nearest 4 = .ok (.invokevirtual 113, 3) := z_dk tdX11_nearest_0 4 rfl
theorem dX11_nearest_7 : decode cX11_nearest 7 = .ok (.aload_n 0, 1) := z_dk tdX11_nearest_0 5 rfl
theorem dX11_nearest_8 : decode cX11_nearest 8 = .ok (.invokevirtual 124, 3) := z_dk tdX11_nearest_0 6 rfl
theorem dX11_nearest_11 : decode cX11_nearest 11 = .ok (.ldc_w 276, 3) := z_dk tdX11_nearest_0 7 rfl
theorem dX11_nearest_14 : decode cX11_nearest 14 = .ok (.istore_n 2, 1) := z_dk tdX11_nearest_0 8 rfl
theorem dX11_nearest_15 : decode cX11_nearest 15 = .ok (.iconst (-1), 1) := z_dk tdX11_nearest_0 9 rfl
theorem dX11_nearest_16 : decode cX11_nearest 16 = .ok (.istore_n 3, 1) := z_dk tdX11_nearest_0 10 rfl
theorem dX11_nearest_17 : decode cX11_nearest 17 = .ok (.iconst 0, 1) := z_dk tdX11_nearest_0 11 rfl
theorem dX11_nearest_18 : decode cX11_nearest 18 = .ok (.istore 4, 2) := z_dk tdX11_nearest_0 12 rfl
theorem dX11_nearest_20 : decode cX11_nearest 20 = .ok (.iload 4, 2) := z_dk tdX11_nearest_0 13 rfl
theorem dX11_nearest_22 : decode cX11_nearest 22 = .ok (.aload_n 0, 1) := z_dk tdX11_nearest_0 14 rfl
theorem dX11_nearest_23 : decode cX11_nearest 23 = .ok (.getfield 74, 3) := z_dk tdX11_nearest_0 15 rfl
theorem dX11_nearest_26 : decode cX11_nearest 26 = .ok (.getfield 176, 3) := z_dk tdX11_nearest_0 16 rfl
theorem dX11_nearest_29 : decode cX11_nearest 29 = .ok (.if_icmp .ge 46, 3) := z_dk tdX11_nearest_0 17 rfl
theorem dX11_nearest_32 : decode cX11_nearest 32 = .ok (.aload_n 0, 1) := z_dk tdX11_nearest_0 18 rfl
theorem dX11_nearest_33 : decode cX11_nearest 33 = .ok (.getfield 86, 3) := z_dk tdX11_nearest_0 19 rfl
theorem dX11_nearest_36 : decode cX11_nearest 36 = .ok (.iload 4, 2) := z_dk tdX11_nearest_0 20 rfl
theorem dX11_nearest_38 : decode cX11_nearest 38 = .ok (.iconst 0, 1) := z_dk tdX11_nearest_0 21 rfl
theorem dX11_nearest_39 : decode cX11_nearest 39 = .ok (.invokevirtual 318, 3) := z_dk tdX11_nearest_0 22 rfl
theorem dX11_nearest_42 : decode cX11_nearest 42 = .ok (.aload_n 0, 1) := z_dk tdX11_nearest_0 23 rfl
theorem tdX11_nearest_43 : (([(43, .getfield 86, 3), (46, .iload 4, 2), (48, .iconst 1, 1), (49, .invokevirtual 318, 3), (52, .invokestatic 321, 3), (55, .istore 5, 2), (57, .iload 5, 2), (59, .iload_n 2, 1), (60, .if_icmp .ge 9, 3), (63, .iload 5, 2), (65, .istore_n 2, 1), (66, .iload 4, 2), (68, .istore_n 3, 1), (69, .iinc 4 1, 3), (72, .goto (-52), 3), (75, .iload_n 1, 1), (76, .iconst 1, 1), (77, .if_icmp .ne 5, 3), (80, .iload_n 3, 1), (81, .ireturn, 1), (82, .iload_n 3, 1), (83, .iconst (-1), 1), (84, .if_icmp .ne 9, 3), (87, .sipush 999, 3)] : List (Nat × Instr × Nat)).all fun e => decide (decode cX11_nearest e.1 = .ok e.2)) = true := by decide +kernel
theorem dX11_nearest_43 : decode cX11_nearest 43 = .ok (.getfield 86, 3) := z_dk tdX11_nearest_43 0 rfl
theorem dX11_nearest_46 : decode cX11_nearest 46 = .ok (.iload 4, 2) := z_dk tdX11_nearest_43 1 rfl
theorem dX11_nearest_48 : decode cX11_nearest 48 = .ok (.iconst 1, 1) := z_dk tdX11_nearest_43 2 rfl
theorem dX11_nearest_49 : decode cX11_nearest 49 = .ok (.invokevirtual 318, 3) := z_dk tdX11_nearest_43 3 rfl
theorem dX11_nearest_52 : decode cX11_nearest 52 = .ok (.invokestatic 321, 3) := z_dk tdX11_nearest_43 4 rfl
theorem dX11_nearest_55 : decode cX11_nearest 55 = .ok (.istore 5, 2) := z_dk tdX11_nearest_43 5 rfl
theorem dX11_nearest_57 : decode cX11_nearest 57 = .ok (.iload 5, 2) := z_dk tdX11_nearest_43 6 rfl
theorem dX11_nearest_59 : decode cX11_nearest 59 = .ok (.iload_n 2, 1) := z_dk tdX11_nearest_43 7 rfl
theorem dX11_nearest_60 : decode cX11_nearest 60 = .ok (.if_icmp .ge 9, 3) := z_dk tdX11_nearest_43 8 rfl
theorem dX11_nearest_63 : decode cX11_nearest 63 = .ok (.iload 5, 2) := z_dk tdX11_nearest_43 9 rfl
theorem dX11_nearest_65 : decode cX11_nearest 65 = .ok (.istore_n 2, 1) := z_dk tdX11_nearest_43 10 rfl
theorem dX11_nearest_66 : decode cX11_nearest 66 = .ok (.iload 4, 2) := z_dk tdX11_nearest_43 11 rfl
theorem dX11_nearest_68 : decode cX11_nearest 68 = .ok (.istore_n 3, 1) := z_dk tdX11_nearest_43 12 rfl
theorem dX11_nearest_69 : decode cX11_nearest 69 = .ok (.iinc 4 1, 3) := z_dk tdX11_nearest_43 13 rfl
theorem dX11_nearest_72 : decode cX11_nearest 72 = .ok (.goto (-52), 3) := z_dk tdX11_nearest_43 14 rfl
theorem dX11_nearest_75 : decode cX11_nearest 75 = .ok (.iload_n 1, 1) := z_dk tdX11_nearest_43 15 rfl
theorem dX11_nearest_76 : decode cX11_nearest 76 = .ok (.iconst 1, 1) := z_dk tdX11_nearest_43 16 rfl
theorem dX11_nearest_77 : decode cX11_nearest 77 = .ok (.if_icmp .ne 5, 3) := z_dk tdX11_nearest_43 17 rfl
theorem dX11_nearest_80 : decode cX11_nearest 80 = .ok (.iload_n 3, 1) := z_dk tdX11_nearest_43 18 rfl
theorem dX11_nearest_81 : decode cX11_nearest 81 = .ok (.ireturn, 1) := z_dk tdX11_nearest_43 19 rfl
theorem dX11_nearest_82 : decode cX11_nearest 82 = .ok (.iload_n 3, 1) := z_dk tdX11_nearest_43 20 rfl
theorem dX11_nearest_83 : decode cX11_nearest 83 = .ok (.iconst (-1), 1) := z_dk tdX11_nearest_43 21 rfl
theorem dX11_nearest_84 : decode cX11_nearest 84 = .ok (.if_icmp .ne 9, 3) := z_dk tdX11_nearest_43 22 rfl
theorem dX11_nearest_87 : decode cX11_nearest 87 = .ok (.sipush 999, 3) := z_dk tdX11_nearest_43 23 rfl
theorem tdX11_nearest_90 : (([(90, .goto 4, 3), (93, .iload_n 2, 1), (94, .ireturn, 1)] : List (Nat × Instr × Nat)).all fun e => decide (decode cX11_nearest e.1 = .ok e.2)) = true := by decide +kernel
theorem dX11_nearest_90 : decode cX11_nearest 90 = .ok (.goto 4, 3) := z_dk tdX11_nearest_90 0 rfl
theorem dX11_nearest_93 : decode cX11_nearest 93 = .ok (.iload_n 2, 1) := z_dk tdX11_nearest_90 1 rfl
theorem dX11_nearest_94 : decode cX11_nearest 94 = .ok (.ireturn, 1) := z_dk tdX11_nearest_90 2 rfl
theorem tdX11_partner_0 : (([(0, .aload_n 0, 1), (1, .invokevirtual 124, 3), (4, .aload_n 0, 1), (5, .iload_n 1, 1), (6, .aload_n 0, 1), (7, .getfield 56, 3), (10, .getfield 127, 3), (13, .invokevirtual 153, 3), (16, .aload_n 0, 1), (17, .getfield 56, 3), (20, .getfield 326, 3), (23, .iload_n 1, 1), (24, .invokevirtual 143, 3), (27, .ireturn, 1)] : List (Nat × Instr × Nat)).all fun e => decide (decode cX11_partner e.1 = .ok e.2)) = true := by decide +kernel
theorem dX11_partner_0 : decode cX11_partner 0 = .ok (.aload_n 0, 1) := z_dk tdX11_partner_0 0 rfl
theorem dX11_partner_1 : decode cX11_partner 1 = .ok (.invokevirtual 124, 3) := z_dk tdX11_partner_0 1 rfl
theorem dX11_partner_4 : decode cX11_partner 4 = .ok (.aload_n 0, 1) := z_dk tdX11_partner_0 2 rfl
theorem dX11_partner_5 : decode cX11_partner 5 = .ok (.iload_n 1, 1) := z_dk tdX11_partner_0 3 rfl
theorem dX11_partner_6 : decode cX11_partner 6 = .ok (.aload_n 0, 1) := z_dk tdX11_partner_0 4 rfl
theorem dX11_partner_7 : decode cX11_partner 7 = .ok (.getfield 56, 3) := z_dk tdX11_partner_0 5 rfl
theorem dX11_partner_10 : decode cX11_partner 10 = .ok (.getfield 127, 3) := z_dk tdX11_partner_0 6 rfl
theorem dX11_partner_13 : decode cX11_partner 13 = .ok (.invokevirtual 153, 3) := z_dk tdX11_partner_0 7 rfl
theorem dX11_partner_16 : decode cX11_partner 16 = .ok (.aload_n 0, 1) := z_dk tdX11_partner_0 8 rfl
theorem dX11_partner_17 : decode cX11_partner 17 = .ok (.getfield 56, 3) := z_dk tdX11_partner_0 9 rfl
theorem dX11_partner_20 : decode cX11_partner 20 = .ok (.getfield 326, 3) := z_dk tdX11_partner_0 10 rfl
theorem dX11_partner_23 : decode cX11_partner 23 = .ok (.iload_n 1, 1) := z_dk tdX11_partner_0 11 rfl
theorem dX11_partner_24 : decode cX11_partner 24 = .ok (.invokevirtual 143, 3) := z_dk tdX11_partner_0 12 rfl
theorem dX11_partner_27 : decode cX11_partner 27 = .ok (.ireturn, 1) := z_dk tdX11_partner_0 13 rfl
theorem tdX11_side_0 : (([(0, .aload_n 0, 1), (1, .invokevirtual 124, 3), (4, .aload_n 0, 1), (5, .iload_n 1, 1), (6, .aload_n 0, 1), (7, .getfield 74, 3), (10, .getfield 176, 3), (13, .invokevirtual 153, 3), (16, .aload_n 0, 1), (17, .iload_n 2, 1), (18, .iconst 0, 1), (19, .iconst 1, 1), (20, .invokevirtual 113, 3), (23, .aload_n 0, 1), (24, .iload_n 3, 1), (25, .iconst 0, 1), (26, .iconst 1, 1), (27, .invokevirtual 113, 3), (30, .iload_n 3, 1), (31, .ifCond .ne 15, 3), (34, .aload_n 0, 1), (35, .getfield 86, 3), (38, .iload_n 1, 1), (39, .iload_n 2, 1)] : List (Nat × Instr × Nat)).all fun e => decide (decode cX11_side e.1 = .ok e.2)) = true := by decide +kernel
theorem dX11_side_0 : decode cX11_side 0 = .ok (.aload_n 0, 1) := z_dk tdX11_side_0 0 rfl
theorem dX11_side_1 : decode cX11_side 1 = .ok (.invokevirtual 124, 3) := z_dk tdX11_side_0 1 rfl
theorem dX11_side_4 : decode cX11_side 4 = .ok (.aload_n 0, 1) := z_dk tdX11_side_0 2 rfl
theorem dX11_side_5 : decode cX11_side 5 = .ok (.iload_n 1, 1) := z_dk tdX11_side_0 3 rfl
theorem dX11_side_6 : decode cX11_side 6 = .ok (.aload_n 0, 1) := z_dk tdX11_side_0 4 rfl
theorem dX11_side_7 : decode cX11_side 7 = .ok (.getfield 74, 3) := z_dk tdX11_side_0 5 rfl
theorem dX11_side_10 : decode cX11_side 10 = .ok (.getfield 176, 3) := z_dk tdX11_side_0 6 rfl
theorem dX11_side_13 : decode cX11_side 13 = .ok (.invokevirtual 153, 3) := z_dk tdX11_side_0 7 rfl
theorem dX11_side_16 : decode cX11_side 16 = .ok (.aload_n 0, 1) := z_dk tdX11_side_0 8 rfl
theorem dX11_side_17 : decode cX11_side 17 = .ok (.iload_n 2, 1) := z_dk tdX11_side_0 9 rfl
theorem dX11_side_18 : decode cX11_side 18 = .ok (.iconst 0, 1) := z_dk tdX11_side_0 10 rfl
theorem dX11_side_19 : decode cX11_side 19 = .ok (.iconst 1, 1) := z_dk tdX11_side_0 11 rfl
theorem dX11_side_20 : decode cX11_side 20 = .ok (.invokevirtual 113, 3) := z_dk tdX11_side_0 12 rfl
theorem dX11_side_23 : decode cX11_side 23 = .ok (.aload_n 0, 1) := z_dk tdX11_side_0 13 rfl
theorem dX11_side_24 : decode cX11_side 24 = .ok (.iload_n 3, 1) := z_dk tdX11_side_0 14 rfl
theorem dX11_side_25 : decode cX11_side 25 = .ok (.iconst 0, 1) := z_dk tdX11_side_0 15 rfl
theorem dX11_side_26 : decode cX11_side 26 = .ok (.iconst 1, 1) := z_dk tdX11_side_0 16 rfl
theorem dX11_side_27 : decode cX11_side 27 = .ok (.invokevirtual 113, 3) := z_dk tdX11_side_0 17 rfl
theorem dX11_side_30 : decode cX11_side 30 = .ok (.iload_n 3, 1) := z_dk tdX11_side_0 18 rfl
theorem dX11_side_31 : decode cX11_side 31 = .ok (.ifCond .ne 15, 3) := z_dk tdX11_side_0 19 rfl
theorem dX11_side_34 : decode cX11_side 34 = .ok (.aload_n 0, 1) := z_dk tdX11_side_0 20 rfl
theorem dX11_side_35 : decode cX11_side 35 = .ok (.getfield 86, 3) := z_dk tdX11_side_0 21 rfl
theorem dX11_side_38 : decode cX11_side 38 = .ok (.iload_n 1, 1) := z_dk tdX11_side_0 22 rfl
theorem dX11_side_39 : decode cX11_side 39 = .ok (.iload_n 2, 1) := z_dk tdX11_side_0 23 rfl
theorem tdX11_side_40 : (([(40, .invokevirtual 329, 3), (43, .goto 12, 3), (46, .aload_n 0, 1), (47, .getfield 86, 3), (50, .iload_n 1, 1), (51, .iload_n 2, 1), (52, .invokevirtual 332, 3), (55, .ireturn, 1)] : List (Nat × Instr × Nat)).all fun e => decide (decode cX11_side e.1 = .ok e.2)) = true := by decide +kernel
theorem dX11_side_40 : decode cX11_side 40 = .ok (.invokevirtual 329, 3) := z_dk tdX11_side_40 0 rfl
theorem dX11_side_43 : decode cX11_side 43 = .ok (.goto 12, 3) := z_dk tdX11_side_40 1 rfl
theorem dX11_side_46 : decode cX11_side 46 = .ok (.aload_n 0, 1) := z_dk tdX11_side_40 2 rfl
theorem dX11_side_47 : decode cX11_side 47 = .ok (.getfield 86, 3) := z_dk tdX11_side_40 3 rfl
theorem dX11_side_50 : decode cX11_side 50 = .ok (.iload_n 1, 1) := z_dk tdX11_side_40 4 rfl
theorem dX11_side_51 : decode cX11_side 51 = .ok (.iload_n 2, 1) := z_dk tdX11_side_40 5 rfl
theorem dX11_side_52 : decode cX11_side 52 = .ok (.invokevirtual 332, 3) := z_dk tdX11_side_40 6 rfl
theorem dX11_side_55 : decode cX11_side 55 = .ok (.ireturn, 1) := z_dk tdX11_side_40 7 rfl
theorem tdX11_gutter_0 : (([(0, .aload_n 0, 1), (1, .invokevirtual 124, 3), (4, .aload_n 0, 1), (5, .iload_n 1, 1), (6, .aload_n 0, 1), (7, .getfield 74, 3), (10, .getfield 176, 3), (13, .invokevirtual 153, 3), (16, .aload_n 0, 1), (17, .invokevirtual 335, 3), (20, .iload_n 1, 1), (21, .aload_n 0, 1), (22, .getfield 74, 3), (25, .getfield 176, 3), (28, .iconst 1, 1), (29, .isub, 1), (30, .if_icmp .ne 7, 3), (33, .iconst (-1), 1), (34, .goto 14, 3), (37, .aload_n 0, 1), (38, .getfield 95, 3), (41, .getfield 338, 3), (44, .iload_n 1, 1), (45, .invokevirtual 143, 3)] : List (Nat × Instr × Nat)).all fun e => decide (decode cX11_gutter e.1 = .ok e.2)) = true := by decide +kernel
theorem dX11_gutter_0 : decode cX11_gutter 0 = .ok (.aload_n 0, 1) := z_dk tdX11_gutter_0 0 rfl
theorem dX11_gutter_1 : decode cX11_gutter 1 = .ok (.invokevirtual 124, 3) := z_dk tdX11_gutter_0 1 rfl
theorem dX11_gutter_4 : decode cX11_gutter 4 = .ok (.aload_n 0, 1) := z_dk tdX11_gutter_0 2 rfl
theorem dX11_gutter_5 : decode cX11_gutter 5 = .ok (.iload_n 1, 1) := z_dk tdX11_gutter_0 3 rfl
theorem dX11_gutter_6 : decode cX11_gutter 6 = .ok (.aload_n 0, 1) := z_dk tdX11_gutter_0 4 rfl
theorem dX11_gutter_7 : decode cX11_gutter 7 = .ok (.getfield 74, 3) := z_dk tdX11_gutter_0 5 rfl
theorem dX11_gutter_10 : decode cX11_gutter 10 = .ok (.getfield 176, 3) := z_dk tdX11_gutter_0 6 rfl
theorem dX11_gutter_13 : decode cX11_gutter 13 = .ok (.invokevirtual 153, 3) := z_dk tdX11_gutter_0 7 rfl
theorem dX11_gutter_16 : decode cX11_gutter 16 = .ok (.aload_n 0, 1) := z_dk tdX11_gutter_0 8 rfl
theorem dX11_gutter_17 : decode cX11_gutter 17 = .ok (.invokevirtual 335, 3) := z_dk tdX11_gutter_0 9 rfl
theorem dX11_gutter_20 : decode cX11_gutter 20 = .ok (.iload_n 1, 1) := z_dk tdX11_gutter_0 10 rfl
theorem dX11_gutter_21 : decode cX11_gutter 21 = .ok (.aload_n 0, 1) := z_dk tdX11_gutter_0 11 rfl
theorem dX11_gutter_22 : decode cX11_gutter 22 = .ok (.getfield 74, 3) := z_dk tdX11_gutter_0 12 rfl
theorem dX11_gutter_25 : decode cX11_gutter 25 = .ok (.getfield 176, 3) := z_dk tdX11_gutter_0 13 rfl
theorem dX11_gutter_28 : decode cX11_gutter 28 = .ok (.iconst 1, 1) := z_dk tdX11_gutter_0 14 rfl
theorem dX11_gutter_29 : decode cX11_gutter 29 = .ok (.isub, 1) := z_dk tdX11_gutter_0 15 rfl
theorem dX11_gutter_30 : decode cX11_gutter 30 = .ok (.if_icmp .ne 7, 3) := z_dk tdX11_gutter_0 16 rfl
theorem dX11_gutter_33 : decode cX11_gutter 33 = .ok (.iconst (-1), 1) := z_dk tdX11_gutter_0 17 rfl
theorem dX11_gutter_34 : decode cX11_gutter 34 = .ok (.goto 14, 3) := z_dk tdX11_gutter_0 18 rfl
theorem dX11_gutter_37 : decode cX11_gutter 37 = .ok (.aload_n 0, 1) := z_dk tdX11_gutter_0 19 rfl
theorem dX11_gutter_38 : decode cX11_gutter 38 = .ok (.getfield 95, 3) := z_dk tdX11_gutter_0 20 rfl
theorem dX11_gutter_41 : decode cX11_gutter 41 = .ok (.getfield 338, 3) := z_dk tdX11_gutter_0 21 rfl
theorem dX11_gutter_44 : decode cX11_gutter 44 = .ok (.iload_n 1, 1) := z_dk tdX11_gutter_0 22 rfl
theorem dX11_gutter_45 : decode cX11_gutter 45 = .ok (.invokevirtual 143, 3) := z_dk tdX11_gutter_0 23 rfl
theorem tdX11_gutter_48 : (([(48, .ireturn, 1)] : List (Nat × Instr × Nat)).all fun e => decide (decode cX11_gutter e.1 = .ok e.2)) = true := by decide +kernel
theorem dX11_gutter_48 : decode cX11_gutter 48 = .ok (.ireturn, 1) := z_dk tdX11_gutter_48 0 rfl
theorem tdX11_clash_0 : (([(0, .aload_n 0, 1), (1, .invokevirtual 124, 3), (4, .aload_n 0, 1), (5, .iload_n 1, 1), (6, .aload_n 0, 1), (7, .getfield 74, 3), (10, .getfield 176, 3), (13, .invokevirtual 153, 3), (16, .aload_n 0, 1), (17, .invokevirtual 335, 3), (20, .aload_n 0, 1), (21, .getfield 95, 3), (24, .getfield 341, 3), (27, .iload_n 1, 1), (28, .invokevirtual 143, 3), (31, .ireturn, 1)] : List (Nat × Instr × Nat)).all fun e => decide (decode cX11_clash e.1 = .ok e.2)) = true := by decide +kernel
theorem dX11_clash_0 : decode cX11_clash 0 = .ok (.aload_n 0, 1) := z_dk tdX11_clash_0 0 rfl
theorem dX11_clash_1 : decode cX11_clash 1 = .ok (.invokevirtual 124, 3) := z_dk tdX11_clash_0 1 rfl
theorem dX11_clash_4 : decode cX11_clash 4 = .ok (.aload_n 0, 1) := z_dk tdX11_clash_0 2 rfl
theorem dX11_clash_5 : decode cX11_clash 5 = .ok (.iload_n 1, 1) := z_dk tdX11_clash_0 3 rfl
theorem dX11_clash_6 : decode cX11_clash 6 = .ok (.aload_n 0, 1) := z_dk tdX11_clash_0 4 rfl
theorem dX11_clash_7 : decode cX11_clash 7 = .ok (.getfield 74, 3) := z_dk tdX11_clash_0 5 rfl
theorem dX11_clash_10 : decode cX11_clash 10 = .ok (.getfield 176, 3) := z_dk tdX11_clash_0 6 rfl
theorem dX11_clash_13 : decode cX11_clash 13 = .ok (.invokevirtual 153, 3) := z_dk tdX11_clash_0 7 rfl
theorem dX11_clash_16 : decode cX11_clash 16 = .ok (.aload_n 0, 1) := z_dk tdX11_clash_0 8 rfl
theorem dX11_clash_17 : decode cX11_clash 17 = .ok (.invokevirtual 335, 3) := z_dk tdX11_clash_0 9 rfl
theorem dX11_clash_20 : decode cX11_clash 20 = .ok (.aload_n 0, 1) := z_dk tdX11_clash_0 10 rfl
theorem dX11_clash_21 : decode cX11_clash 21 = .ok (.getfield 95, 3) := z_dk tdX11_clash_0 11 rfl
theorem dX11_clash_24 : decode cX11_clash 24 = .ok (.getfield 341, 3) := z_dk tdX11_clash_0 12 rfl
theorem dX11_clash_27 : decode cX11_clash 27 = .ok (.iload_n 1, 1) := z_dk tdX11_clash_0 13 rfl
theorem dX11_clash_28 : decode cX11_clash 28 = .ok (.invokevirtual 143, 3) := z_dk tdX11_clash_0 14 rfl
theorem dX11_clash_31 : decode cX11_clash 31 = .ok (.ireturn, 1) := z_dk tdX11_clash_0 15 rfl
theorem tdX11_thick_0 : (([(0, .aload_n 0, 1), (1, .invokevirtual 124, 3), (4, .aload_n 0, 1), (5, .iload_n 1, 1), (6, .aload_n 0, 1), (7, .getfield 74, 3), (10, .getfield 176, 3), (13, .invokevirtual 153, 3), (16, .aload_n 0, 1), (17, .iload_n 2, 1), (18, .aload_n 0, 1), (19, .getfield 74, 3), (22, .getfield 176, 3), (25, .invokevirtual 153, 3), (28, .aload_n 0, 1), (29, .iload_n 2, 1), (30, .iload_n 1, 1), (31, .aload_n 0, 1), (32, .getfield 74, 3), (35, .getfield 176, 3), (38, .invokevirtual 113, 3), (41, .aload_n 0, 1), (42, .invokevirtual 335, 3), (45, .aload_n 0, 1)] : List (Nat × Instr × Nat)).all fun e => decide (decode cX11_thick e.1 = .ok e.2)) = true := by decide +kernel
theorem dX11_thick_0 : decode cX11_thick 0 = .ok (.aload_n 0, 1) := z_dk tdX11_thick_0 0 rfl
theorem dX11_thick_1 : decode cX11_thick 1 = .ok (.invokevirtual 124, 3) := z_dk tdX11_thick_0 1 rfl
theorem dX11_thick_4 : decode cX11_thick 4 = .ok (.aload_n 0, 1) := z_dk tdX11_thick_0 2 rfl
theorem dX11_thick_5 : decode cX11_thick 5 = .ok (.iload_n 1, 1) := z_dk tdX11_thick_0 3 rfl
theorem dX11_thick_6 : decode cX11_thick 6 = .ok (.aload_n 0, 1) := z_dk tdX11_thick_0 4 rfl
theorem dX11_thick_7 : decode cX11_thick 7 = .ok (.getfield 74, 3) := z_dk tdX11_thick_0 5 rfl
theorem dX11_thick_10 : decode cX11_thick 10 = .ok (.getfield 176, 3) := z_dk tdX11_thick_0 6 rfl
theorem dX11_thick_13 : decode cX11_thick 13 = .ok (.invokevirtual 153, 3) := z_dk tdX11_thick_0 7 rfl
theorem dX11_thick_16 : decode cX11_thick 16 = .ok (.aload_n 0, 1) := z_dk tdX11_thick_0 8 rfl
theorem dX11_thick_17 : decode cX11_thick 17 = .ok (.iload_n 2, 1) := z_dk tdX11_thick_0 9 rfl
theorem dX11_thick_18 : decode cX11_thick 18 = .ok (.aload_n 0, 1) := z_dk tdX11_thick_0 10 rfl
theorem dX11_thick_19 : decode cX11_thick 19 = .ok (.getfield 74, 3) := z_dk tdX11_thick_0 11 rfl
theorem dX11_thick_22 : decode cX11_thick 22 = .ok (.getfield 176, 3) := z_dk tdX11_thick_0 12 rfl
theorem dX11_thick_25 : decode cX11_thick 25 = .ok (.invokevirtual 153, 3) := z_dk tdX11_thick_0 13 rfl
theorem dX11_thick_28 : decode cX11_thick 28 = .ok (.aload_n 0, 1) := z_dk tdX11_thick_0 14 rfl
theorem dX11_thick_29 : decode cX11_thick 29 = .ok (.iload_n 2, 1) := z_dk tdX11_thick_0 15 rfl
theorem dX11_thick_30 : decode cX11_thick 30 = .ok (.iload_n 1, 1) := z_dk tdX11_thick_0 16 rfl
theorem dX11_thick_31 : decode cX11_thick 31 = .ok (.aload_n 0, 1) := z_dk tdX11_thick_0 17 rfl
theorem dX11_thick_32 : decode cX11_thick 32 = .ok (.getfield 74, 3) := z_dk tdX11_thick_0 18 rfl
theorem dX11_thick_35 : decode cX11_thick 35 = .ok (.getfield 176, 3) := z_dk tdX11_thick_0 19 rfl
theorem dX11_thick_38 : decode cX11_thick 38 = .ok (.invokevirtual 113, 3) := z_dk tdX11_thick_0 20 rfl
theorem dX11_thick_41 : decode cX11_thick 41 = .ok (.aload_n 0, 1) := z_dk tdX11_thick_0 21 rfl
theorem dX11_thick_42 : decode cX11_thick 42 = .ok (.invokevirtual 335, 3) := z_dk tdX11_thick_0 22 rfl
theorem dX11_thick_45 : decode cX11_thick 45 = .ok (.aload_n 0, 1) := z_dk tdX11_thick_0 23 rfl
theorem tdX11_thick_46 : (([(46, .getfield 95, 3), (49, .iload_n 1, 1), (50, .iload_n 2, 1), (51, .invokevirtual 344, 3), (54, .ireturn, 1)] : List (Nat × Instr × Nat)).all fun e => decide (decode cX11_thick e.1 = .ok e.2)) = true := by decide +kernel
theorem dX11_thick_46 : decode cX11_thick 46 = .ok (.getfield 95, 3) := z_dk tdX11_thick_46 0 rfl
theorem dX11_thick_49 : decode cX11_thick 49 = .ok (.iload_n 1, 1) := z_dk tdX11_thick_46 1 rfl
theorem dX11_thick_50 : decode cX11_thick 50 = .ok (.iload_n 2, 1) := z_dk tdX11_thick_46 2 rfl
theorem dX11_thick_51 : decode cX11_thick 51 = .ok (.invokevirtual 344, 3) := z_dk tdX11_thick_46 3 rfl
theorem dX11_thick_54 : decode cX11_thick 54 = .ok (.ireturn, 1) := z_dk tdX11_thick_46 4 rfl
theorem tdX11_pages_0 : (([(0, .aload_n 0, 1), (1, .iload_n 1, 1), (2, .bipush 12, 2), (4, .sipush 9999, 3), (7, .invokevirtual 113, 3), (10, .aload_n 0, 1), (11, .invokevirtual 124, 3), (14, .aload_n 0, 1), (15, .invokevirtual 335, 3), (18, .aload_n 0, 1), (19, .getfield 95, 3), (22, .iload_n 1, 1), (23, .invokevirtual 347, 3), (26, .ireturn, 1)] : List (Nat × Instr × Nat)).all fun e => decide (decode cX11_pages e.1 = .ok e.2)) = true := by decide +kernel
theorem dX11_pages_0 : decode cX11_pages 0 = .ok (.aload_n 0, 1) := z_dk tdX11_pages_0 0 rfl
theorem dX11_pages_1 : decode cX11_pages 1 = .ok (.iload_n 1, 1) := z_dk tdX11_pages_0 1 rfl
theorem dX11_pages_2 : decode cX11_pages 2 = .ok (.bipush 12, 2) := z_dk tdX11_pages_0 2 rfl
theorem dX11_pages_4 : decode cX11_pages 4 = .ok (.sipush 9999, 3) := z_dk tdX11_pages_0 3 rfl
theorem dX11_pages_7 : decode cX11_pages 7 = .ok (.invokevirtual 113, 3) := z_dk tdX11_pages_0 4 rfl
theorem dX11_pages_10 : decode cX11_pages 10 = .ok (.aload_n 0, 1) := z_dk tdX11_pages_0 5 rfl
theorem dX11_pages_11 : decode cX11_pages 11 = .ok (.invokevirtual 124, 3) := z_dk tdX11_pages_0 6 rfl
theorem dX11_pages_14 : decode cX11_pages 14 = .ok (.aload_n 0, 1) := z_dk tdX11_pages_0 7 rfl
theorem dX11_pages_15 : decode cX11_pages 15 = .ok (.invokevirtual 335, 3) := z_dk tdX11_pages_0 8 rfl
theorem dX11_pages_18 : decode cX11_pages 18 = .ok (.aload_n 0, 1) := z_dk tdX11_pages_0 9 rfl
theorem dX11_pages_19 : decode cX11_pages 19 = .ok (.getfield 95, 3) := z_dk tdX11_pages_0 10 rfl
theorem dX11_pages_22 : decode cX11_pages 22 = .ok (.iload_n 1, 1) := z_dk tdX11_pages_0 11 rfl
theorem dX11_pages_23 : decode cX11_pages 23 = .ok (.invokevirtual 347, 3) := z_dk tdX11_pages_0 12 rfl
theorem dX11_pages_26 : decode cX11_pages 26 = .ok (.ireturn, 1) := z_dk tdX11_pages_0 13 rfl
theorem tdX11_page_0 : (([(0, .aload_n 0, 1), (1, .iload_n 1, 1), (2, .bipush 12, 2), (4, .sipush 9999, 3), (7, .invokevirtual 113, 3), (10, .aload_n 0, 1), (11, .iload_n 3, 1), (12, .iconst 0, 1), (13, .iconst 2, 1), (14, .invokevirtual 113, 3), (17, .aload_n 0, 1), (18, .invokevirtual 124, 3), (21, .aload_n 0, 1), (22, .invokevirtual 335, 3), (25, .iload_n 2, 1), (26, .ifCond .ge 13, 3), (29, .aload_n 0, 1), (30, .getfield 74, 3), (33, .getfield 176, 3), (36, .goto 4, 3), (39, .iconst 0, 1), (40, .istore 4, 2), (42, .iconst 0, 1), (43, .istore 5, 2)] : List (Nat × Instr × Nat)).all fun e => decide (decode cX11_page e.1 = .ok e.2)) = true := by decide +kernel
theorem dX11_page_0 : decode cX11_page 0 = .ok (.aload_n 0, 1) := z_dk tdX11_page_0 0 rfl
theorem dX11_page_1 : decode cX11_page 1 = .ok (.iload_n 1, 1) := z_dk tdX11_page_0 1 rfl
theorem dX11_page_2 : decode cX11_page 2 = .ok (.bipush 12, 2) := z_dk tdX11_page_0 2 rfl
theorem dX11_page_4 : decode cX11_page 4 = .ok (.sipush 9999, 3) := z_dk tdX11_page_0 3 rfl
theorem dX11_page_7 : decode cX11_page 7 = .ok (.invokevirtual 113, 3) := z_dk tdX11_page_0 4 rfl
theorem dX11_page_10 : decode cX11_page 10 = .ok (.aload_n 0, 1) := z_dk tdX11_page_0 5 rfl
theorem dX11_page_11 : decode cX11_page 11 = .ok (.iload_n 3, 1) := z_dk tdX11_page_0 6 rfl
theorem dX11_page_12 : decode cX11_page 12 = .ok (.iconst 0, 1) := z_dk tdX11_page_0 7 rfl
theorem dX11_page_13 : decode cX11_page 13 = .ok (.iconst 2, 1) := z_dk tdX11_page_0 8 rfl
theorem dX11_page_14 : decode cX11_page 14 = .ok (.invokevirtual 113, 3) := z_dk tdX11_page_0 9 rfl
theorem dX11_page_17 : decode cX11_page 17 = .ok (.aload_n 0, 1) := z_dk tdX11_page_0 10 rfl
theorem dX11_page_18 : decode cX11_page 18 = .ok (.invokevirtual 124, 3) := z_dk tdX11_page_0 11 rfl
theorem dX11_page_21 : decode cX11_page 21 = .ok (.aload_n 0, 1) := z_dk tdX11_page_0 12 rfl
theorem dX11_page_22 : decode cX11_page 22 = .ok (.invokevirtual 335, 3) := z_dk tdX11_page_0 13 rfl
theorem dX11_page_25 : decode cX11_page 25 = .ok (.iload_n 2, 1) := z_dk tdX11_page_0 14 rfl
theorem dX11_page_26 : decode cX11_page 26 = .ok (.ifCond .ge 13, 3) := z_dk tdX11_page_0 15 rfl
theorem dX11_page_29 : decode cX11_page 29 = .ok (.aload_n 0, 1) := z_dk tdX11_page_0 16 rfl
theorem dX11_page_30 : decode cX11_page 30 = .ok (.getfield 74, 3) := z_dk tdX11_page_0 17 rfl
theorem dX11_page_33 : decode cX11_page 33 = .ok (.getfield 176, 3) := z_dk tdX11_page_0 18 rfl
theorem dX11_page_36 : decode cX11_page 36 = .ok (.goto 4, 3) := z_dk tdX11_page_0 19 rfl
theorem dX11_page_39 : decode cX11_page 39 = .ok (.iconst 0, 1) := z_dk tdX11_page_0 20 rfl
theorem dX11_page_40 : decode cX11_page 40 = .ok (.istore 4, 2) := z_dk tdX11_page_0 21 rfl
theorem dX11_page_42 : decode cX11_page 42 = .ok (.iconst 0, 1) := z_dk tdX11_page_0 22 rfl
theorem dX11_page_43 : decode cX11_page 43 = .ok (.istore 5, 2) := z_dk tdX11_page_0 23 rfl
theorem tdX11_page_45 : (([(45, .iload 5, 2), (47, .iload_n 2, 1), (48, .if_icmp .ge 35, 3), (51, .iload 4, 2), (53, .aload_n 0, 1), (54, .getfield 74, 3), (57, .getfield 176, 3), (60, .if_icmp .ge 23, 3), (63, .aload_n 0, 1), (64, .getfield 95, 3), (67, .iload 4, 2), (69, .iload_n 1, 1), (70, .invokevirtual 350, 3), (73, .iconst 1, 1), (74, .iadd, 1), (75, .istore 4, 2), (77, .iinc 5 1, 3), (80, .goto (-35), 3), (83, .iload 4, 2), (85, .aload_n 0, 1), (86, .getfield 74, 3), (89, .getfield 176, 3), (92, .if_icmp .lt 5, 3), (95, .iconst (-1), 1)] : List (Nat × Instr × Nat)).all fun e => decide (decode cX11_page e.1 = .ok e.2)) = true := by decide +kernel
theorem dX11_page_45 : decode cX11_page 45 = .ok (.iload 5, 2) := z_dk tdX11_page_45 0 rfl
theorem dX11_page_47 : decode cX11_page 47 = .ok (.iload_n 2, 1) := z_dk tdX11_page_45 1 rfl
theorem dX11_page_48 : decode cX11_page 48 = .ok (.if_icmp .ge 35, 3) := z_dk tdX11_page_45 2 rfl
theorem dX11_page_51 : decode cX11_page 51 = .ok (.iload 4, 2) := z_dk tdX11_page_45 3 rfl
theorem dX11_page_53 : decode cX11_page 53 = .ok (.aload_n 0, 1) := z_dk tdX11_page_45 4 rfl
theorem dX11_page_54 : decode cX11_page 54 = .ok (.getfield 74, 3) := z_dk tdX11_page_45 5 rfl
theorem dX11_page_57 : decode cX11_page 57 = .ok (.getfield 176, 3) := z_dk tdX11_page_45 6 rfl
theorem dX11_page_60 : decode cX11_page 60 = .ok (.if_icmp .ge 23, 3) := z_dk tdX11_page_45 7 rfl
theorem dX11_page_63 : decode cX11_page 63 = .ok (.aload_n 0, 1) := z_dk tdX11_page_45 8 rfl
theorem dX11_page_64 : decode cX11_page 64 = .ok (.getfield 95, 3) := z_dk tdX11_page_45 9 rfl
theorem dX11_page_67 : decode cX11_page 67 = .ok (.iload 4, 2) := z_dk tdX11_page_45 10 rfl
theorem dX11_page_69 : decode cX11_page 69 = .ok (.iload_n 1, 1) := z_dk tdX11_page_45 11 rfl
theorem dX11_page_70 : decode cX11_page 70 = .ok (.invokevirtual 350, 3) := z_dk tdX11_page_45 12 rfl
theorem dX11_page_73 : decode cX11_page 73 = .ok (.iconst 1, 1) := z_dk tdX11_page_45 13 rfl
theorem dX11_page_74 : decode cX11_page 74 = .ok (.iadd, 1) := z_dk tdX11_page_45 14 rfl
theorem dX11_page_75 : decode cX11_page 75 = .ok (.istore 4, 2) := z_dk tdX11_page_45 15 rfl
theorem dX11_page_77 : decode cX11_page 77 = .ok (.iinc 5 1, 3) := z_dk tdX11_page_45 16 rfl
theorem dX11_page_80 : decode cX11_page 80 = .ok (.goto (-35), 3) := z_dk tdX11_page_45 17 rfl
theorem dX11_page_83 : decode cX11_page 83 = .ok (.iload 4, 2) := z_dk tdX11_page_45 18 rfl
theorem dX11_page_85 : decode cX11_page 85 = .ok (.aload_n 0, 1) := z_dk tdX11_page_45 19 rfl
theorem dX11_page_86 : decode cX11_page 86 = .ok (.getfield 74, 3) := z_dk tdX11_page_45 20 rfl
theorem dX11_page_89 : decode cX11_page 89 = .ok (.getfield 176, 3) := z_dk tdX11_page_45 21 rfl
theorem dX11_page_92 : decode cX11_page 92 = .ok (.if_icmp .lt 5, 3) := z_dk tdX11_page_45 22 rfl
theorem dX11_page_95 : decode cX11_page 95 = .ok (.iconst (-1), 1) := z_dk tdX11_page_45 23 rfl
theorem tdX11_page_96 : (([(96, .ireturn, 1), (97, .aload_n 0, 1), (98, .getfield 95, 3), (101, .iload 4, 2), (103, .iload_n 1, 1), (104, .invokevirtual 350, 3), (107, .istore 5, 2), (109, .iload_n 3, 1), (110, .ifCond .ne 8, 3), (113, .iload 4, 2), (115, .goto 29, 3), (118, .iload_n 3, 1), (119, .iconst 1, 1), (120, .if_icmp .ne 13, 3), (123, .iload 5, 2), (125, .iload 4, 2), (127, .isub, 1), (128, .iconst 1, 1), (129, .iadd, 1), (130, .goto 14, 3), (133, .aload_n 0, 1), (134, .getfield 95, 3), (137, .iload 4, 2), (139, .iload 5, 2)] : List (Nat × Instr × Nat)).all fun e => decide (decode cX11_page e.1 = .ok e.2)) = true := by decide +kernel
theorem dX11_page_96 : decode cX11_page 96 = .ok (.ireturn, 1) := z_dk tdX11_page_96 0 rfl
theorem dX11_page_97 : decode cX11_page 97 = .ok (.aload_n 0, 1) := z_dk tdX11_page_96 1 rfl
theorem dX11_page_98 : decode cX11_page 98 = .ok (.getfield 95, 3) := z_dk tdX11_page_96 2 rfl
theorem dX11_page_101 : decode cX11_page 101 = .ok (.iload 4, 2) := z_dk tdX11_page_96 3 rfl
theorem dX11_page_103 : decode cX11_page 103 = .ok (.iload_n 1, 1) := z_dk tdX11_page_96 4 rfl
theorem dX11_page_104 : decode cX11_page 104 = .ok (.invokevirtual 350, 3) := z_dk tdX11_page_96 5 rfl
theorem dX11_page_107 : decode cX11_page 107 = .ok (.istore 5, 2) := z_dk tdX11_page_96 6 rfl
theorem dX11_page_109 : decode cX11_page 109 = .ok (.iload_n 3, 1) := z_dk tdX11_page_96 7 rfl
theorem dX11_page_110 : decode cX11_page 110 = .ok (.ifCond .ne 8, 3) := z_dk tdX11_page_96 8 rfl
theorem dX11_page_113 : decode cX11_page 113 = .ok (.iload 4, 2) := z_dk tdX11_page_96 9 rfl
theorem dX11_page_115 : decode cX11_page 115 = .ok (.goto 29, 3) := z_dk tdX11_page_96 10 rfl
theorem dX11_page_118 : decode cX11_page 118 = .ok (.iload_n 3, 1) := z_dk tdX11_page_96 11 rfl
theorem dX11_page_119 : decode cX11_page 119 = .ok (.iconst 1, 1) := z_dk tdX11_page_96 12 rfl
theorem dX11_page_120 : decode cX11_page 120 = .ok (.if_icmp .ne 13, 3) := z_dk tdX11_page_96 13 rfl
theorem dX11_page_123 : decode cX11_page 123 = .ok (.iload 5, 2) := z_dk tdX11_page_96 14 rfl
theorem dX11_page_125 : decode cX11_page 125 = .ok (.iload 4, 2) := z_dk tdX11_page_96 15 rfl
theorem dX11_page_127 : decode cX11_page 127 = .ok (.isub, 1) := z_dk tdX11_page_96 16 rfl
theorem dX11_page_128 : decode cX11_page 128 = .ok (.iconst 1, 1) := z_dk tdX11_page_96 17 rfl
theorem dX11_page_129 : decode cX11_page 129 = .ok (.iadd, 1) := z_dk tdX11_page_96 18 rfl
theorem dX11_page_130 : decode cX11_page 130 = .ok (.goto 14, 3) := z_dk tdX11_page_96 19 rfl
theorem dX11_page_133 : decode cX11_page 133 = .ok (.aload_n 0, 1) := z_dk tdX11_page_96 20 rfl
theorem dX11_page_134 : decode cX11_page 134 = .ok (.getfield 95, 3) := z_dk tdX11_page_96 21 rfl
theorem dX11_page_137 : decode cX11_page 137 = .ok (.iload 4, 2) := z_dk tdX11_page_96 22 rfl
theorem dX11_page_139 : decode cX11_page 139 = .ok (.iload 5, 2) := z_dk tdX11_page_96 23 rfl
theorem tdX11_page_141 : (([(141, .invokevirtual 344, 3), (144, .ireturn, 1)] : List (Nat × Instr × Nat)).all fun e => decide (decode cX11_page e.1 = .ok e.2)) = true := by decide +kernel
theorem dX11_page_141 : decode cX11_page 141 = .ok (.invokevirtual 344, 3) := z_dk tdX11_page_141 0 rfl
theorem dX11_page_144 : decode cX11_page 144 = .ok (.ireturn, 1) := z_dk tdX11_page_141 1 rfl
theorem tdX11_narrow_0 : (([(0, .aload_n 0, 1), (1, .iload_n 1, 1), (2, .iconst 1, 1), (3, .sipush 200, 3), (6, .invokevirtual 113, 3), (9, .aload_n 0, 1), (10, .invokevirtual 124, 3), (13, .aload_n 0, 1), (14, .invokevirtual 335, 3), (17, .bipush 12, 2), (19, .istore_n 2, 1), (20, .sipush 10000, 3), (23, .istore_n 3, 1), (24, .iload_n 2, 1), (25, .iload_n 3, 1), (26, .if_icmp .ge 37, 3), (29, .iload_n 2, 1), (30, .iload_n 3, 1), (31, .iadd, 1), (32, .iconst 2, 1), (33, .idiv, 1), (34, .istore 4, 2), (36, .aload_n 0, 1), (37, .getfield 95, 3)] : List (Nat × Instr × Nat)).all fun e => decide (decode cX11_narrow e.1 = .ok e.2)) = true := by decide +kernel
theorem dX11_narrow_0 : decode cX11_narrow 0 = .ok (.aload_n 0, 1) := z_dk tdX11_narrow_0 0 rfl
theorem dX11_narrow_1 : decode cX11_narrow 1 = .ok (.iload_n 1, 1) := z_dk tdX11_narrow_0 1 rfl
theorem dX11_narrow_2 : decode cX11_narrow 2 = .ok (.iconst 1, 1) := z_dk tdX11_narrow_0 2 rfl
theorem dX11_narrow_3 : decode cX11_narrow 3 = .ok (.sipush 200, 3) := z_dk tdX11_narrow_0 3 rfl
theorem dX11_narrow_6 : decode cX11_narrow 6 = .ok (.invokevirtual 113, 3) := z_dk tdX11_narrow_0 4 rfl
theorem dX11_narrow_9 : decode cX11_narrow 9 = .ok (.aload_n 0, 1) := z_dk tdX11_narrow_0 5 rfl
theorem dX11_narrow_10 : decode cX11_narrow 10 = .ok (.invokevirtual 124, 3) := z_dk tdX11_narrow_0 6 rfl
theorem dX11_narrow_13 : decode cX11_narrow 13 = .ok (.aload_n 0, 1) := z_dk tdX11_narrow_0 7 rfl
theorem dX11_narrow_14 : decode cX11_narrow 14 = .ok (.invokevirtual 335, 3) := z_dk tdX11_narrow_0 8 rfl
theorem dX11_narrow_17 : decode cX11_narrow 17 = .ok (.bipush 12, 2) := z_dk tdX11_narrow_0 9 rfl
theorem dX11_narrow_19 : decode cX11_narrow 19 = .ok (.istore_n 2, 1) := z_dk tdX11_narrow_0 10 rfl
theorem dX11_narrow_20 : decode cX11_narrow 20 = .ok (.sipush 10000, 3) := z_dk tdX11_narrow_0 11 rfl
theorem dX11_narrow_23 : decode cX11_narrow 23 = .ok (.istore_n 3, 1) := z_dk tdX11_narrow_0 12 rfl
theorem dX11_narrow_24 : decode cX11_narrow 24 = .ok (.iload_n 2, 1) := z_dk tdX11_narrow_0 13 rfl
theorem dX11_narrow_25 : decode cX11_narrow 25 = .ok (.iload_n 3, 1) := z_dk tdX11_narrow_0 14 rfl
theorem dX11_narrow_26 : decode cX11_narrow 26 = .ok (.if_icmp .ge 37, 3) := z_dk tdX11_narrow_0 15 rfl
theorem dX11_narrow_29 : decode cX11_narrow 29 = .ok (.iload_n 2, 1) := z_dk tdX11_narrow_0 16 rfl
theorem dX11_narrow_30 : decode cX11_narrow 30 = .ok (.iload_n 3, 1) := z_dk tdX11_narrow_0 17 rfl
theorem dX11_narrow_31 : decode cX11_narrow 31 = .ok (.iadd, 1) := z_dk tdX11_narrow_0 18 rfl
theorem dX11_narrow_32 : decode cX11_narrow 32 = .ok (.iconst 2, 1) := z_dk tdX11_narrow_0 19 rfl
theorem dX11_narrow_33 : decode cX11_narrow 33 = .ok (.idiv, 1) := z_dk tdX11_narrow_0 20 rfl
theorem dX11_narrow_34 : decode cX11_narrow 34 = .ok (.istore 4, 2) := z_dk tdX11_narrow_0 21 rfl
theorem dX11_narrow_36 : decode cX11_narrow 36 = .ok (.aload_n 0, 1) := z_dk tdX11_narrow_0 22 rfl
theorem dX11_narrow_37 : decode cX11_narrow 37 = .ok (.getfield 95, 3) := z_dk tdX11_narrow_0 23 rfl
theorem tdX11_narrow_40 : (([(40, .iload 4, 2), (42, .invokevirtual 347, 3), (45, .iload_n 1, 1), (46, .if_icmp .gt 9, 3), (49, .iload 4, 2), (51, .istore_n 3, 1), (52, .goto 8, 3), (55, .iload 4, 2), (57, .iconst 1, 1), (58, .iadd, 1), (59, .istore_n 2, 1), (60, .goto (-36), 3), (63, .iload_n 2, 1), (64, .sipush 9999, 3), (67, .if_icmp .le 7, 3), (70, .iconst (-1), 1), (71, .goto 4, 3), (74, .iload_n 2, 1), (75, .ireturn, 1)] : List (Nat × Instr × Nat)).all fun e => decide (decode cX11_narrow e.1 = .ok e.2)) = true := by decide +kernel
theorem dX11_narrow_40 : decode cX11_narrow 40 = .ok (.iload 4, 2) := z_dk tdX11_narrow_40 0 rfl
theorem dX11_narrow_42 : decode cX11_narrow 42 = .ok (.invokevirtual 347, 3) := z_dk tdX11_narrow_40 1 rfl
theorem dX11_narrow_45 : decode cX11_narrow 45 = .ok (.iload_n 1, 1) := z_dk tdX11_narrow_40 2 rfl
theorem dX11_narrow_46 : decode cX11_narrow 46 = .ok (.if_icmp .gt 9, 3) := z_dk tdX11_narrow_40 3 rfl
theorem dX11_narrow_49 : decode cX11_narrow 49 = .ok (.iload 4, 2) := z_dk tdX11_narrow_40 4 rfl
theorem dX11_narrow_51 : decode cX11_narrow 51 = .ok (.istore_n 3, 1) := z_dk tdX11_narrow_40 5 rfl
theorem dX11_narrow_52 : decode cX11_narrow 52 = .ok (.goto 8, 3) := z_dk tdX11_narrow_40 6 rfl
theorem dX11_narrow_55 : decode cX11_narrow 55 = .ok (.iload 4, 2) := z_dk tdX11_narrow_40 7 rfl
theorem dX11_narrow_57 : decode cX11_narrow 57 = .ok (.iconst 1, 1) := z_dk tdX11_narrow_40 8 rfl
theorem dX11_narrow_58 : decode cX11_narrow 58 = .ok (.iadd, 1) := z_dk tdX11_narrow_40 9 rfl
theorem dX11_narrow_59 : decode cX11_narrow 59 = .ok (.istore_n 2, 1) := z_dk tdX11_narrow_40 10 rfl
theorem dX11_narrow_60 : decode cX11_narrow 60 = .ok (.goto (-36), 3) := z_dk tdX11_narrow_40 11 rfl
theorem dX11_narrow_63 : decode cX11_narrow 63 = .ok (.iload_n 2, 1) := z_dk tdX11_narrow_40 12 rfl
theorem dX11_narrow_64 : decode cX11_narrow 64 = .ok (.sipush 9999, 3) := z_dk tdX11_narrow_40 13 rfl
theorem dX11_narrow_67 : decode cX11_narrow 67 = .ok (.if_icmp .le 7, 3) := z_dk tdX11_narrow_40 14 rfl
theorem dX11_narrow_70 : decode cX11_narrow 70 = .ok (.iconst (-1), 1) := z_dk tdX11_narrow_40 15 rfl
theorem dX11_narrow_71 : decode cX11_narrow 71 = .ok (.goto 4, 3) := z_dk tdX11_narrow_40 16 rfl
theorem dX11_narrow_74 : decode cX11_narrow 74 = .ok (.iload_n 2, 1) := z_dk tdX11_narrow_40 17 rfl
theorem dX11_narrow_75 : decode cX11_narrow 75 = .ok (.ireturn, 1) := z_dk tdX11_narrow_40 18 rfl
theorem tdX11_status_0 : (([(0, .iload_n 1, 1), (1, .ifCond .ne 10, 3), (4, .aload_n 0, 1), (5, .getfield 353, 3), (8, .goto 16, 3), (11, .iload_n 1, 1), (12, .iconst 1, 1), (13, .if_icmp .ne 10, 3), (16, .aload_n 0, 1), (17, .getfield 356, 3), (20, .goto 4, 3), (23, .iconst (-1), 1), (24, .ireturn, 1)] : List (Nat × Instr × Nat)).all fun e => decide (decode cX11_status e.1 = .ok e.2)) = true := by decide +kernel
theorem dX11_status_0 : decode cX11_status 0 = .ok (.iload_n 1, 1) := z_dk tdX11_status_0 0 rfl
theorem dX11_status_1 : decode cX11_status 1 = .ok (.ifCond .ne 10, 3) := z_dk tdX11_status_0 1 rfl
theorem dX11_status_4 : decode cX11_status 4 = .ok (.aload_n 0, 1) := z_dk tdX11_status_0 2 rfl
theorem dX11_status_5 : decode cX11_status 5 = .ok (.getfield 353, 3) := z_dk tdX11_status_0 3 rfl
theorem dX11_status_8 : decode cX11_status 8 = .ok (.goto 16, 3) := z_dk tdX11_status_0 4 rfl
theorem dX11_status_11 : decode cX11_status 11 = .ok (.iload_n 1, 1) := z_dk tdX11_status_0 5 rfl
theorem dX11_status_12 : decode cX11_status 12 = .ok (.iconst 1, 1) := z_dk tdX11_status_0 6 rfl
theorem dX11_status_13 : decode cX11_status 13 = .ok (.if_icmp .ne 10, 3) := z_dk tdX11_status_0 7 rfl
theorem dX11_status_16 : decode cX11_status 16 = .ok (.aload_n 0, 1) := z_dk tdX11_status_0 8 rfl
theorem dX11_status_17 : decode cX11_status 17 = .ok (.getfield 356, 3) := z_dk tdX11_status_0 9 rfl
theorem dX11_status_20 : decode cX11_status 20 = .ok (.goto 4, 3) := z_dk tdX11_status_0 10 rfl
theorem dX11_status_23 : decode cX11_status 23 = .ok (.iconst (-1), 1) := z_dk tdX11_status_0 11 rfl
theorem dX11_status_24 : decode cX11_status 24 = .ok (.ireturn, 1) := z_dk tdX11_status_0 12 rfl
theorem tdX11_needExisting_0 : (([(0, .iload_n 1, 1), (1, .ifCond .lt 8, 3), (4, .iload_n 1, 1), (5, .iload_n 2, 1), (6, .if_icmp .lt 21, 3), (9, .aload_n 0, 1), (10, .dup, 1), (11, .getfield 353, 3), (14, .iconst 1, 1), (15, .iadd, 1), (16, .putfield 353, 3), (19, .new 359, 3), (22, .dup, 1), (23, .invokespecial 361, 3), (26, .athrow, 1), (27, .return_, 1)] : List (Nat × Instr × Nat)).all fun e => decide (decode cX11_needExisting e.1 = .ok e.2)) = true := by decide +kernel
theorem dX11_needExisting_0 : decode cX11_needExisting 0 = .ok (.iload_n 1, 1) := z_dk tdX11_needExisting_0 0 rfl
theorem dX11_needExisting_1 : decode cX11_needExisting 1 = .ok (.ifCond .lt 8, 3) := z_dk tdX11_needExisting_0 1 rfl
theorem dX11_needExisting_4 : decode cX11_needExisting 4 = .ok (.iload_n 1, 1) := z_dk tdX11_needExisting_0 2 rfl
theorem dX11_needExisting_5 : decode cX11_needExisting 5 = .ok (.iload_n 2, 1) := z_dk tdX11_needExisting_0 3 rfl
theorem dX11_needExisting_6 : decode cX11_needExisting 6 = .ok (.if_icmp .lt 21, 3) := z_dk tdX11_needExisting_0 4 rfl
theorem dX11_needExisting_9 : decode cX11_needExisting 9 = .ok (.aload_n 0, 1) := z_dk tdX11_needExisting_0 5 rfl
theorem dX11_needExisting_10 : decode cX11_needExisting 10 = .ok (.dup, 1) := z_dk tdX11_needExisting_0 6 rfl
theorem dX11_needExisting_11 : decode cX11_needExisting 11 = .ok (.getfield 353, 3) := z_dk tdX11_needExisting_0 7 rfl
theorem dX11_needExisting_14 : decode cX11_needExisting 14 = .ok (.iconst 1, 1) := z_dk tdX11_needExisting_0 8 rfl
theorem dX11_needExisting_15 : decode cX11_needExisting 15 = .ok (.iadd, 1) := z_dk tdX11_needExisting_0 9 rfl
theorem dX11_needExisting_16 : decode cX11_needExisting 16 = .ok (.putfield 353, 3) := z_dk tdX11_needExisting_0 10 rfl
theorem dX11_needExisting_19 : decode cX11_needExisting 19 = .ok (.new 359, 3) := z_dk tdX11_needExisting_0 11 rfl
theorem dX11_needExisting_22 : decode cX11_needExisting 22 = .ok (.dup, 1) := z_dk tdX11_needExisting_0 12 rfl
theorem dX11_needExisting_23 : decode cX11_needExisting 23 = .ok (.invokespecial 361, 3) := z_dk tdX11_needExisting_0 13 rfl
theorem dX11_needExisting_26 : decode cX11_needExisting 26 = .ok (.athrow, 1) := z_dk tdX11_needExisting_0 14 rfl
theorem dX11_needExisting_27 : decode cX11_needExisting 27 = .ok (.return_, 1) := z_dk tdX11_needExisting_0 15 rfl
theorem tdX11_needWithin_0 : (([(0, .iload_n 1, 1), (1, .iload_n 2, 1), (2, .if_icmp .lt 8, 3), (5, .iload_n 1, 1), (6, .iload_n 3, 1), (7, .if_icmp .le 21, 3), (10, .aload_n 0, 1), (11, .dup, 1), (12, .getfield 356, 3), (15, .iconst 1, 1), (16, .iadd, 1), (17, .putfield 356, 3), (20, .new 362, 3), (23, .dup, 1), (24, .invokespecial 364, 3), (27, .athrow, 1), (28, .return_, 1)] : List (Nat × Instr × Nat)).all fun e => decide (decode cX11_needWithin e.1 = .ok e.2)) = true := by decide +kernel
theorem dX11_needWithin_0 : decode cX11_needWithin 0 = .ok (.iload_n 1, 1) := z_dk tdX11_needWithin_0 0 rfl
theorem dX11_needWithin_1 : decode cX11_needWithin 1 = .ok (.iload_n 2, 1) := z_dk tdX11_needWithin_0 1 rfl
theorem dX11_needWithin_2 : decode cX11_needWithin 2 = .ok (.if_icmp .lt 8, 3) := z_dk tdX11_needWithin_0 2 rfl
theorem dX11_needWithin_5 : decode cX11_needWithin 5 = .ok (.iload_n 1, 1) := z_dk tdX11_needWithin_0 3 rfl
theorem dX11_needWithin_6 : decode cX11_needWithin 6 = .ok (.iload_n 3, 1) := z_dk tdX11_needWithin_0 4 rfl
theorem dX11_needWithin_7 : decode cX11_needWithin 7 = .ok (.if_icmp .le 21, 3) := z_dk tdX11_needWithin_0 5 rfl
theorem dX11_needWithin_10 : decode cX11_needWithin 10 = .ok (.aload_n 0, 1) := z_dk tdX11_needWithin_0 6 rfl
theorem dX11_needWithin_11 : decode cX11_needWithin 11 = .ok (.dup, 1) := z_dk tdX11_needWithin_0 7 rfl
theorem dX11_needWithin_12 : decode cX11_needWithin 12 = .ok (.getfield 356, 3) := z_dk tdX11_needWithin_0 8 rfl
theorem dX11_needWithin_15 : decode cX11_needWithin 15 = .ok (.iconst 1, 1) := z_dk tdX11_needWithin_0 9 rfl
theorem dX11_needWithin_16 : decode cX11_needWithin 16 = .ok (.iadd, 1) := z_dk tdX11_needWithin_0 10 rfl
theorem dX11_needWithin_17 : decode cX11_needWithin 17 = .ok (.putfield 356, 3) := z_dk tdX11_needWithin_0 11 rfl
theorem dX11_needWithin_20 : decode cX11_needWithin 20 = .ok (.new 362, 3) := z_dk tdX11_needWithin_0 12 rfl
theorem dX11_needWithin_23 : decode cX11_needWithin 23 = .ok (.dup, 1) := z_dk tdX11_needWithin_0 13 rfl
theorem dX11_needWithin_24 : decode cX11_needWithin 24 = .ok (.invokespecial 364, 3) := z_dk tdX11_needWithin_0 14 rfl
theorem dX11_needWithin_27 : decode cX11_needWithin 27 = .ok (.athrow, 1) := z_dk tdX11_needWithin_0 15 rfl
theorem dX11_needWithin_28 : decode cX11_needWithin 28 = .ok (.return_, 1) := z_dk tdX11_needWithin_0 16 rfl
theorem tdX11_shortestFor_0 : (([(0, .getstatic 133, 3), (3, .iconst 0, 1), (4, .invokestatic 136, 3), (7, .istore_n 3, 1), (8, .getstatic 140, 3), (11, .iconst 0, 1), (12, .invokestatic 136, 3), (15, .iconst 1, 1), (16, .iadd, 1), (17, .istore 4, 2), (19, .iload_n 3, 1), (20, .iload 4, 2), (22, .if_icmp .ge 40, 3), (25, .iload_n 3, 1), (26, .iload 4, 2), (28, .iadd, 1), (29, .iconst 2, 1), (30, .idiv, 1), (31, .istore 5, 2), (33, .aload_n 0, 1), (34, .getfield 78, 3), (37, .iload 5, 2), (39, .iload_n 2, 1), (40, .invokevirtual 365, 3)] : List (Nat × Instr × Nat)).all fun e => decide (decode cX11_shortestFor e.1 = .ok e.2)) = true := by decide +kernel
theorem dX11_shortestFor_0 : decode cX11_shortestFor 0 = .ok (.getstatic 133, 3) := z_dk tdX11_shortestFor_0 0 rfl
theorem dX11_shortestFor_3 : decode cX11_shortestFor 3 = .ok (.iconst 0, 1) := z_dk tdX11_shortestFor_0 1 rfl
theorem dX11_shortestFor_4 : decode cX11_shortestFor 4 = .ok (.invokestatic 136, 3) := z_dk tdX11_shortestFor_0 2 rfl
theorem dX11_shortestFor_7 : decode cX11_shortestFor 7 = .ok (.istore_n 3, 1) := z_dk tdX11_shortestFor_0 3 rfl
theorem dX11_shortestFor_8 : decode cX11_shortestFor 8 = .ok (.getstatic 140, 3) := z_dk tdX11_shortestFor_0 4 rfl
theorem dX11_shortestFor_11 : decode cX11_shortestFor 11 = .ok (.iconst 0, 1) := z_dk tdX11_shortestFor_0 5 rfl
theorem dX11_shortestFor_12 : decode cX11_shortestFor 12 = .ok (.invokestatic 136, 3) := z_dk tdX11_shortestFor_0 6 rfl
theorem dX11_shortestFor_15 : decode cX11_shortestFor 15 = .ok (.iconst 1, 1) := z_dk tdX11_shortestFor_0 7 rfl
theorem dX11_shortestFor_16 : decode cX11_shortestFor 16 = .ok (.iadd, 1) := z_dk tdX11_shortestFor_0 8 rfl
theorem dX11_shortestFor_17 : decode cX11_shortestFor 17 = .ok (.istore 4, 2) := z_dk tdX11_shortestFor_0 9 rfl
theorem dX11_shortestFor_19 : decode cX11_shortestFor 19 = .ok (.iload_n 3, 1) := z_dk tdX11_shortestFor_0 10 rfl
theorem dX11_shortestFor_20 : decode cX11_shortestFor 20 = .ok (.iload 4, 2) := z_dk tdX11_shortestFor_0 11 rfl
theorem dX11_shortestFor_22 : decode cX11_shortestFor 22 = .ok (.if_icmp .ge 40, 3) := z_dk tdX11_shortestFor_0 12 rfl
theorem dX11_shortestFor_25 : decode cX11_shortestFor 25 = .ok (.iload_n 3, 1) := z_dk tdX11_shortestFor_0 13 rfl
theorem dX11_shortestFor_26 : decode cX11_shortestFor 26 = .ok (.iload 4, 2) := z_dk tdX11_shortestFor_0 14 rfl
theorem dX11_shortestFor_28 : decode cX11_shortestFor 28 = .ok (.iadd, 1) := z_dk tdX11_shortestFor_0 15 rfl
theorem dX11_shortestFor_29 : decode cX11_shortestFor 29 = .ok (.iconst 2, 1) := z_dk tdX11_shortestFor_0 16 rfl
theorem dX11_shortestFor_30 : decode cX11_shortestFor 30 = .ok (.idiv, 1) := z_dk tdX11_shortestFor_0 17 rfl
theorem dX11_shortestFor_31 : decode cX11_shortestFor 31 = .ok (.istore 5, 2) := z_dk tdX11_shortestFor_0 18 rfl
theorem dX11_shortestFor_33 : decode cX11_shortestFor 33 = .ok (.aload_n 0, 1) := z_dk tdX11_shortestFor_0 19 rfl
theorem dX11_shortestFor_34 : decode cX11_shortestFor 34 = .ok (.getfield 78, 3) := z_dk tdX11_shortestFor_0 20 rfl
theorem dX11_shortestFor_37 : decode cX11_shortestFor 37 = .ok (.iload 5, 2) := z_dk tdX11_shortestFor_0 21 rfl
theorem dX11_shortestFor_39 : decode cX11_shortestFor 39 = .ok (.iload_n 2, 1) := z_dk tdX11_shortestFor_0 22 rfl
theorem dX11_shortestFor_40 : decode cX11_shortestFor 40 = .ok (.invokevirtual 365, 3) := z_dk tdX11_shortestFor_0 23 rfl
theorem tdX11_shortestFor_43 : (([(43, .iload_n 1, 1), (44, .if_icmp .gt 10, 3), (47, .iload 5, 2), (49, .istore 4, 2), (51, .goto 8, 3), (54, .iload 5, 2), (56, .iconst 1, 1), (57, .iadd, 1), (58, .istore_n 3, 1), (59, .goto (-40), 3), (62, .iload_n 3, 1), (63, .ireturn, 1)] : List (Nat × Instr × Nat)).all fun e => decide (decode cX11_shortestFor e.1 = .ok e.2)) = true := by decide +kernel
theorem dX11_shortestFor_43 : decode cX11_shortestFor 43 = .ok (.iload_n 1, 1) := z_dk tdX11_shortestFor_43 0 rfl
theorem dX11_shortestFor_44 : decode cX11_shortestFor 44 = .ok (.if_icmp .gt 10, 3) := z_dk tdX11_shortestFor_43 1 rfl
theorem dX11_shortestFor_47 : decode cX11_shortestFor 47 = .ok (.iload 5, 2) := z_dk tdX11_shortestFor_43 2 rfl
theorem dX11_shortestFor_49 : decode cX11_shortestFor 49 = .ok (.istore 4, 2) := z_dk tdX11_shortestFor_43 3 rfl
theorem dX11_shortestFor_51 : decode cX11_shortestFor 51 = .ok (.goto 8, 3) := z_dk tdX11_shortestFor_43 4 rfl
theorem dX11_shortestFor_54 : decode cX11_shortestFor 54 = .ok (.iload 5, 2) := z_dk tdX11_shortestFor_43 5 rfl
theorem dX11_shortestFor_56 : decode cX11_shortestFor 56 = .ok (.iconst 1, 1) := z_dk tdX11_shortestFor_43 6 rfl
theorem dX11_shortestFor_57 : decode cX11_shortestFor 57 = .ok (.iadd, 1) := z_dk tdX11_shortestFor_43 7 rfl
theorem dX11_shortestFor_58 : decode cX11_shortestFor 58 = .ok (.istore_n 3, 1) := z_dk tdX11_shortestFor_43 8 rfl
theorem dX11_shortestFor_59 : decode cX11_shortestFor 59 = .ok (.goto (-40), 3) := z_dk tdX11_shortestFor_43 9 rfl
theorem dX11_shortestFor_62 : decode cX11_shortestFor 62 = .ok (.iload_n 3, 1) := z_dk tdX11_shortestFor_43 10 rfl
theorem dX11_shortestFor_63 : decode cX11_shortestFor 63 = .ok (.ireturn, 1) := z_dk tdX11_shortestFor_43 11 rfl
theorem tdX11_pick_0 : (([(0, .iload_n 1, 1), (1, .ifCond .lt 15, 3), (4, .iload_n 1, 1), (5, .aload_n 0, 1), (6, .arraylength, 1), (7, .if_icmp .ge 9, 3), (10, .aload_n 0, 1), (11, .iload_n 1, 1), (12, .iaload, 1), (13, .goto 4, 3), (16, .iconst 0, 1), (17, .ireturn, 1)] : List (Nat × Instr × Nat)).all fun e => decide (decode cX11_pick e.1 = .ok e.2)) = true := by decide +kernel
theorem dX11_pick_0 : decode cX11_pick 0 = .ok (.iload_n 1, 1) := z_dk tdX11_pick_0 0 rfl
theorem dX11_pick_1 : decode cX11_pick 1 = .ok (.ifCond .lt 15, 3) := z_dk tdX11_pick_0 1 rfl
theorem dX11_pick_4 : decode cX11_pick 4 = .ok (.iload_n 1, 1) := z_dk tdX11_pick_0 2 rfl
theorem dX11_pick_5 : decode cX11_pick 5 = .ok (.aload_n 0, 1) := z_dk tdX11_pick_0 3 rfl
theorem dX11_pick_6 : decode cX11_pick 6 = .ok (.arraylength, 1) := z_dk tdX11_pick_0 4 rfl
theorem dX11_pick_7 : decode cX11_pick 7 = .ok (.if_icmp .ge 9, 3) := z_dk tdX11_pick_0 5 rfl
theorem dX11_pick_10 : decode cX11_pick 10 = .ok (.aload_n 0, 1) := z_dk tdX11_pick_0 6 rfl
theorem dX11_pick_11 : decode cX11_pick 11 = .ok (.iload_n 1, 1) := z_dk tdX11_pick_0 7 rfl
theorem dX11_pick_12 : decode cX11_pick 12 = .ok (.iaload, 1) := z_dk tdX11_pick_0 8 rfl
theorem dX11_pick_13 : decode cX11_pick 13 = .ok (.goto 4, 3) := z_dk tdX11_pick_0 9 rfl
theorem dX11_pick_16 : decode cX11_pick 16 = .ok (.iconst 0, 1) := z_dk tdX11_pick_0 10 rfl
theorem dX11_pick_17 : decode cX11_pick 17 = .ok (.ireturn, 1) := z_dk tdX11_pick_0 11 rfl
theorem tdX11_tapeNumber_0 : (([(0, .bipush 24, 2), (2, .istore_n 2, 1), (3, .iload_n 2, 1), (4, .ifCond .lt 37, 3), (7, .aload_n 0, 1), (8, .getfield 22, 3), (11, .aload_n 0, 1), (12, .getfield 107, 3), (15, .iload_n 1, 1), (16, .iload_n 2, 1), (17, .iushr, 1), (18, .sipush 255, 3), (21, .iand, 1), (22, .invokevirtual 103, 3), (25, .aload_n 0, 1), (26, .dup, 1), (27, .getfield 107, 3), (30, .iconst 1, 1), (31, .iadd, 1), (32, .putfield 107, 3), (35, .iinc 2 (-8), 3), (38, .goto (-35), 3), (41, .return_, 1)] : List (Nat × Instr × Nat)).all fun e => decide (decode cX11_tapeNumber e.1 = .ok e.2)) = true := by decide +kernel
theorem dX11_tapeNumber_0 : decode cX11_tapeNumber 0 = .ok (.bipush 24, 2) := z_dk tdX11_tapeNumber_0 0 rfl
theorem dX11_tapeNumber_2 : decode cX11_tapeNumber 2 = .ok (.istore_n 2, 1) := z_dk tdX11_tapeNumber_0 1 rfl
theorem dX11_tapeNumber_3 : decode cX11_tapeNumber 3 = .ok (.iload_n 2, 1) := z_dk tdX11_tapeNumber_0 2 rfl
theorem dX11_tapeNumber_4 : decode cX11_tapeNumber 4 = .ok (.ifCond .lt 37, 3) := z_dk tdX11_tapeNumber_0 3 rfl
theorem dX11_tapeNumber_7 : decode cX11_tapeNumber 7 = .ok (.aload_n 0, 1) := z_dk tdX11_tapeNumber_0 4 rfl
theorem dX11_tapeNumber_8 : decode cX11_tapeNumber 8 = .ok (.getfield 22, 3) := z_dk tdX11_tapeNumber_0 5 rfl
theorem dX11_tapeNumber_11 : decode cX11_tapeNumber 11 = .ok (.aload_n 0, 1) := z_dk tdX11_tapeNumber_0 6 rfl
theorem dX11_tapeNumber_12 : decode cX11_tapeNumber 12 = .ok (.getfield 107, 3) := z_dk tdX11_tapeNumber_0 7 rfl
theorem dX11_tapeNumber_15 : decode cX11_tapeNumber 15 = .ok (.iload_n 1, 1) := z_dk tdX11_tapeNumber_0 8 rfl
theorem dX11_tapeNumber_16 : decode cX11_tapeNumber 16 = .ok (.iload_n 2, 1) := z_dk tdX11_tapeNumber_0 9 rfl
theorem dX11_tapeNumber_17 : decode cX11_tapeNumber 17 = .ok (.iushr, 1) := z_dk tdX11_tapeNumber_0 10 rfl
theorem dX11_tapeNumber_18 : decode cX11_tapeNumber 18 = .ok (.sipush 255, 3) := z_dk tdX11_tapeNumber_0 11 rfl
theorem dX11_tapeNumber_21 : decode cX11_tapeNumber 21 = .ok (.iand, 1) := z_dk tdX11_tapeNumber_0 12 rfl
theorem dX11_tapeNumber_22 : decode cX11_tapeNumber 22 = .ok (.invokevirtual 103, 3) := z_dk tdX11_tapeNumber_0 13 rfl
theorem dX11_tapeNumber_25 : decode cX11_tapeNumber 25 = .ok (.aload_n 0, 1) := z_dk tdX11_tapeNumber_0 14 rfl
theorem dX11_tapeNumber_26 : decode cX11_tapeNumber 26 = .ok (.dup, 1) := z_dk tdX11_tapeNumber_0 15 rfl
theorem dX11_tapeNumber_27 : decode cX11_tapeNumber 27 = .ok (.getfield 107, 3) := z_dk tdX11_tapeNumber_0 16 rfl
theorem dX11_tapeNumber_30 : decode cX11_tapeNumber 30 = .ok (.iconst 1, 1) := z_dk tdX11_tapeNumber_0 17 rfl
theorem dX11_tapeNumber_31 : decode cX11_tapeNumber 31 = .ok (.iadd, 1) := z_dk tdX11_tapeNumber_0 18 rfl
theorem dX11_tapeNumber_32 : decode cX11_tapeNumber 32 = .ok (.putfield 107, 3) := z_dk tdX11_tapeNumber_0 19 rfl
theorem dX11_tapeNumber_35 : decode cX11_tapeNumber 35 = .ok (.iinc 2 (-8), 3) := z_dk tdX11_tapeNumber_0 20 rfl
theorem dX11_tapeNumber_38 : decode cX11_tapeNumber 38 = .ok (.goto (-35), 3) := z_dk tdX11_tapeNumber_0 21 rfl
theorem dX11_tapeNumber_41 : decode cX11_tapeNumber 41 = .ok (.return_, 1) := z_dk tdX11_tapeNumber_0 22 rfl
theorem tdX11_readTape_0 : (([(0, .aload_n 0, 1), (1, .getfield 40, 3), (4, .aload_n 0, 1), (5, .getfield 22, 3), (8, .iload_n 1, 1), (9, .invokevirtual 368, 3), (12, .istore_n 2, 1), (13, .aload_n 0, 1), (14, .iload_n 2, 1), (15, .ifCond .ne 7, 3), (18, .iconst (-1), 1), (19, .goto 10, 3), (22, .aload_n 0, 1), (23, .getfield 40, 3), (26, .getfield 372, 3), (29, .putfield 99, 3), (32, .aload_n 0, 1), (33, .iconst 0, 1), (34, .putfield 107, 3), (37, .iload_n 2, 1), (38, .ifCond .ne 30, 3), (41, .aload_n 0, 1), (42, .getfield 47, 3), (45, .aload_n 0, 1)] : List (Nat × Instr × Nat)).all fun e => decide (decode cX11_readTape e.1 = .ok e.2)) = true := by decide +kernel
theorem dX11_readTape_0 : decode cX11_readTape 0 = .ok (.aload_n 0, 1) := z_dk tdX11_readTape_0 0 rfl
theorem dX11_readTape_1 : decode cX11_readTape 1 = .ok (.getfield 40, 3) := z_dk tdX11_readTape_0 1 rfl
theorem dX11_readTape_4 : decode cX11_readTape 4 = .ok (.aload_n 0, 1) := z_dk tdX11_readTape_0 2 rfl
theorem dX11_readTape_5 : decode cX11_readTape 5 = .ok (.getfield 22, 3) := z_dk tdX11_readTape_0 3 rfl
theorem dX11_readTape_8 : decode cX11_readTape 8 = .ok (.iload_n 1, 1) := z_dk tdX11_readTape_0 4 rfl
theorem dX11_readTape_9 : decode cX11_readTape 9 = .ok (.invokevirtual 368, 3) := z_dk tdX11_readTape_0 5 rfl
theorem dX11_readTape_12 : decode cX11_readTape 12 = .ok (.istore_n 2, 1) := z_dk tdX11_readTape_0 6 rfl
theorem dX11_readTape_13 : decode cX11_readTape 13 = .ok (.aload_n 0, 1) := z_dk tdX11_readTape_0 7 rfl
theorem dX11_readTape_14 : decode cX11_readTape 14 = .ok (.iload_n 2, 1) := z_dk tdX11_readTape_0 8 rfl
theorem dX11_readTape_15 : decode cX11_readTape 15 = .ok (.ifCond .ne 7, 3) := z_dk tdX11_readTape_0 9 rfl
theorem dX11_readTape_18 : decode cX11_readTape 18 = .ok (.iconst (-1), 1) := z_dk tdX11_readTape_0 10 rfl
theorem dX11_readTape_19 : decode cX11_readTape 19 = .ok (.goto 10, 3) := z_dk tdX11_readTape_0 11 rfl
theorem dX11_readTape_22 : decode cX11_readTape 22 = .ok (.aload_n 0, 1) := z_dk tdX11_readTape_0 12 rfl
theorem dX11_readTape_23 : decode cX11_readTape 23 = .ok (.getfield 40, 3) := z_dk tdX11_readTape_0 13 rfl
theorem dX11_readTape_26 : decode cX11_readTape 26 = .ok (.getfield 372, 3) := z_dk tdX11_readTape_0 14 rfl
theorem dX11_readTape_29 : decode cX11_readTape 29 = .ok (.putfield 99, 3) := z_dk tdX11_readTape_0 15 rfl
theorem dX11_readTape_32 : decode cX11_readTape 32 = .ok (.aload_n 0, 1) := z_dk tdX11_readTape_0 16 rfl
theorem dX11_readTape_33 : decode cX11_readTape 33 = .ok (.iconst 0, 1) := z_dk tdX11_readTape_0 17 rfl
theorem dX11_readTape_34 : decode cX11_readTape 34 = .ok (.putfield 107, 3) := z_dk tdX11_readTape_0 18 rfl
theorem dX11_readTape_37 : decode cX11_readTape 37 = .ok (.iload_n 2, 1) := z_dk tdX11_readTape_0 19 rfl
theorem dX11_readTape_38 : decode cX11_readTape 38 = .ok (.ifCond .ne 30, 3) := z_dk tdX11_readTape_0 20 rfl
theorem dX11_readTape_41 : decode cX11_readTape 41 = .ok (.aload_n 0, 1) := z_dk tdX11_readTape_0 21 rfl
theorem dX11_readTape_42 : decode cX11_readTape 42 = .ok (.getfield 47, 3) := z_dk tdX11_readTape_0 22 rfl
theorem dX11_readTape_45 : decode cX11_readTape 45 = .ok (.aload_n 0, 1) := z_dk tdX11_readTape_0 23 rfl
theorem tdX11_readTape_46 : (([(46, .getfield 28, 3), (49, .invokevirtual 156, 3), (52, .aload_n 0, 1), (53, .getfield 28, 3), (56, .aload_n 0, 1), (57, .getfield 32, 3), (60, .invokevirtual 130, 3), (63, .aload_n 0, 1), (64, .iconst 0, 1), (65, .putfield 150, 3), (68, .iload_n 2, 1), (69, .ireturn, 1)] : List (Nat × Instr × Nat)).all fun e => decide (decode cX11_readTape e.1 = .ok e.2)) = true := by decide +kernel
theorem dX11_readTape_46 : decode cX11_readTape 46 = .ok (.getfield 28, 3) := z_dk tdX11_readTape_46 0 rfl
theorem dX11_readTape_49 : decode cX11_readTape 49 = .ok (.invokevirtual 156, 3) := z_dk tdX11_readTape_46 1 rfl
theorem dX11_readTape_52 : decode cX11_readTape 52 = .ok (.aload_n 0, 1) := z_dk tdX11_readTape_46 2 rfl
theorem dX11_readTape_53 : decode cX11_readTape 53 = .ok (.getfield 28, 3) := z_dk tdX11_readTape_46 3 rfl
theorem dX11_readTape_56 : decode cX11_readTape 56 = .ok (.aload_n 0, 1) := z_dk tdX11_readTape_46 4 rfl
theorem dX11_readTape_57 : decode cX11_readTape 57 = .ok (.getfield 32, 3) := z_dk tdX11_readTape_46 5 rfl
theorem dX11_readTape_60 : decode cX11_readTape 60 = .ok (.invokevirtual 130, 3) := z_dk tdX11_readTape_46 6 rfl
theorem dX11_readTape_63 : decode cX11_readTape 63 = .ok (.aload_n 0, 1) := z_dk tdX11_readTape_46 7 rfl
theorem dX11_readTape_64 : decode cX11_readTape 64 = .ok (.iconst 0, 1) := z_dk tdX11_readTape_46 8 rfl
theorem dX11_readTape_65 : decode cX11_readTape 65 = .ok (.putfield 150, 3) := z_dk tdX11_readTape_46 9 rfl
theorem dX11_readTape_68 : decode cX11_readTape 68 = .ok (.iload_n 2, 1) := z_dk tdX11_readTape_46 10 rfl
theorem dX11_readTape_69 : decode cX11_readTape 69 = .ok (.ireturn, 1) := z_dk tdX11_readTape_46 11 rfl
theorem tdX11_refresh_0 : (([(0, .aload_n 0, 1), (1, .getfield 150, 3), (4, .ifCond .ne 27, 3), (7, .aload_n 0, 1), (8, .getfield 56, 3), (11, .invokevirtual 305, 3), (14, .aload_n 0, 1), (15, .getfield 65, 3), (18, .invokevirtual 308, 3), (21, .aload_n 0, 1), (22, .iconst 1, 1), (23, .putfield 150, 3), (26, .aload_n 0, 1), (27, .iconst 0, 1), (28, .putfield 146, 3), (31, .aload_n 0, 1), (32, .getfield 146, 3), (35, .ifCond .ne 43, 3), (38, .aload_n 0, 1), (39, .getfield 74, 3), (42, .aload_n 0, 1), (43, .getfield 18, 3), (46, .iconst 0, 1), (47, .invokevirtual 143, 3)] : List (Nat × Instr × Nat)).all fun e => decide (decode cX11_refresh e.1 = .ok e.2)) = true := by decide +kernel
theorem dX11_refresh_0 : decode cX11_refresh 0 = .ok (.aload_n 0, 1) := z_dk tdX11_refresh_0 0 rfl
theorem dX11_refresh_1 : decode cX11_refresh 1 = .ok (.getfield 150, 3) := z_dk tdX11_refresh_0 1 rfl
theorem dX11_refresh_4 : decode cX11_refresh 4 = .ok (.ifCond .ne 27, 3) := z_dk tdX11_refresh_0 2 rfl
theorem dX11_refresh_7 : decode cX11_refresh 7 = .ok (.aload_n 0, 1) := z_dk tdX11_refresh_0 3 rfl
theorem dX11_refresh_8 : decode cX11_refresh 8 = .ok (.getfield 56, 3) := z_dk tdX11_refresh_0 4 rfl
theorem dX11_refresh_11 : decode cX11_refresh 11 = .ok (.invokevirtual 305, 3) := z_dk tdX11_refresh_0 5 rfl
theorem dX11_refresh_14 : decode cX11_refresh 14 = .ok (.aload_n 0, 1) := z_dk tdX11_refresh_0 6 rfl
theorem dX11_refresh_15 : decode cX11_refresh 15 = .ok (.getfield 65, 3) := z_dk tdX11_refresh_0 7 rfl
theorem dX11_refresh_18 : decode cX11_refresh 18 = .ok (.invokevirtual 308, 3) := z_dk tdX11_refresh_0 8 rfl
theorem dX11_refresh_21 : decode cX11_refresh 21 = .ok (.aload_n 0, 1) := z_dk tdX11_refresh_0 9 rfl
theorem dX11_refresh_22 : decode cX11_refresh 22 = .ok (.iconst 1, 1) := z_dk tdX11_refresh_0 10 rfl
theorem dX11_refresh_23 : decode cX11_refresh 23 = .ok (.putfield 150, 3) := z_dk tdX11_refresh_0 11 rfl
theorem dX11_refresh_26 : decode cX11_refresh 26 = .ok (.aload_n 0, 1) := z_dk tdX11_refresh_0 12 rfl
theorem dX11_refresh_27 : decode cX11_refresh 27 = .ok (.iconst 0, 1) := z_dk tdX11_refresh_0 13 rfl
theorem dX11_refresh_28 : decode cX11_refresh 28 = .ok (.putfield 146, 3) := z_dk tdX11_refresh_0 14 rfl
theorem dX11_refresh_31 : decode cX11_refresh 31 = .ok (.aload_n 0, 1) := z_dk tdX11_refresh_0 15 rfl
theorem dX11_refresh_32 : decode cX11_refresh 32 = .ok (.getfield 146, 3) := z_dk tdX11_refresh_0 16 rfl
theorem dX11_refresh_35 : decode cX11_refresh 35 = .ok (.ifCond .ne 43, 3) := z_dk tdX11_refresh_0 17 rfl
theorem dX11_refresh_38 : decode cX11_refresh 38 = .ok (.aload_n 0, 1) := z_dk tdX11_refresh_0 18 rfl
theorem dX11_refresh_39 : decode cX11_refresh 39 = .ok (.getfield 74, 3) := z_dk tdX11_refresh_0 19 rfl
theorem dX11_refresh_42 : decode cX11_refresh 42 = .ok (.aload_n 0, 1) := z_dk tdX11_refresh_0 20 rfl
theorem dX11_refresh_43 : decode cX11_refresh 43 = .ok (.getfield 18, 3) := z_dk tdX11_refresh_0 21 rfl
theorem dX11_refresh_46 : decode cX11_refresh 46 = .ok (.iconst 0, 1) := z_dk tdX11_refresh_0 22 rfl
theorem dX11_refresh_47 : decode cX11_refresh 47 = .ok (.invokevirtual 143, 3) := z_dk tdX11_refresh_0 23 rfl
theorem tdX11_refresh_50 : (([(50, .aload_n 0, 1), (51, .getfield 18, 3), (54, .iconst 3, 1), (55, .invokevirtual 143, 3), (58, .invokevirtual 296, 3), (61, .aload_n 0, 1), (62, .getfield 86, 3), (65, .invokevirtual 375, 3), (68, .aload_n 0, 1), (69, .iconst 1, 1), (70, .putfield 146, 3), (73, .aload_n 0, 1), (74, .iconst 0, 1), (75, .putfield 376, 3), (78, .return_, 1)] : List (Nat × Instr × Nat)).all fun e => decide (decode cX11_refresh e.1 = .ok e.2)) = true := by decide +kernel
theorem dX11_refresh_50 : decode cX11_refresh 50 = .ok (.aload_n 0, 1) := z_dk tdX11_refresh_50 0 rfl
theorem dX11_refresh_51 : decode cX11_refresh 51 = .ok (.getfield 18, 3) := z_dk tdX11_refresh_50 1 rfl
theorem dX11_refresh_54 : decode cX11_refresh 54 = .ok (.iconst 3, 1) := z_dk tdX11_refresh_50 2 rfl
theorem dX11_refresh_55 : decode cX11_refresh 55 = .ok (.invokevirtual 143, 3) := z_dk tdX11_refresh_50 3 rfl
theorem dX11_refresh_58 : decode cX11_refresh 58 = .ok (.invokevirtual 296, 3) := z_dk tdX11_refresh_50 4 rfl
theorem dX11_refresh_61 : decode cX11_refresh 61 = .ok (.aload_n 0, 1) := z_dk tdX11_refresh_50 5 rfl
theorem dX11_refresh_62 : decode cX11_refresh 62 = .ok (.getfield 86, 3) := z_dk tdX11_refresh_50 6 rfl
theorem dX11_refresh_65 : decode cX11_refresh 65 = .ok (.invokevirtual 375, 3) := z_dk tdX11_refresh_50 7 rfl
theorem dX11_refresh_68 : decode cX11_refresh 68 = .ok (.aload_n 0, 1) := z_dk tdX11_refresh_50 8 rfl
theorem dX11_refresh_69 : decode cX11_refresh 69 = .ok (.iconst 1, 1) := z_dk tdX11_refresh_50 9 rfl
theorem dX11_refresh_70 : decode cX11_refresh 70 = .ok (.putfield 146, 3) := z_dk tdX11_refresh_50 10 rfl
theorem dX11_refresh_73 : decode cX11_refresh 73 = .ok (.aload_n 0, 1) := z_dk tdX11_refresh_50 11 rfl
theorem dX11_refresh_74 : decode cX11_refresh 74 = .ok (.iconst 0, 1) := z_dk tdX11_refresh_50 12 rfl
theorem dX11_refresh_75 : decode cX11_refresh 75 = .ok (.putfield 376, 3) := z_dk tdX11_refresh_50 13 rfl
theorem dX11_refresh_78 : decode cX11_refresh 78 = .ok (.return_, 1) := z_dk tdX11_refresh_50 14 rfl
theorem tdX11_refreshSides_0 : (([(0, .aload_n 0, 1), (1, .getfield 376, 3), (4, .ifCond .ne 15, 3), (7, .aload_n 0, 1), (8, .getfield 95, 3), (11, .invokevirtual 379, 3), (14, .aload_n 0, 1), (15, .iconst 1, 1), (16, .putfield 376, 3), (19, .return_, 1)] : List (Nat × Instr × Nat)).all fun e => decide (decode cX11_refreshSides e.1 = .ok e.2)) = true := by decide +kernel
theorem dX11_refreshSides_0 : decode cX11_refreshSides 0 = .ok (.aload_n 0, 1) := z_dk tdX11_refreshSides_0 0 rfl
theorem dX11_refreshSides_1 : decode cX11_refreshSides 1 = .ok (.getfield 376, 3) := z_dk tdX11_refreshSides_0 1 rfl
theorem dX11_refreshSides_4 : decode cX11_refreshSides 4 = .ok (.ifCond .ne 15, 3) := z_dk tdX11_refreshSides_0 2 rfl
theorem dX11_refreshSides_7 : decode cX11_refreshSides 7 = .ok (.aload_n 0, 1) := z_dk tdX11_refreshSides_0 3 rfl
theorem dX11_refreshSides_8 : decode cX11_refreshSides 8 = .ok (.getfield 95, 3) := z_dk tdX11_refreshSides_0 4 rfl
theorem dX11_refreshSides_11 : decode cX11_refreshSides 11 = .ok (.invokevirtual 379, 3) := z_dk tdX11_refreshSides_0 5 rfl
theorem dX11_refreshSides_14 : decode cX11_refreshSides 14 = .ok (.aload_n 0, 1) := z_dk tdX11_refreshSides_0 6 rfl
theorem dX11_refreshSides_15 : decode cX11_refreshSides 15 = .ok (.iconst 1, 1) := z_dk tdX11_refreshSides_0 7 rfl
theorem dX11_refreshSides_16 : decode cX11_refreshSides 16 = .ok (.putfield 376, 3) := z_dk tdX11_refreshSides_0 8 rfl
theorem dX11_refreshSides_19 : decode cX11_refreshSides 19 = .ok (.return_, 1) := z_dk tdX11_refreshSides_0 9 rfl
theorem tdX12_init_0 : (([(0, .aload_n 0, 1), (1, .invokespecial 1, 3), (4, .aload_n 0, 1), (5, .iconst 2, 1), (6, .newarray .int, 2), (8, .putfield 7, 3), (11, .aload_n 0, 1), (12, .iconst (-1), 1), (13, .putfield 13, 3), (16, .aload_n 0, 1), (17, .sipush 300, 3), (20, .newarray .int, 2), (22, .putfield 17, 3), (25, .aload_n 0, 1), (26, .bipush 9, 2), (28, .newarray .int, 2), (30, .dup, 1), (31, .iconst 0, 1), (32, .bipush 120, 2), (34, .iastore, 1), (35, .dup, 1), (36, .iconst 1, 1), (37, .iconst 2, 1), (38, .iastore, 1)] : List (Nat × Instr × Nat)).all fun e => decide (decode cX12_init e.1 = .ok e.2)) = true := by decide +kernel
theorem dX12_init_0 : decode cX12_init 0 = .ok (.aload_n 0, 1) := z_dk tdX12_init_0 0 rfl
theorem dX12_init_1 : decode cX12_init 1 = .ok (.invokespecial 1, 3) := z_dk tdX12_init_0 1 rfl
theorem dX12_init_4 : decode cX12_init 4 = .ok (.aload_n 0, 1) := z_dk tdX12_init_0 2 rfl
theorem dX12_init_5 : decode cX12_init 5 = .ok (.iconst 2, 1) := z_dk tdX12_init_0 3 rfl
theorem dX12_init_6 : decode cX12_init 6 = .ok (.newarray .int, 2) := z_dk tdX12_init_0 4 rfl
theorem dX12_init_8 : decode cX12_init 8 = .ok (.putfield 7, 3) := z_dk tdX12_init_0 5 rfl
theorem dX12_init_11 : decode cX12_init 11 = .ok (.aload_n 0, 1) := z_dk tdX12_init_0 6 rfl
theorem dX12_init_12 : decode cX12_init 12 = .ok (.iconst (-1), 1) := z_dk tdX12_init_0 7 rfl
theorem dX12_init_13 : decode cX12_init 13 = .ok (.putfield 13, 3) := z_dk tdX12_init_0 8 rfl
theorem dX12_init_16 : decode cX12_init 16 = .ok (.aload_n 0, 1) := z_dk tdX12_init_0 9 rfl
theorem dX12_init_17 : decode cX12_init 17 = .ok (.sipush 300, 3) := z_dk tdX12_init_0 10 rfl
theorem dX12_init_20 : decode cX12_init 20 = .ok (.newarray .int, 2) := z_dk tdX12_init_0 11 rfl
theorem dX12_init_22 : decode cX12_init 22 = .ok (.putfield 17, 3) := z_dk tdX12_init_0 12 rfl
theorem dX12_init_25 : decode cX12_init 25 = .ok (.aload_n 0, 1) := z_dk tdX12_init_0 13 rfl
theorem dX12_init_26 : decode cX12_init 26 = .ok (.bipush 9, 2) := z_dk tdX12_init_0 14 rfl
theorem dX12_init_28 : decode cX12_init 28 = .ok (.newarray .int, 2) := z_dk tdX12_init_0 15 rfl
theorem dX12_init_30 : decode cX12_init 30 = .ok (.dup, 1) := z_dk tdX12_init_0 16 rfl
theorem dX12_init_31 : decode cX12_init 31 = .ok (.iconst 0, 1) := z_dk tdX12_init_0 17 rfl
theorem dX12_init_32 : decode cX12_init 32 = .ok (.bipush 120, 2) := z_dk tdX12_init_0 18 rfl
theorem dX12_init_34 : decode cX12_init 34 = .ok (.iastore, 1) := z_dk tdX12_init_0 19 rfl
theorem dX12_init_35 : decode cX12_init 35 = .ok (.dup, 1) := z_dk tdX12_init_0 20 rfl
theorem dX12_init_36 : decode cX12_init 36 = .ok (.iconst 1, 1) := z_dk tdX12_init_0 21 rfl
theorem dX12_init_37 : decode cX12_init 37 = .ok (.iconst 2, 1) := z_dk tdX12_init_0 22 rfl
theorem dX12_init_38 : decode cX12_init 38 = .ok (.iastore, 1) := z_dk tdX12_init_0 23 rfl
theorem tdX12_init_39 : (([(39, .dup, 1), (40, .iconst 2, 1), (41, .iconst 3, 1), (42, .iastore, 1), (43, .dup, 1), (44, .iconst 3, 1), (45, .iconst 0, 1), (46, .iastore, 1), (47, .dup, 1), (48, .iconst 4, 1), (49, .iconst 0, 1), (50, .iastore, 1), (51, .dup, 1), (52, .iconst 5, 1), (53, .iconst 1, 1), (54, .iastore, 1), (55, .dup, 1), (56, .bipush 6, 2), (58, .iconst 0, 1), (59, .iastore, 1), (60, .dup, 1), (61, .bipush 7, 2), (63, .iconst 0, 1), (64, .iastore, 1)] : List (Nat × Instr × Nat)).all fun e => decide (decode cX12_init e.1 = .ok e.2)) = true := by decide +kernel
theorem dX12_init_39 : decode cX12_init 39 = .ok (.dup, 1) := z_dk tdX12_init_39 0 rfl
theorem dX12_init_40 : decode cX12_init 40 = .ok (.iconst 2, 1) := z_dk tdX12_init_39 1 rfl
theorem dX12_init_41 : decode cX12_init 41 = .ok (.iconst 3, 1) := z_dk tdX12_init_39 2 rfl
theorem dX12_init_42 : decode cX12_init 42 = .ok (.iastore, 1) := z_dk tdX12_init_39 3 rfl
theorem dX12_init_43 : decode cX12_init 43 = .ok (.dup, 1) := z_dk tdX12_init_39 4 rfl
theorem dX12_init_44 : decode cX12_init 44 = .ok (.iconst 3, 1) := z_dk tdX12_init_39 5 rfl
theorem dX12_init_45 : decode cX12_init 45 = .ok (.iconst 0, 1) := z_dk tdX12_init_39 6 rfl
theorem dX12_init_46 : decode cX12_init 46 = .ok (.iastore, 1) := z_dk tdX12_init_39 7 rfl
theorem dX12_init_47 : decode cX12_init 47 = .ok (.dup, 1) := z_dk tdX12_init_39 8 rfl
theorem dX12_init_48 : decode cX12_init 48 = .ok (.iconst 4, 1) := z_dk tdX12_init_39 9 rfl
theorem dX12_init_49 : decode cX12_init 49 = .ok (.iconst 0, 1) := z_dk tdX12_init_39 10 rfl
theorem dX12_init_50 : decode cX12_init 50 = .ok (.iastore, 1) := z_dk tdX12_init_39 11 rfl
theorem dX12_init_51 : decode cX12_init 51 = .ok (.dup, 1) := z_dk tdX12_init_39 12 rfl
theorem dX12_init_52 : decode cX12_init 52 = .ok (.iconst 5, 1) := z_dk tdX12_init_39 13 rfl
theorem dX12_init_53 : decode cX12_init 53 = .ok (.iconst 1, 1) := z_dk tdX12_init_39 14 rfl
theorem dX12_init_54 : decode cX12_init 54 = .ok (.iastore, 1) := z_dk tdX12_init_39 15 rfl
theorem dX12_init_55 : decode cX12_init 55 = .ok (.dup, 1) := z_dk tdX12_init_39 16 rfl
theorem dX12_init_56 : decode cX12_init 56 = .ok (.bipush 6, 2) := z_dk tdX12_init_39 17 rfl
theorem dX12_init_58 : decode cX12_init 58 = .ok (.iconst 0, 1) := z_dk tdX12_init_39 18 rfl
theorem dX12_init_59 : decode cX12_init 59 = .ok (.iastore, 1) := z_dk tdX12_init_39 19 rfl
theorem dX12_init_60 : decode cX12_init 60 = .ok (.dup, 1) := z_dk tdX12_init_39 20 rfl
theorem dX12_init_61 : decode cX12_init 61 = .ok (.bipush 7, 2) := z_dk tdX12_init_39 21 rfl
theorem dX12_init_63 : decode cX12_init 63 = .ok (.iconst 0, 1) := z_dk tdX12_init_39 22 rfl
theorem dX12_init_64 : decode cX12_init 64 = .ok (.iastore, 1) := z_dk tdX12_init_39 23 rfl
theorem tdX12_init_65 : (([(65, .dup, 1), (66, .bipush 8, 2), (68, .iconst 4, 1), (69, .iastore, 1), (70, .putfield 20, 3), (73, .aload_n 0, 1), (74, .bipush 9, 2), (76, .newarray .int, 2), (78, .dup, 1), (79, .iconst 0, 1), (80, .bipush 12, 2), (82, .iastore, 1), (83, .dup, 1), (84, .iconst 1, 1), (85, .iconst 0, 1), (86, .iastore, 1), (87, .dup, 1), (88, .iconst 2, 1), (89, .iconst 0, 1), (90, .iastore, 1), (91, .dup, 1), (92, .iconst 3, 1), (93, .iconst 0, 1), (94, .iastore, 1)] : List (Nat × Instr × Nat)).all fun e => decide (decode cX12_init e.1 = .ok e.2)) = true := by decide +kernel
theorem dX12_init_65 : decode cX12_init 65 = .ok (.dup, 1) := z_dk tdX12_init_65 0 rfl
theorem dX12_init_66 : decode cX12_init 66 = .ok (.bipush 8, 2) := z_dk tdX12_init_65 1 rfl
theorem dX12_init_68 : decode cX12_init 68 = .ok (.iconst 4, 1) := z_dk tdX12_init_65 2 rfl
theorem dX12_init_69 : decode cX12_init 69 = .ok (.iastore, 1) := z_dk tdX12_init_65 3 rfl
theorem dX12_init_70 : decode cX12_init 70 = .ok (.putfield 20, 3) := z_dk tdX12_init_65 4 rfl
theorem dX12_init_73 : decode cX12_init 73 = .ok (.aload_n 0, 1) := z_dk tdX12_init_65 5 rfl
theorem dX12_init_74 : decode cX12_init 74 = .ok (.bipush 9, 2) := z_dk tdX12_init_65 6 rfl
theorem dX12_init_76 : decode cX12_init 76 = .ok (.newarray .int, 2) := z_dk tdX12_init_65 7 rfl
theorem dX12_init_78 : decode cX12_init 78 = .ok (.dup, 1) := z_dk tdX12_init_65 8 rfl
theorem dX12_init_79 : decode cX12_init 79 = .ok (.iconst 0, 1) := z_dk tdX12_init_65 9 rfl
theorem dX12_init_80 : decode cX12_init 80 = .ok (.bipush 12, 2) := z_dk tdX12_init_65 10 rfl
theorem dX12_init_82 : decode cX12_init 82 = .ok (.iastore, 1) := z_dk tdX12_init_65 11 rfl
theorem dX12_init_83 : decode cX12_init 83 = .ok (.dup, 1) := z_dk tdX12_init_65 12 rfl
theorem dX12_init_84 : decode cX12_init 84 = .ok (.iconst 1, 1) := z_dk tdX12_init_65 13 rfl
theorem dX12_init_85 : decode cX12_init 85 = .ok (.iconst 0, 1) := z_dk tdX12_init_65 14 rfl
theorem dX12_init_86 : decode cX12_init 86 = .ok (.iastore, 1) := z_dk tdX12_init_65 15 rfl
theorem dX12_init_87 : decode cX12_init 87 = .ok (.dup, 1) := z_dk tdX12_init_65 16 rfl
theorem dX12_init_88 : decode cX12_init 88 = .ok (.iconst 2, 1) := z_dk tdX12_init_65 17 rfl
theorem dX12_init_89 : decode cX12_init 89 = .ok (.iconst 0, 1) := z_dk tdX12_init_65 18 rfl
theorem dX12_init_90 : decode cX12_init 90 = .ok (.iastore, 1) := z_dk tdX12_init_65 19 rfl
theorem dX12_init_91 : decode cX12_init 91 = .ok (.dup, 1) := z_dk tdX12_init_65 20 rfl
theorem dX12_init_92 : decode cX12_init 92 = .ok (.iconst 3, 1) := z_dk tdX12_init_65 21 rfl
theorem dX12_init_93 : decode cX12_init 93 = .ok (.iconst 0, 1) := z_dk tdX12_init_65 22 rfl
theorem dX12_init_94 : decode cX12_init 94 = .ok (.iastore, 1) := z_dk tdX12_init_65 23 rfl
theorem tdX12_init_95 : (([(95, .dup, 1), (96, .iconst 4, 1), (97, .iconst 0, 1), (98, .iastore, 1), (99, .dup, 1), (100, .iconst 5, 1), (101, .iconst 0, 1), (102, .iastore, 1), (103, .dup, 1), (104, .bipush 6, 2), (106, .iconst 0, 1), (107, .iastore, 1), (108, .dup, 1), (109, .bipush 7, 2), (111, .iconst 0, 1), (112, .iastore, 1), (113, .dup, 1), (114, .bipush 8, 2), (116, .iconst 0, 1), (117, .iastore, 1), (118, .putfield 23, 3), (121, .aload_n 0, 1), (122, .bipush 9, 2), (124, .newarray .int, 2)] : List (Nat × Instr × Nat)).all fun e => decide (decode cX12_init e.1 = .ok e.2)) = true := by decide +kernel
theorem dX12_init_95 : decode cX12_init 95 = .ok (.dup, 1) := z_dk tdX12_init_95 0 rfl
theorem dX12_init_96 : decode cX12_init 96 = .ok (.iconst 4, 1) := z_dk tdX12_init_95 1 rfl
theorem dX12_init_97 : decode cX12_init 97 = .ok (.iconst 0, 1) := z_dk tdX12_init_95 2 rfl
theorem dX12_init_98 : decode cX12_init 98 = .ok (.iastore, 1) := z_dk tdX12_init_95 3 rfl
theorem dX12_init_99 : decode cX12_init 99 = .ok (.dup, 1) := z_dk tdX12_init_95 4 rfl
theorem dX12_init_100 : decode cX12_init 100 = .ok (.iconst 5, 1) := z_dk tdX12_init_95 5 rfl
theorem dX12_init_101 : decode cX12_init 101 = .ok (.iconst 0, 1) := z_dk tdX12_init_95 6 rfl
theorem dX12_init_102 : decode cX12_init 102 = .ok (.iastore, 1) := z_dk tdX12_init_95 7 rfl
theorem dX12_init_103 : decode cX12_init 103 = .ok (.dup, 1) := z_dk tdX12_init_95 8 rfl
theorem dX12_init_104 : decode cX12_init 104 = .ok (.bipush 6, 2) := z_dk tdX12_init_95 9 rfl
theorem dX12_init_106 : decode cX12_init 106 = .ok (.iconst 0, 1) := z_dk tdX12_init_95 10 rfl
theorem dX12_init_107 : decode cX12_init 107 = .ok (.iastore, 1) := z_dk tdX12_init_95 11 rfl
theorem dX12_init_108 : decode cX12_init 108 = .ok (.dup, 1) := z_dk tdX12_init_95 12 rfl
theorem dX12_init_109 : decode cX12_init 109 = .ok (.bipush 7, 2) := z_dk tdX12_init_95 13 rfl
theorem dX12_init_111 : decode cX12_init 111 = .ok (.iconst 0, 1) := z_dk tdX12_init_95 14 rfl
theorem dX12_init_112 : decode cX12_init 112 = .ok (.iastore, 1) := z_dk tdX12_init_95 15 rfl
theorem dX12_init_113 : decode cX12_init 113 = .ok (.dup, 1) := z_dk tdX12_init_95 16 rfl
theorem dX12_init_114 : decode cX12_init 114 = .ok (.bipush 8, 2) := z_dk tdX12_init_95 17 rfl
theorem dX12_init_116 : decode cX12_init 116 = .ok (.iconst 0, 1) := z_dk tdX12_init_95 18 rfl
theorem dX12_init_117 : decode cX12_init 117 = .ok (.iastore, 1) := z_dk tdX12_init_95 19 rfl
theorem dX12_init_118 : decode cX12_init 118 = .ok (.putfield 23, 3) := z_dk tdX12_init_95 20 rfl
theorem dX12_init_121 : decode cX12_init 121 = .ok (.aload_n 0, 1) := z_dk tdX12_init_95 21 rfl
theorem dX12_init_122 : decode cX12_init 122 = .ok (.bipush 9, 2) := z_dk tdX12_init_95 22 rfl
theorem dX12_init_124 : decode cX12_init 124 = .ok (.newarray .int, 2) := z_dk tdX12_init_95 23 rfl
theorem tdX12_init_126 : (([(126, .dup, 1), (127, .iconst 0, 1), (128, .sipush 999, 3), (131, .iastore, 1), (132, .dup, 1), (133, .iconst 1, 1), (134, .iconst 4, 1), (135, .iastore, 1), (136, .dup, 1), (137, .iconst 2, 1), (138, .bipush 6, 2), (140, .iastore, 1), (141, .dup, 1), (142, .iconst 3, 1), (143, .iconst 1, 1), (144, .iastore, 1), (145, .dup, 1), (146, .iconst 4, 1), (147, .iconst 1, 1), (148, .iastore, 1), (149, .dup, 1), (150, .iconst 5, 1), (151, .iconst 1, 1), (152, .iastore, 1)] : List (Nat × Instr × Nat)).all fun e => decide (decode cX12_init e.1 = .ok e.2)) = true := by decide +kernel
theorem dX12_init_126 : decode cX12_init 126 = .ok (.dup, 1) := z_dk tdX12_init_126 0 rfl
theorem dX12_init_127 : decode cX12_init 127 = .ok (.iconst 0, 1) := z_dk tdX12_init_126 1 rfl
theorem dX12_init_128 : decode cX12_init 128 = .ok (.sipush 999, 3) := z_dk tdX12_init_126 2 rfl
theorem dX12_init_131 : decode cX12_init 131 = .ok (.iastore, 1) := z_dk tdX12_init_126 3 rfl
theorem dX12_init_132 : decode cX12_init 132 = .ok (.dup, 1) := z_dk tdX12_init_126 4 rfl
theorem dX12_init_133 : decode cX12_init 133 = .ok (.iconst 1, 1) := z_dk tdX12_init_126 5 rfl
theorem dX12_init_134 : decode cX12_init 134 = .ok (.iconst 4, 1) := z_dk tdX12_init_126 6 rfl
theorem dX12_init_135 : decode cX12_init 135 = .ok (.iastore, 1) := z_dk tdX12_init_126 7 rfl
theorem dX12_init_136 : decode cX12_init 136 = .ok (.dup, 1) := z_dk tdX12_init_126 8 rfl
theorem dX12_init_137 : decode cX12_init 137 = .ok (.iconst 2, 1) := z_dk tdX12_init_126 9 rfl
theorem dX12_init_138 : decode cX12_init 138 = .ok (.bipush 6, 2) := z_dk tdX12_init_126 10 rfl
theorem dX12_init_140 : decode cX12_init 140 = .ok (.iastore, 1) := z_dk tdX12_init_126 11 rfl
theorem dX12_init_141 : decode cX12_init 141 = .ok (.dup, 1) := z_dk tdX12_init_126 12 rfl
theorem dX12_init_142 : decode cX12_init 142 = .ok (.iconst 3, 1) := z_dk tdX12_init_126 13 rfl
theorem dX12_init_143 : decode cX12_init 143 = .ok (.iconst 1, 1) := z_dk tdX12_init_126 14 rfl
theorem dX12_init_144 : decode cX12_init 144 = .ok (.iastore, 1) := z_dk tdX12_init_126 15 rfl
theorem dX12_init_145 : decode cX12_init 145 = .ok (.dup, 1) := z_dk tdX12_init_126 16 rfl
theorem dX12_init_146 : decode cX12_init 146 = .ok (.iconst 4, 1) := z_dk tdX12_init_126 17 rfl
theorem dX12_init_147 : decode cX12_init 147 = .ok (.iconst 1, 1) := z_dk tdX12_init_126 18 rfl
theorem dX12_init_148 : decode cX12_init 148 = .ok (.iastore, 1) := z_dk tdX12_init_126 19 rfl
theorem dX12_init_149 : decode cX12_init 149 = .ok (.dup, 1) := z_dk tdX12_init_126 20 rfl
theorem dX12_init_150 : decode cX12_init 150 = .ok (.iconst 5, 1) := z_dk tdX12_init_126 21 rfl
theorem dX12_init_151 : decode cX12_init 151 = .ok (.iconst 1, 1) := z_dk tdX12_init_126 22 rfl
theorem dX12_init_152 : decode cX12_init 152 = .ok (.iastore, 1) := z_dk tdX12_init_126 23 rfl
theorem tdX12_init_153 : (([(153, .dup, 1), (154, .bipush 6, 2), (156, .iconst 1, 1), (157, .iastore, 1), (158, .dup, 1), (159, .bipush 7, 2), (161, .bipush 99, 2), (163, .iastore, 1), (164, .dup, 1), (165, .bipush 8, 2), (167, .bipush 12, 2), (169, .iastore, 1), (170, .putfield 26, 3), (173, .aload_n 0, 1), (174, .bipush 14, 2), (176, .iconst 3, 1), (177, .multianewarray 29 2, 4), (181, .putfield 31, 3), (184, .aload_n 0, 1), (185, .bipush 14, 2), (187, .sipush 200, 3), (190, .multianewarray 29 2, 4), (194, .putfield 34, 3), (197, .aload_n 0, 1)] : List (Nat × Instr × Nat)).all fun e => decide (decode cX12_init e.1 = .ok e.2)) = true := by decide +kernel
theorem dX12_init_153 : decode cX12_init 153 = .ok (.dup, 1) := z_dk tdX12_init_153 0 rfl
theorem dX12_init_154 : decode cX12_init 154 = .ok (.bipush 6, 2) := z_dk tdX12_init_153 1 rfl
theorem dX12_init_156 : decode cX12_init 156 = .ok (.iconst 1, 1) := z_dk tdX12_init_153 2 rfl
theorem dX12_init_157 : decode cX12_init 157 = .ok (.iastore, 1) := z_dk tdX12_init_153 3 rfl
theorem dX12_init_158 : decode cX12_init 158 = .ok (.dup, 1) := z_dk tdX12_init_153 4 rfl
theorem dX12_init_159 : decode cX12_init 159 = .ok (.bipush 7, 2) := z_dk tdX12_init_153 5 rfl
theorem dX12_init_161 : decode cX12_init 161 = .ok (.bipush 99, 2) := z_dk tdX12_init_153 6 rfl
theorem dX12_init_163 : decode cX12_init 163 = .ok (.iastore, 1) := z_dk tdX12_init_153 7 rfl
theorem dX12_init_164 : decode cX12_init 164 = .ok (.dup, 1) := z_dk tdX12_init_153 8 rfl
theorem dX12_init_165 : decode cX12_init 165 = .ok (.bipush 8, 2) := z_dk tdX12_init_153 9 rfl
theorem dX12_init_167 : decode cX12_init 167 = .ok (.bipush 12, 2) := z_dk tdX12_init_153 10 rfl
theorem dX12_init_169 : decode cX12_init 169 = .ok (.iastore, 1) := z_dk tdX12_init_153 11 rfl
theorem dX12_init_170 : decode cX12_init 170 = .ok (.putfield 26, 3) := z_dk tdX12_init_153 12 rfl
theorem dX12_init_173 : decode cX12_init 173 = .ok (.aload_n 0, 1) := z_dk tdX12_init_153 13 rfl
theorem dX12_init_174 : decode cX12_init 174 = .ok (.bipush 14, 2) := z_dk tdX12_init_153 14 rfl
theorem dX12_init_176 : decode cX12_init 176 = .ok (.iconst 3, 1) := z_dk tdX12_init_153 15 rfl
theorem dX12_init_177 : decode cX12_init 177 = .ok (.multianewarray 29 2, 4) := z_dk tdX12_init_153 16 rfl
theorem dX12_init_181 : decode cX12_init 181 = .ok (.putfield 31, 3) := z_dk tdX12_init_153 17 rfl
theorem dX12_init_184 : decode cX12_init 184 = .ok (.aload_n 0, 1) := z_dk tdX12_init_153 18 rfl
theorem dX12_init_185 : decode cX12_init 185 = .ok (.bipush 14, 2) := z_dk tdX12_init_153 19 rfl
theorem dX12_init_187 : decode cX12_init 187 = .ok (.sipush 200, 3) := z_dk tdX12_init_153 20 rfl
theorem dX12_init_190 : decode cX12_init 190 = .ok (.multianewarray 29 2, 4) := z_dk tdX12_init_153 21 rfl
theorem dX12_init_194 : decode cX12_init 194 = .ok (.putfield 34, 3) := z_dk tdX12_init_153 22 rfl
theorem dX12_init_197 : decode cX12_init 197 = .ok (.aload_n 0, 1) := z_dk tdX12_init_153 23 rfl
theorem tdX12_init_198 : (([(198, .bipush 14, 2), (200, .sipush 200, 3), (203, .multianewarray 29 2, 4), (207, .putfield 37, 3), (210, .aload_n 0, 1), (211, .bipush 14, 2), (213, .sipush 200, 3), (216, .multianewarray 29 2, 4), (220, .putfield 40, 3), (223, .aload_n 0, 1), (224, .bipush 14, 2), (226, .sipush 200, 3), (229, .multianewarray 29 2, 4), (233, .putfield 43, 3), (236, .aload_n 0, 1), (237, .bipush 14, 2), (239, .sipush 200, 3), (242, .multianewarray 29 2, 4), (246, .putfield 46, 3), (249, .aload_n 0, 1), (250, .bipush 14, 2), (252, .sipush 200, 3), (255, .bipush 20, 2), (257, .multianewarray 49 3, 4)] : List (Nat × Instr × Nat)).all fun e => decide (decode cX12_init e.1 = .ok e.2)) = true := by decide +kernel
theorem dX12_init_198 : decode cX12_init 198 = .ok (.bipush 14, 2) := z_dk tdX12_init_198 0 rfl
theorem dX12_init_200 : decode cX12_init 200 = .ok (.sipush 200, 3) := z_dk tdX12_init_198 1 rfl
theorem dX12_init_203 : decode cX12_init 203 = .ok (.multianewarray 29 2, 4) := z_dk tdX12_init_198 2 rfl
theorem dX12_init_207 : decode cX12_init 207 = .ok (.putfield 37, 3) := z_dk tdX12_init_198 3 rfl
theorem dX12_init_210 : decode cX12_init 210 = .ok (.aload_n 0, 1) := z_dk tdX12_init_198 4 rfl
theorem dX12_init_211 : decode cX12_init 211 = .ok (.bipush 14, 2) := z_dk tdX12_init_198 5 rfl
theorem dX12_init_213 : decode cX12_init 213 = .ok (.sipush 200, 3) := z_dk tdX12_init_198 6 rfl
theorem dX12_init_216 : decode cX12_init 216 = .ok (.multianewarray 29 2, 4) := z_dk tdX12_init_198 7 rfl
theorem dX12_init_220 : decode cX12_init 220 = .ok (.putfield 40, 3) := z_dk tdX12_init_198 8 rfl
theorem dX12_init_223 : decode cX12_init 223 = .ok (.aload_n 0, 1) := z_dk tdX12_init_198 9 rfl
theorem dX12_init_224 : decode cX12_init 224 = .ok (.bipush 14, 2) := z_dk tdX12_init_198 10 rfl
theorem dX12_init_226 : decode cX12_init 226 = .ok (.sipush 200, 3) := z_dk tdX12_init_198 11 rfl
theorem dX12_init_229 : decode cX12_init 229 = .ok (.multianewarray 29 2, 4) := z_dk tdX12_init_198 12 rfl
theorem dX12_init_233 : decode cX12_init 233 = .ok (.putfield 43, 3) := z_dk tdX12_init_198 13 rfl
theorem dX12_init_236 : decode cX12_init 236 = .ok (.aload_n 0, 1) := z_dk tdX12_init_198 14 rfl
theorem dX12_init_237 : decode cX12_init 237 = .ok (.bipush 14, 2) := z_dk tdX12_init_198 15 rfl
theorem dX12_init_239 : decode cX12_init 239 = .ok (.sipush 200, 3) := z_dk tdX12_init_198 16 rfl
theorem dX12_init_242 : decode cX12_init 242 = .ok (.multianewarray 29 2, 4) := z_dk tdX12_init_198 17 rfl
theorem dX12_init_246 : decode cX12_init 246 = .ok (.putfield 46, 3) := z_dk tdX12_init_198 18 rfl
theorem dX12_init_249 : decode cX12_init 249 = .ok (.aload_n 0, 1) := z_dk tdX12_init_198 19 rfl
theorem dX12_init_250 : decode cX12_init 250 = .ok (.bipush 14, 2) := z_dk tdX12_init_198 20 rfl
theorem dX12_init_252 : decode cX12_init 252 = .ok (.sipush 200, 3) := z_dk tdX12_init_198 21 rfl
theorem dX12_init_255 : decode cX12_init 255 = .ok (.bipush 20, 2) := z_dk tdX12_init_198 22 rfl
theorem dX12_init_257 : decode cX12_init 257 = .ok (.multianewarray 49 3, 4) := z_dk tdX12_init_198 23 rfl
theorem tdX12_init_261 : (([(261, .putfield 51, 3), (264, .aload_n 0, 1), (265, .sipush 200, 3), (268, .newarray .int, 2), (270, .putfield 54, 3), (273, .aload_n 0, 1), (274, .sipush 200, 3), (277, .newarray .int, 2), (279, .putfield 57, 3), (282, .aload_n 0, 1), (283, .sipush 200, 3), (286, .newarray .int, 2), (288, .putfield 60, 3), (291, .aload_n 0, 1), (292, .sipush 200, 3), (295, .newarray .int, 2), (297, .putfield 63, 3), (300, .aload_n 0, 1), (301, .sipush 200, 3), (304, .newarray .int, 2), (306, .putfield 66, 3), (309, .aload_n 0, 1), (310, .sipush 200, 3), (313, .newarray .int, 2)] : List (Nat × Instr × Nat)).all fun e => decide (decode cX12_init e.1 = .ok e.2)) = true := by decide +kernel
theorem dX12_init_261 : decode cX12_init 261 = .ok (.putfield 51, 3) := z_dk tdX12_init_261 0 rfl
theorem dX12_init_264 : decode cX12_init 264 = .ok (.aload_n 0, 1) := z_dk tdX12_init_261 1 rfl
theorem dX12_init_265 : decode cX12_init 265 = .ok (.sipush 200, 3) := z_dk tdX12_init_261 2 rfl
theorem dX12_init_268 : decode cX12_init 268 = .ok (.newarray .int, 2) := z_dk tdX12_init_261 3 rfl
theorem dX12_init_270 : decode cX12_init 270 = .ok (.putfield 54, 3) := z_dk tdX12_init_261 4 rfl
theorem dX12_init_273 : decode cX12_init 273 = .ok (.aload_n 0, 1) := z_dk tdX12_init_261 5 rfl
theorem dX12_init_274 : decode cX12_init 274 = .ok (.sipush 200, 3) := z_dk tdX12_init_261 6 rfl
theorem dX12_init_277 : decode cX12_init 277 = .ok (.newarray .int, 2) := z_dk tdX12_init_261 7 rfl
theorem dX12_init_279 : decode cX12_init 279 = .ok (.putfield 57, 3) := z_dk tdX12_init_261 8 rfl
theorem dX12_init_282 : decode cX12_init 282 = .ok (.aload_n 0, 1) := z_dk tdX12_init_261 9 rfl
theorem dX12_init_283 : decode cX12_init 283 = .ok (.sipush 200, 3) := z_dk tdX12_init_261 10 rfl
theorem dX12_init_286 : decode cX12_init 286 = .ok (.newarray .int, 2) := z_dk tdX12_init_261 11 rfl
theorem dX12_init_288 : decode cX12_init 288 = .ok (.putfield 60, 3) := z_dk tdX12_init_261 12 rfl
theorem dX12_init_291 : decode cX12_init 291 = .ok (.aload_n 0, 1) := z_dk tdX12_init_261 13 rfl
theorem dX12_init_292 : decode cX12_init 292 = .ok (.sipush 200, 3) := z_dk tdX12_init_261 14 rfl
theorem dX12_init_295 : decode cX12_init 295 = .ok (.newarray .int, 2) := z_dk tdX12_init_261 15 rfl
theorem dX12_init_297 : decode cX12_init 297 = .ok (.putfield 63, 3) := z_dk tdX12_init_261 16 rfl
theorem dX12_init_300 : decode cX12_init 300 = .ok (.aload_n 0, 1) := z_dk tdX12_init_261 17 rfl
theorem dX12_init_301 : decode cX12_init 301 = .ok (.sipush 200, 3) := z_dk tdX12_init_261 18 rfl
theorem dX12_init_304 : decode cX12_init 304 = .ok (.newarray .int, 2) := z_dk tdX12_init_261 19 rfl
theorem dX12_init_306 : decode cX12_init 306 = .ok (.putfield 66, 3) := z_dk tdX12_init_261 20 rfl
theorem dX12_init_309 : decode cX12_init 309 = .ok (.aload_n 0, 1) := z_dk tdX12_init_261 21 rfl
theorem dX12_init_310 : decode cX12_init 310 = .ok (.sipush 200, 3) := z_dk tdX12_init_261 22 rfl
theorem dX12_init_313 : decode cX12_init 313 = .ok (.newarray .int, 2) := z_dk tdX12_init_261 23 rfl
theorem tdX12_init_315 : (([(315, .putfield 69, 3), (318, .aload_n 0, 1), (319, .sipush 200, 3), (322, .newarray .int, 2), (324, .putfield 72, 3), (327, .aload_n 0, 1), (328, .sipush 200, 3), (331, .newarray .int, 2), (333, .putfield 75, 3), (336, .aload_n 0, 1), (337, .sipush 200, 3), (340, .newarray .int, 2), (342, .putfield 78, 3), (345, .aload_n 0, 1), (346, .sipush 200, 3), (349, .newarray .int, 2), (351, .putfield 81, 3), (354, .aload_n 0, 1), (355, .sipush 200, 3), (358, .newarray .int, 2), (360, .putfield 84, 3), (363, .aload_n 0, 1), (364, .sipush 200, 3), (367, .newarray .int, 2)] : List (Nat × Instr × Nat)).all fun e => decide (decode cX12_init e.1 = .ok e.2)) = true := by decide +kernel
theorem dX12_init_315 : decode cX12_init 315 = .ok (.putfield 69, 3) := z_dk tdX12_init_315 0 rfl
theorem dX12_init_318 : decode cX12_init 318 = .ok (.aload_n 0, 1) := z_dk tdX12_init_315 1 rfl
theorem dX12_init_319 : decode cX12_init 319 = .ok (.sipush 200, 3) := z_dk tdX12_init_315 2 rfl
theorem dX12_init_322 : decode cX12_init 322 = .ok (.newarray .int, 2) := z_dk tdX12_init_315 3 rfl
theorem dX12_init_324 : decode cX12_init 324 = .ok (.putfield 72, 3) := z_dk tdX12_init_315 4 rfl
theorem dX12_init_327 : decode cX12_init 327 = .ok (.aload_n 0, 1) := z_dk tdX12_init_315 5 rfl
theorem dX12_init_328 : decode cX12_init 328 = .ok (.sipush 200, 3) := z_dk tdX12_init_315 6 rfl
theorem dX12_init_331 : decode cX12_init 331 = .ok (.newarray .int, 2) := z_dk tdX12_init_315 7 rfl
theorem dX12_init_333 : decode cX12_init 333 = .ok (.putfield 75, 3) := z_dk tdX12_init_315 8 rfl
theorem dX12_init_336 : decode cX12_init 336 = .ok (.aload_n 0, 1) := z_dk tdX12_init_315 9 rfl
theorem dX12_init_337 : decode cX12_init 337 = .ok (.sipush 200, 3) := z_dk tdX12_init_315 10 rfl
theorem dX12_init_340 : decode cX12_init 340 = .ok (.newarray .int, 2) := z_dk tdX12_init_315 11 rfl
theorem dX12_init_342 : decode cX12_init 342 = .ok (.putfield 78, 3) := z_dk tdX12_init_315 12 rfl
theorem dX12_init_345 : decode cX12_init 345 = .ok (.aload_n 0, 1) := z_dk tdX12_init_315 13 rfl
theorem dX12_init_346 : decode cX12_init 346 = .ok (.sipush 200, 3) := z_dk tdX12_init_315 14 rfl
theorem dX12_init_349 : decode cX12_init 349 = .ok (.newarray .int, 2) := z_dk tdX12_init_315 15 rfl
theorem dX12_init_351 : decode cX12_init 351 = .ok (.putfield 81, 3) := z_dk tdX12_init_315 16 rfl
theorem dX12_init_354 : decode cX12_init 354 = .ok (.aload_n 0, 1) := z_dk tdX12_init_315 17 rfl
theorem dX12_init_355 : decode cX12_init 355 = .ok (.sipush 200, 3) := z_dk tdX12_init_315 18 rfl
theorem dX12_init_358 : decode cX12_init 358 = .ok (.newarray .int, 2) := z_dk tdX12_init_315 19 rfl
theorem dX12_init_360 : decode cX12_init 360 = .ok (.putfield 84, 3) := z_dk tdX12_init_315 20 rfl
theorem dX12_init_363 : decode cX12_init 363 = .ok (.aload_n 0, 1) := z_dk tdX12_init_315 21 rfl
theorem dX12_init_364 : decode cX12_init 364 = .ok (.sipush 200, 3) := z_dk tdX12_init_315 22 rfl
theorem dX12_init_367 : decode cX12_init 367 = .ok (.newarray .int, 2) := z_dk tdX12_init_315 23 rfl
theorem tdX12_init_369 : (([(369, .putfield 87, 3), (372, .aload_n 0, 1), (373, .sipush 200, 3), (376, .newarray .int, 2), (378, .putfield 90, 3), (381, .aload_n 0, 1), (382, .sipush 200, 3), (385, .newarray .int, 2), (387, .putfield 93, 3), (390, .aload_n 0, 1), (391, .sipush 200, 3), (394, .sipush 200, 3), (397, .multianewarray 29 2, 4), (401, .putfield 96, 3), (404, .aload_n 0, 1), (405, .sipush 200, 3), (408, .newarray .int, 2), (410, .putfield 99, 3), (413, .aload_n 0, 1), (414, .sipush 200, 3), (417, .newarray .int, 2), (419, .putfield 102, 3), (422, .aload_n 0, 1), (423, .sipush 200, 3)] : List (Nat × Instr × Nat)).all fun e => decide (decode cX12_init e.1 = .ok e.2)) = true := by decide +kernel
theorem dX12_init_369 : decode cX12_init 369 = .ok (.putfield 87, 3) := z_dk tdX12_init_369 0 rfl
theorem dX12_init_372 : decode cX12_init 372 = .ok (.aload_n 0, 1) := z_dk tdX12_init_369 1 rfl
theorem dX12_init_373 : decode cX12_init 373 = .ok (.sipush 200, 3) := z_dk tdX12_init_369 2 rfl
theorem dX12_init_376 : decode cX12_init 376 = .ok (.newarray .int, 2) := z_dk tdX12_init_369 3 rfl
theorem dX12_init_378 : decode cX12_init 378 = .ok (.putfield 90, 3) := z_dk tdX12_init_369 4 rfl
theorem dX12_init_381 : decode cX12_init 381 = .ok (.aload_n 0, 1) := z_dk tdX12_init_369 5 rfl
theorem dX12_init_382 : decode cX12_init 382 = .ok (.sipush 200, 3) := z_dk tdX12_init_369 6 rfl
theorem dX12_init_385 : decode cX12_init 385 = .ok (.newarray .int, 2) := z_dk tdX12_init_369 7 rfl
theorem dX12_init_387 : decode cX12_init 387 = .ok (.putfield 93, 3) := z_dk tdX12_init_369 8 rfl
theorem dX12_init_390 : decode cX12_init 390 = .ok (.aload_n 0, 1) := z_dk tdX12_init_369 9 rfl
theorem dX12_init_391 : decode cX12_init 391 = .ok (.sipush 200, 3) := z_dk tdX12_init_369 10 rfl
theorem dX12_init_394 : decode cX12_init 394 = .ok (.sipush 200, 3) := z_dk tdX12_init_369 11 rfl
theorem dX12_init_397 : decode cX12_init 397 = .ok (.multianewarray 29 2, 4) := z_dk tdX12_init_369 12 rfl
theorem dX12_init_401 : decode cX12_init 401 = .ok (.putfield 96, 3) := z_dk tdX12_init_369 13 rfl
theorem dX12_init_404 : decode cX12_init 404 = .ok (.aload_n 0, 1) := z_dk tdX12_init_369 14 rfl
theorem dX12_init_405 : decode cX12_init 405 = .ok (.sipush 200, 3) := z_dk tdX12_init_369 15 rfl
theorem dX12_init_408 : decode cX12_init 408 = .ok (.newarray .int, 2) := z_dk tdX12_init_369 16 rfl
theorem dX12_init_410 : decode cX12_init 410 = .ok (.putfield 99, 3) := z_dk tdX12_init_369 17 rfl
theorem dX12_init_413 : decode cX12_init 413 = .ok (.aload_n 0, 1) := z_dk tdX12_init_369 18 rfl
theorem dX12_init_414 : decode cX12_init 414 = .ok (.sipush 200, 3) := z_dk tdX12_init_369 19 rfl
theorem dX12_init_417 : decode cX12_init 417 = .ok (.newarray .int, 2) := z_dk tdX12_init_369 20 rfl
theorem dX12_init_419 : decode cX12_init 419 = .ok (.putfield 102, 3) := z_dk tdX12_init_369 21 rfl
theorem dX12_init_422 : decode cX12_init 422 = .ok (.aload_n 0, 1) := z_dk tdX12_init_369 22 rfl
theorem dX12_init_423 : decode cX12_init 423 = .ok (.sipush 200, 3) := z_dk tdX12_init_369 23 rfl
theorem tdX12_init_426 : (([(426, .newarray .boolean, 2), (428, .putfield 105, 3), (431, .aload_n 0, 1), (432, .sipush 201, 3), (435, .newarray .int, 2), (437, .putfield 109, 3), (440, .aload_n 0, 1), (441, .sipush 201, 3), (444, .newarray .long, 2), (446, .putfield 112, 3), (449, .aload_n 0, 1), (450, .sipush 200, 3), (453, .newarray .int, 2), (455, .putfield 116, 3), (458, .aload_n 0, 1), (459, .sipush 200, 3), (462, .newarray .int, 2), (464, .putfield 119, 3), (467, .aload_n 0, 1), (468, .sipush 200, 3), (471, .newarray .int, 2), (473, .putfield 122, 3), (476, .aload_n 0, 1), (477, .sipush 200, 3)] : List (Nat × Instr × Nat)).all fun e => decide (decode cX12_init e.1 = .ok e.2)) = true := by decide +kernel
theorem dX12_init_426 : decode cX12_init 426 = .ok (.newarray .boolean, 2) := z_dk tdX12_init_426 0 rfl
theorem dX12_init_428 : decode cX12_init 428 = .ok (.putfield 105, 3) := z_dk tdX12_init_426 1 rfl
theorem dX12_init_431 : decode cX12_init 431 = .ok (.aload_n 0, 1) := z_dk tdX12_init_426 2 rfl
theorem dX12_init_432 : decode cX12_init 432 = .ok (.sipush 201, 3) := z_dk tdX12_init_426 3 rfl
theorem dX12_init_435 : decode cX12_init 435 = .ok (.newarray .int, 2) := z_dk tdX12_init_426 4 rfl
theorem dX12_init_437 : decode cX12_init 437 = .ok (.putfield 109, 3) := z_dk tdX12_init_426 5 rfl
theorem dX12_init_440 : decode cX12_init 440 = .ok (.aload_n 0, 1) := z_dk tdX12_init_426 6 rfl
theorem dX12_init_441 : decode cX12_init 441 = .ok (.sipush 201, 3) := z_dk tdX12_init_426 7 rfl
theorem dX12_init_444 : decode cX12_init 444 = .ok (.newarray .long, 2) := z_dk tdX12_init_426 8 rfl
theorem dX12_init_446 : decode cX12_init 446 = .ok (.putfield 112, 3) := z_dk tdX12_init_426 9 rfl
theorem dX12_init_449 : decode cX12_init 449 = .ok (.aload_n 0, 1) := z_dk tdX12_init_426 10 rfl
theorem dX12_init_450 : decode cX12_init 450 = .ok (.sipush 200, 3) := z_dk tdX12_init_426 11 rfl
theorem dX12_init_453 : decode cX12_init 453 = .ok (.newarray .int, 2) := z_dk tdX12_init_426 12 rfl
theorem dX12_init_455 : decode cX12_init 455 = .ok (.putfield 116, 3) := z_dk tdX12_init_426 13 rfl
theorem dX12_init_458 : decode cX12_init 458 = .ok (.aload_n 0, 1) := z_dk tdX12_init_426 14 rfl
theorem dX12_init_459 : decode cX12_init 459 = .ok (.sipush 200, 3) := z_dk tdX12_init_426 15 rfl
theorem dX12_init_462 : decode cX12_init 462 = .ok (.newarray .int, 2) := z_dk tdX12_init_426 16 rfl
theorem dX12_init_464 : decode cX12_init 464 = .ok (.putfield 119, 3) := z_dk tdX12_init_426 17 rfl
theorem dX12_init_467 : decode cX12_init 467 = .ok (.aload_n 0, 1) := z_dk tdX12_init_426 18 rfl
theorem dX12_init_468 : decode cX12_init 468 = .ok (.sipush 200, 3) := z_dk tdX12_init_426 19 rfl
theorem dX12_init_471 : decode cX12_init 471 = .ok (.newarray .int, 2) := z_dk tdX12_init_426 20 rfl
theorem dX12_init_473 : decode cX12_init 473 = .ok (.putfield 122, 3) := z_dk tdX12_init_426 21 rfl
theorem dX12_init_476 : decode cX12_init 476 = .ok (.aload_n 0, 1) := z_dk tdX12_init_426 22 rfl
theorem dX12_init_477 : decode cX12_init 477 = .ok (.sipush 200, 3) := z_dk tdX12_init_426 23 rfl
theorem tdX12_init_480 : (([(480, .newarray .int, 2), (482, .putfield 125, 3), (485, .aload_n 0, 1), (486, .sipush 200, 3), (489, .newarray .int, 2), (491, .putfield 128, 3), (494, .aload_n 0, 1), (495, .sipush 200, 3), (498, .newarray .int, 2), (500, .putfield 131, 3), (503, .aload_n 0, 1), (504, .sipush 200, 3), (507, .newarray .int, 2), (509, .putfield 134, 3), (512, .aload_n 0, 1), (513, .sipush 200, 3), (516, .newarray .int, 2), (518, .putfield 137, 3), (521, .aload_n 0, 1), (522, .sipush 200, 3), (525, .newarray .int, 2), (527, .putfield 140, 3), (530, .aload_n 0, 1), (531, .sipush 200, 3)] : List (Nat × Instr × Nat)).all fun e => decide (decode cX12_init e.1 = .ok e.2)) = true := by decide +kernel
theorem dX12_init_480 : decode cX12_init 480 = .ok (.newarray .int, 2) := z_dk tdX12_init_480 0 rfl
theorem dX12_init_482 : decode cX12_init 482 = .ok (.putfield 125, 3) := z_dk tdX12_init_480 1 rfl
theorem dX12_init_485 : decode cX12_init 485 = .ok (.aload_n 0, 1) := z_dk tdX12_init_480 2 rfl
theorem dX12_init_486 : decode cX12_init 486 = .ok (.sipush 200, 3) := z_dk tdX12_init_480 3 rfl
theorem dX12_init_489 : decode cX12_init 489 = .ok (.newarray .int, 2) := z_dk tdX12_init_480 4 rfl
theorem dX12_init_491 : decode cX12_init 491 = .ok (.putfield 128, 3) := z_dk tdX12_init_480 5 rfl
theorem dX12_init_494 : decode cX12_init 494 = .ok (.aload_n 0, 1) := z_dk tdX12_init_480 6 rfl
theorem dX12_init_495 : decode cX12_init 495 = .ok (.sipush 200, 3) := z_dk tdX12_init_480 7 rfl
theorem dX12_init_498 : decode cX12_init 498 = .ok (.newarray .int, 2) := z_dk tdX12_init_480 8 rfl
theorem dX12_init_500 : decode cX12_init 500 = .ok (.putfield 131, 3) := z_dk tdX12_init_480 9 rfl
theorem dX12_init_503 : decode cX12_init 503 = .ok (.aload_n 0, 1) := z_dk tdX12_init_480 10 rfl
theorem dX12_init_504 : decode cX12_init 504 = .ok (.sipush 200, 3) := z_dk tdX12_init_480 11 rfl
theorem dX12_init_507 : decode cX12_init 507 = .ok (.newarray .int, 2) := z_dk tdX12_init_480 12 rfl
theorem dX12_init_509 : decode cX12_init 509 = .ok (.putfield 134, 3) := z_dk tdX12_init_480 13 rfl
theorem dX12_init_512 : decode cX12_init 512 = .ok (.aload_n 0, 1) := z_dk tdX12_init_480 14 rfl
theorem dX12_init_513 : decode cX12_init 513 = .ok (.sipush 200, 3) := z_dk tdX12_init_480 15 rfl
theorem dX12_init_516 : decode cX12_init 516 = .ok (.newarray .int, 2) := z_dk tdX12_init_480 16 rfl
theorem dX12_init_518 : decode cX12_init 518 = .ok (.putfield 137, 3) := z_dk tdX12_init_480 17 rfl
theorem dX12_init_521 : decode cX12_init 521 = .ok (.aload_n 0, 1) := z_dk tdX12_init_480 18 rfl
theorem dX12_init_522 : decode cX12_init 522 = .ok (.sipush 200, 3) := z_dk tdX12_init_480 19 rfl
theorem dX12_init_525 : decode cX12_init 525 = .ok (.newarray .int, 2) := z_dk tdX12_init_480 20 rfl
theorem dX12_init_527 : decode cX12_init 527 = .ok (.putfield 140, 3) := z_dk tdX12_init_480 21 rfl
theorem dX12_init_530 : decode cX12_init 530 = .ok (.aload_n 0, 1) := z_dk tdX12_init_480 22 rfl
theorem dX12_init_531 : decode cX12_init 531 = .ok (.sipush 200, 3) := z_dk tdX12_init_480 23 rfl
theorem tdX12_init_534 : (([(534, .newarray .int, 2), (536, .putfield 143, 3), (539, .aload_n 0, 1), (540, .sipush 200, 3), (543, .newarray .int, 2), (545, .putfield 146, 3), (548, .aload_n 0, 1), (549, .sipush 200, 3), (552, .bipush 8, 2), (554, .multianewarray 29 2, 4), (558, .putfield 149, 3), (561, .aload_n 0, 1), (562, .sipush 4000, 3), (565, .iconst 2, 1), (566, .multianewarray 29 2, 4), (570, .putfield 152, 3), (573, .aload_n 0, 1), (574, .sipush 201, 3), (577, .newarray .int, 2), (579, .putfield 155, 3), (582, .aload_n 0, 1), (583, .sipush 200, 3), (586, .newarray .int, 2), (588, .putfield 158, 3)] : List (Nat × Instr × Nat)).all fun e => decide (decode cX12_init e.1 = .ok e.2)) = true := by decide +kernel
theorem dX12_init_534 : decode cX12_init 534 = .ok (.newarray .int, 2) := z_dk tdX12_init_534 0 rfl
theorem dX12_init_536 : decode cX12_init 536 = .ok (.putfield 143, 3) := z_dk tdX12_init_534 1 rfl
theorem dX12_init_539 : decode cX12_init 539 = .ok (.aload_n 0, 1) := z_dk tdX12_init_534 2 rfl
theorem dX12_init_540 : decode cX12_init 540 = .ok (.sipush 200, 3) := z_dk tdX12_init_534 3 rfl
theorem dX12_init_543 : decode cX12_init 543 = .ok (.newarray .int, 2) := z_dk tdX12_init_534 4 rfl
theorem dX12_init_545 : decode cX12_init 545 = .ok (.putfield 146, 3) := z_dk tdX12_init_534 5 rfl
theorem dX12_init_548 : decode cX12_init 548 = .ok (.aload_n 0, 1) := z_dk tdX12_init_534 6 rfl
theorem dX12_init_549 : decode cX12_init 549 = .ok (.sipush 200, 3) := z_dk tdX12_init_534 7 rfl
theorem dX12_init_552 : decode cX12_init 552 = .ok (.bipush 8, 2) := z_dk tdX12_init_534 8 rfl
theorem dX12_init_554 : decode cX12_init 554 = .ok (.multianewarray 29 2, 4) := z_dk tdX12_init_534 9 rfl
theorem dX12_init_558 : decode cX12_init 558 = .ok (.putfield 149, 3) := z_dk tdX12_init_534 10 rfl
theorem dX12_init_561 : decode cX12_init 561 = .ok (.aload_n 0, 1) := z_dk tdX12_init_534 11 rfl
theorem dX12_init_562 : decode cX12_init 562 = .ok (.sipush 4000, 3) := z_dk tdX12_init_534 12 rfl
theorem dX12_init_565 : decode cX12_init 565 = .ok (.iconst 2, 1) := z_dk tdX12_init_534 13 rfl
theorem dX12_init_566 : decode cX12_init 566 = .ok (.multianewarray 29 2, 4) := z_dk tdX12_init_534 14 rfl
theorem dX12_init_570 : decode cX12_init 570 = .ok (.putfield 152, 3) := z_dk tdX12_init_534 15 rfl
theorem dX12_init_573 : decode cX12_init 573 = .ok (.aload_n 0, 1) := z_dk tdX12_init_534 16 rfl
theorem dX12_init_574 : decode cX12_init 574 = .ok (.sipush 201, 3) := z_dk tdX12_init_534 17 rfl
theorem dX12_init_577 : decode cX12_init 577 = .ok (.newarray .int, 2) := z_dk tdX12_init_534 18 rfl
theorem dX12_init_579 : decode cX12_init 579 = .ok (.putfield 155, 3) := z_dk tdX12_init_534 19 rfl
theorem dX12_init_582 : decode cX12_init 582 = .ok (.aload_n 0, 1) := z_dk tdX12_init_534 20 rfl
theorem dX12_init_583 : decode cX12_init 583 = .ok (.sipush 200, 3) := z_dk tdX12_init_534 21 rfl
theorem dX12_init_586 : decode cX12_init 586 = .ok (.newarray .int, 2) := z_dk tdX12_init_534 22 rfl
theorem dX12_init_588 : decode cX12_init 588 = .ok (.putfield 158, 3) := z_dk tdX12_init_534 23 rfl
theorem tdX12_init_591 : (([(591, .aload_n 0, 1), (592, .sipush 200, 3), (595, .newarray .int, 2), (597, .putfield 161, 3), (600, .aload_n 0, 1), (601, .sipush 200, 3), (604, .newarray .int, 2), (606, .putfield 164, 3), (609, .aload_n 0, 1), (610, .sipush 200, 3), (613, .newarray .int, 2), (615, .putfield 167, 3), (618, .return_, 1)] : List (Nat × Instr × Nat)).all fun e => decide (decode cX12_init e.1 = .ok e.2)) = true := by decide +kernel
theorem dX12_init_591 : decode cX12_init 591 = .ok (.aload_n 0, 1) := z_dk tdX12_init_591 0 rfl
theorem dX12_init_592 : decode cX12_init 592 = .ok (.sipush 200, 3) := z_dk tdX12_init_591 1 rfl
theorem dX12_init_595 : decode cX12_init 595 = .ok (.newarray .int, 2) := z_dk tdX12_init_591 2 rfl
theorem dX12_init_597 : decode cX12_init 597 = .ok (.putfield 161, 3) := z_dk tdX12_init_591 3 rfl
theorem dX12_init_600 : decode cX12_init 600 = .ok (.aload_n 0, 1) := z_dk tdX12_init_591 4 rfl
theorem dX12_init_601 : decode cX12_init 601 = .ok (.sipush 200, 3) := z_dk tdX12_init_591 5 rfl
theorem dX12_init_604 : decode cX12_init 604 = .ok (.newarray .int, 2) := z_dk tdX12_init_591 6 rfl
theorem dX12_init_606 : decode cX12_init 606 = .ok (.putfield 164, 3) := z_dk tdX12_init_591 7 rfl
theorem dX12_init_609 : decode cX12_init 609 = .ok (.aload_n 0, 1) := z_dk tdX12_init_591 8 rfl
theorem dX12_init_610 : decode cX12_init 610 = .ok (.sipush 200, 3) := z_dk tdX12_init_591 9 rfl
theorem dX12_init_613 : decode cX12_init 613 = .ok (.newarray .int, 2) := z_dk tdX12_init_591 10 rfl
theorem dX12_init_615 : decode cX12_init 615 = .ok (.putfield 167, 3) := z_dk tdX12_init_591 11 rfl
theorem dX12_init_618 : decode cX12_init 618 = .ok (.return_, 1) := z_dk tdX12_init_591 12 rfl
theorem tdX12_thrown_0 : (([(0, .aload_n 0, 1), (1, .getfield 170, 3), (4, .ireturn, 1)] : List (Nat × Instr × Nat)).all fun e => decide (decode cX12_thrown e.1 = .ok e.2)) = true := by decide +kernel
theorem dX12_thrown_0 : decode cX12_thrown 0 = .ok (.aload_n 0, 1) := z_dk tdX12_thrown_0 0 rfl
theorem dX12_thrown_1 : decode cX12_thrown 1 = .ok (.getfield 170, 3) := z_dk tdX12_thrown_0 1 rfl
theorem dX12_thrown_4 : decode cX12_thrown 4 = .ok (.ireturn, 1) := z_dk tdX12_thrown_0 2 rfl
theorem tdX12_bad_0 : (([(0, .iload_n 1, 1), (1, .ifCond .eq 25, 3), (4, .aload_n 0, 1), (5, .getfield 170, 3), (8, .ifCond .ne 18, 3), (11, .aload_n 0, 1), (12, .iload_n 2, 1), (13, .putfield 170, 3), (16, .aload_n 0, 1), (17, .getfield 7, 3), (20, .iload_n 3, 1), (21, .dup2, 1), (22, .iaload, 1), (23, .iconst 1, 1), (24, .iadd, 1), (25, .iastore, 1), (26, .aload_n 0, 1), (27, .getfield 170, 3), (30, .ifCond .eq 7, 3), (33, .iconst 1, 1), (34, .goto 4, 3), (37, .iconst 0, 1), (38, .ireturn, 1)] : List (Nat × Instr × Nat)).all fun e => decide (decode cX12_bad e.1 = .ok e.2)) = true := by decide +kernel
theorem dX12_bad_0 : decode cX12_bad 0 = .ok (.iload_n 1, 1) := z_dk tdX12_bad_0 0 rfl
theorem dX12_bad_1 : decode cX12_bad 1 = .ok (.ifCond .eq 25, 3) := z_dk tdX12_bad_0 1 rfl
theorem dX12_bad_4 : decode cX12_bad 4 = .ok (.aload_n 0, 1) := z_dk tdX12_bad_0 2 rfl
theorem dX12_bad_5 : decode cX12_bad 5 = .ok (.getfield 170, 3) := z_dk tdX12_bad_0 3 rfl
theorem dX12_bad_8 : decode cX12_bad 8 = .ok (.ifCond .ne 18, 3) := z_dk tdX12_bad_0 4 rfl
theorem dX12_bad_11 : decode cX12_bad 11 = .ok (.aload_n 0, 1) := z_dk tdX12_bad_0 5 rfl
theorem dX12_bad_12 : decode cX12_bad 12 = .ok (.iload_n 2, 1) := z_dk tdX12_bad_0 6 rfl
theorem dX12_bad_13 : decode cX12_bad 13 = .ok (.putfield 170, 3) := z_dk tdX12_bad_0 7 rfl
theorem dX12_bad_16 : decode cX12_bad 16 = .ok (.aload_n 0, 1) := z_dk tdX12_bad_0 8 rfl
theorem dX12_bad_17 : decode cX12_bad 17 = .ok (.getfield 7, 3) := z_dk tdX12_bad_0 9 rfl
theorem dX12_bad_20 : decode cX12_bad 20 = .ok (.iload_n 3, 1) := z_dk tdX12_bad_0 10 rfl
theorem dX12_bad_21 : decode cX12_bad 21 = .ok (.dup2, 1) := z_dk tdX12_bad_0 11 rfl
theorem dX12_bad_22 : decode cX12_bad 22 = .ok (.iaload, 1) := z_dk tdX12_bad_0 12 rfl
theorem dX12_bad_23 : decode cX12_bad 23 = .ok (.iconst 1, 1) := z_dk tdX12_bad_0 13 rfl
theorem dX12_bad_24 : decode cX12_bad 24 = .ok (.iadd, 1) := z_dk tdX12_bad_0 14 rfl
theorem dX12_bad_25 : decode cX12_bad 25 = .ok (.iastore, 1) := z_dk tdX12_bad_0 15 rfl
theorem dX12_bad_26 : decode cX12_bad 26 = .ok (.aload_n 0, 1) := z_dk tdX12_bad_0 16 rfl
theorem dX12_bad_27 : decode cX12_bad 27 = .ok (.getfield 170, 3) := z_dk tdX12_bad_0 17 rfl
theorem dX12_bad_30 : decode cX12_bad 30 = .ok (.ifCond .eq 7, 3) := z_dk tdX12_bad_0 18 rfl
theorem dX12_bad_33 : decode cX12_bad 33 = .ok (.iconst 1, 1) := z_dk tdX12_bad_0 19 rfl
theorem dX12_bad_34 : decode cX12_bad 34 = .ok (.goto 4, 3) := z_dk tdX12_bad_0 20 rfl
theorem dX12_bad_37 : decode cX12_bad 37 = .ok (.iconst 0, 1) := z_dk tdX12_bad_0 21 rfl
theorem dX12_bad_38 : decode cX12_bad 38 = .ok (.ireturn, 1) := z_dk tdX12_bad_0 22 rfl
theorem tdX12_in_0 : (([(0, .iload_n 0, 1), (1, .iload_n 1, 1), (2, .if_icmp .lt 12, 3), (5, .iload_n 0, 1), (6, .iload_n 2, 1), (7, .if_icmp .gt 7, 3), (10, .iconst 1, 1), (11, .goto 4, 3), (14, .iconst 0, 1), (15, .ireturn, 1)] : List (Nat × Instr × Nat)).all fun e => decide (decode cX12_in e.1 = .ok e.2)) = true := by decide +kernel
theorem dX12_in_0 : decode cX12_in 0 = .ok (.iload_n 0, 1) := z_dk tdX12_in_0 0 rfl
theorem dX12_in_1 : decode cX12_in 1 = .ok (.iload_n 1, 1) := z_dk tdX12_in_0 1 rfl
theorem dX12_in_2 : decode cX12_in 2 = .ok (.if_icmp .lt 12, 3) := z_dk tdX12_in_0 2 rfl
theorem dX12_in_5 : decode cX12_in 5 = .ok (.iload_n 0, 1) := z_dk tdX12_in_0 3 rfl
theorem dX12_in_6 : decode cX12_in 6 = .ok (.iload_n 2, 1) := z_dk tdX12_in_0 4 rfl
theorem dX12_in_7 : decode cX12_in 7 = .ok (.if_icmp .gt 7, 3) := z_dk tdX12_in_0 5 rfl
theorem dX12_in_10 : decode cX12_in 10 = .ok (.iconst 1, 1) := z_dk tdX12_in_0 6 rfl
theorem dX12_in_11 : decode cX12_in 11 = .ok (.goto 4, 3) := z_dk tdX12_in_0 7 rfl
theorem dX12_in_14 : decode cX12_in 14 = .ok (.iconst 0, 1) := z_dk tdX12_in_0 8 rfl
theorem dX12_in_15 : decode cX12_in 15 = .ok (.ireturn, 1) := z_dk tdX12_in_0 9 rfl
theorem tdX12_less_0 : (([(0, .iload_n 0, 1), (1, .iload_n 1, 1), (2, .if_icmp .ge 7, 3), (5, .iload_n 0, 1), (6, .goto 4, 3), (9, .iload_n 1, 1), (10, .ireturn, 1)] : List (Nat × Instr × Nat)).all fun e => decide (decode cX12_less e.1 = .ok e.2)) = true := by decide +kernel
theorem dX12_less_0 : decode cX12_less 0 = .ok (.iload_n 0, 1) := z_dk tdX12_less_0 0 rfl
theorem dX12_less_1 : decode cX12_less 1 = .ok (.iload_n 1, 1) := z_dk tdX12_less_0 1 rfl
theorem dX12_less_2 : decode cX12_less 2 = .ok (.if_icmp .ge 7, 3) := z_dk tdX12_less_0 2 rfl
theorem dX12_less_5 : decode cX12_less 5 = .ok (.iload_n 0, 1) := z_dk tdX12_less_0 3 rfl
theorem dX12_less_6 : decode cX12_less 6 = .ok (.goto 4, 3) := z_dk tdX12_less_0 4 rfl
theorem dX12_less_9 : decode cX12_less 9 = .ok (.iload_n 1, 1) := z_dk tdX12_less_0 5 rfl
theorem dX12_less_10 : decode cX12_less 10 = .ok (.ireturn, 1) := z_dk tdX12_less_0 6 rfl
theorem tdX12_more_0 : (([(0, .iload_n 0, 1), (1, .iload_n 1, 1), (2, .if_icmp .le 7, 3), (5, .iload_n 0, 1), (6, .goto 4, 3), (9, .iload_n 1, 1), (10, .ireturn, 1)] : List (Nat × Instr × Nat)).all fun e => decide (decode cX12_more e.1 = .ok e.2)) = true := by decide +kernel
theorem dX12_more_0 : decode cX12_more 0 = .ok (.iload_n 0, 1) := z_dk tdX12_more_0 0 rfl
theorem dX12_more_1 : decode cX12_more 1 = .ok (.iload_n 1, 1) := z_dk tdX12_more_0 1 rfl
theorem dX12_more_2 : decode cX12_more 2 = .ok (.if_icmp .le 7, 3) := z_dk tdX12_more_0 2 rfl
theorem dX12_more_5 : decode cX12_more 5 = .ok (.iload_n 0, 1) := z_dk tdX12_more_0 3 rfl
theorem dX12_more_6 : decode cX12_more 6 = .ok (.goto 4, 3) := z_dk tdX12_more_0 4 rfl
theorem dX12_more_9 : decode cX12_more 9 = .ok (.iload_n 1, 1) := z_dk tdX12_more_0 5 rfl
theorem dX12_more_10 : decode cX12_more 10 = .ok (.ireturn, 1) := z_dk tdX12_more_0 6 rfl
theorem tdX12_feed_0 : (([(0, .aload_n 0, 1), (1, .iconst 0, 1), (2, .putfield 170, 3), (5, .aload_n 0, 1), (6, .getfield 173, 3), (9, .bipush 20, 2), (11, .iadd, 1), (12, .sipush 300, 3), (15, .if_icmp .le 5, 3), (18, .iconst (-1), 1), (19, .ireturn, 1), (20, .iconst 0, 1), (21, .istore 6, 2), (23, .iload 6, 2), (25, .bipush 20, 2), (27, .if_icmp .ge 93, 3), (30, .iload 6, 2), (32, .iconst 4, 1), (33, .if_icmp .ge 7, 3), (36, .iload_n 1, 1), (37, .goto 39, 3), (40, .iload 6, 2), (42, .bipush 8, 2), (44, .if_icmp .ge 7, 3)] : List (Nat × Instr × Nat)).all fun e => decide (decode cX12_feed e.1 = .ok e.2)) = true := by decide +kernel
theorem dX12_feed_0 : decode cX12_feed 0 = .ok (.aload_n 0, 1) := z_dk tdX12_feed_0 0 rfl
theorem dX12_feed_1 : decode cX12_feed 1 = .ok (.iconst 0, 1) := z_dk tdX12_feed_0 1 rfl
theorem dX12_feed_2 : decode cX12_feed 2 = .ok (.putfield 170, 3) := z_dk tdX12_feed_0 2 rfl
theorem dX12_feed_5 : decode cX12_feed 5 = .ok (.aload_n 0, 1) := z_dk tdX12_feed_0 3 rfl
theorem dX12_feed_6 : decode cX12_feed 6 = .ok (.getfield 173, 3) := z_dk tdX12_feed_0 4 rfl
theorem dX12_feed_9 : decode cX12_feed 9 = .ok (.bipush 20, 2) := z_dk tdX12_feed_0 5 rfl
theorem dX12_feed_11 : decode cX12_feed 11 = .ok (.iadd, 1) := z_dk tdX12_feed_0 6 rfl
theorem dX12_feed_12 : decode cX12_feed 12 = .ok (.sipush 300, 3) := z_dk tdX12_feed_0 7 rfl
theorem dX12_feed_15 : decode cX12_feed 15 = .ok (.if_icmp .le 5, 3) := z_dk tdX12_feed_0 8 rfl
theorem dX12_feed_18 : decode cX12_feed 18 = .ok (.iconst (-1), 1) := z_dk tdX12_feed_0 9 rfl
theorem dX12_feed_19 : decode cX12_feed 19 = .ok (.ireturn, 1) := z_dk tdX12_feed_0 10 rfl
theorem dX12_feed_20 : decode cX12_feed 20 = .ok (.iconst 0, 1) := z_dk tdX12_feed_0 11 rfl
theorem dX12_feed_21 : decode cX12_feed 21 = .ok (.istore 6, 2) := z_dk tdX12_feed_0 12 rfl
theorem dX12_feed_23 : decode cX12_feed 23 = .ok (.iload 6, 2) := z_dk tdX12_feed_0 13 rfl
theorem dX12_feed_25 : decode cX12_feed 25 = .ok (.bipush 20, 2) := z_dk tdX12_feed_0 14 rfl
theorem dX12_feed_27 : decode cX12_feed 27 = .ok (.if_icmp .ge 93, 3) := z_dk tdX12_feed_0 15 rfl
theorem dX12_feed_30 : decode cX12_feed 30 = .ok (.iload 6, 2) := z_dk tdX12_feed_0 16 rfl
theorem dX12_feed_32 : decode cX12_feed 32 = .ok (.iconst 4, 1) := z_dk tdX12_feed_0 17 rfl
theorem dX12_feed_33 : decode cX12_feed 33 = .ok (.if_icmp .ge 7, 3) := z_dk tdX12_feed_0 18 rfl
theorem dX12_feed_36 : decode cX12_feed 36 = .ok (.iload_n 1, 1) := z_dk tdX12_feed_0 19 rfl
theorem dX12_feed_37 : decode cX12_feed 37 = .ok (.goto 39, 3) := z_dk tdX12_feed_0 20 rfl
theorem dX12_feed_40 : decode cX12_feed 40 = .ok (.iload 6, 2) := z_dk tdX12_feed_0 21 rfl
theorem dX12_feed_42 : decode cX12_feed 42 = .ok (.bipush 8, 2) := z_dk tdX12_feed_0 22 rfl
theorem dX12_feed_44 : decode cX12_feed 44 = .ok (.if_icmp .ge 7, 3) := z_dk tdX12_feed_0 23 rfl
theorem tdX12_feed_47 : (([(47, .iload_n 2, 1), (48, .goto 28, 3), (51, .iload 6, 2), (53, .bipush 12, 2), (55, .if_icmp .ge 7, 3), (58, .iload_n 3, 1), (59, .goto 17, 3), (62, .iload 6, 2), (64, .bipush 16, 2), (66, .if_icmp .ge 8, 3), (69, .iload 4, 2), (71, .goto 5, 3), (74, .iload 5, 2), (76, .istore 7, 2), (78, .aload_n 0, 1), (79, .getfield 17, 3), (82, .aload_n 0, 1), (83, .getfield 173, 3), (86, .iload 7, 2), (88, .bipush 24, 2), (90, .bipush 8, 2), (92, .iload 6, 2), (94, .iconst 4, 1), (95, .irem, 1)] : List (Nat × Instr × Nat)).all fun e => decide (decode cX12_feed e.1 = .ok e.2)) = true := by decide +kernel
theorem dX12_feed_47 : decode cX12_feed 47 = .ok (.iload_n 2, 1) := z_dk tdX12_feed_47 0 rfl
theorem dX12_feed_48 : decode cX12_feed 48 = .ok (.goto 28, 3) := z_dk tdX12_feed_47 1 rfl
theorem dX12_feed_51 : decode cX12_feed 51 = .ok (.iload 6, 2) := z_dk tdX12_feed_47 2 rfl
theorem dX12_feed_53 : decode cX12_feed 53 = .ok (.bipush 12, 2) := z_dk tdX12_feed_47 3 rfl
theorem dX12_feed_55 : decode cX12_feed 55 = .ok (.if_icmp .ge 7, 3) := z_dk tdX12_feed_47 4 rfl
theorem dX12_feed_58 : decode cX12_feed 58 = .ok (.iload_n 3, 1) := z_dk tdX12_feed_47 5 rfl
theorem dX12_feed_59 : decode cX12_feed 59 = .ok (.goto 17, 3) := z_dk tdX12_feed_47 6 rfl
theorem dX12_feed_62 : decode cX12_feed 62 = .ok (.iload 6, 2) := z_dk tdX12_feed_47 7 rfl
theorem dX12_feed_64 : decode cX12_feed 64 = .ok (.bipush 16, 2) := z_dk tdX12_feed_47 8 rfl
theorem dX12_feed_66 : decode cX12_feed 66 = .ok (.if_icmp .ge 8, 3) := z_dk tdX12_feed_47 9 rfl
theorem dX12_feed_69 : decode cX12_feed 69 = .ok (.iload 4, 2) := z_dk tdX12_feed_47 10 rfl
theorem dX12_feed_71 : decode cX12_feed 71 = .ok (.goto 5, 3) := z_dk tdX12_feed_47 11 rfl
theorem dX12_feed_74 : decode cX12_feed 74 = .ok (.iload 5, 2) := z_dk tdX12_feed_47 12 rfl
theorem dX12_feed_76 : decode cX12_feed 76 = .ok (.istore 7, 2) := z_dk tdX12_feed_47 13 rfl
theorem dX12_feed_78 : decode cX12_feed 78 = .ok (.aload_n 0, 1) := z_dk tdX12_feed_47 14 rfl
theorem dX12_feed_79 : decode cX12_feed 79 = .ok (.getfield 17, 3) := z_dk tdX12_feed_47 15 rfl
theorem dX12_feed_82 : decode cX12_feed 82 = .ok (.aload_n 0, 1) := z_dk tdX12_feed_47 16 rfl
theorem dX12_feed_83 : decode cX12_feed 83 = .ok (.getfield 173, 3) := z_dk tdX12_feed_47 17 rfl
theorem dX12_feed_86 : decode cX12_feed 86 = .ok (.iload 7, 2) := z_dk tdX12_feed_47 18 rfl
theorem dX12_feed_88 : decode cX12_feed 88 = .ok (.bipush 24, 2) := z_dk tdX12_feed_47 19 rfl
theorem dX12_feed_90 : decode cX12_feed 90 = .ok (.bipush 8, 2) := z_dk tdX12_feed_47 20 rfl
theorem dX12_feed_92 : decode cX12_feed 92 = .ok (.iload 6, 2) := z_dk tdX12_feed_47 21 rfl
theorem dX12_feed_94 : decode cX12_feed 94 = .ok (.iconst 4, 1) := z_dk tdX12_feed_47 22 rfl
theorem dX12_feed_95 : decode cX12_feed 95 = .ok (.irem, 1) := z_dk tdX12_feed_47 23 rfl
theorem tdX12_feed_96 : (([(96, .imul, 1), (97, .isub, 1), (98, .ishr, 1), (99, .sipush 255, 3), (102, .iand, 1), (103, .iastore, 1), (104, .aload_n 0, 1), (105, .dup, 1), (106, .getfield 173, 3), (109, .iconst 1, 1), (110, .iadd, 1), (111, .putfield 173, 3), (114, .iinc 6 1, 3), (117, .goto (-94), 3), (120, .aload_n 0, 1), (121, .getfield 173, 3), (124, .ireturn, 1)] : List (Nat × Instr × Nat)).all fun e => decide (decode cX12_feed e.1 = .ok e.2)) = true := by decide +kernel
theorem dX12_feed_96 : decode cX12_feed 96 = .ok (.imul, 1) := z_dk tdX12_feed_96 0 rfl
theorem dX12_feed_97 : decode cX12_feed 97 = .ok (.isub, 1) := z_dk tdX12_feed_96 1 rfl
theorem dX12_feed_98 : decode cX12_feed 98 = .ok (.ishr, 1) := z_dk tdX12_feed_96 2 rfl
theorem dX12_feed_99 : decode cX12_feed 99 = .ok (.sipush 255, 3) := z_dk tdX12_feed_96 3 rfl
theorem dX12_feed_102 : decode cX12_feed 102 = .ok (.iand, 1) := z_dk tdX12_feed_96 4 rfl
theorem dX12_feed_103 : decode cX12_feed 103 = .ok (.iastore, 1) := z_dk tdX12_feed_96 5 rfl
theorem dX12_feed_104 : decode cX12_feed 104 = .ok (.aload_n 0, 1) := z_dk tdX12_feed_96 6 rfl
theorem dX12_feed_105 : decode cX12_feed 105 = .ok (.dup, 1) := z_dk tdX12_feed_96 7 rfl
theorem dX12_feed_106 : decode cX12_feed 106 = .ok (.getfield 173, 3) := z_dk tdX12_feed_96 8 rfl
theorem dX12_feed_109 : decode cX12_feed 109 = .ok (.iconst 1, 1) := z_dk tdX12_feed_96 9 rfl
theorem dX12_feed_110 : decode cX12_feed 110 = .ok (.iadd, 1) := z_dk tdX12_feed_96 10 rfl
theorem dX12_feed_111 : decode cX12_feed 111 = .ok (.putfield 173, 3) := z_dk tdX12_feed_96 11 rfl
theorem dX12_feed_114 : decode cX12_feed 114 = .ok (.iinc 6 1, 3) := z_dk tdX12_feed_96 12 rfl
theorem dX12_feed_117 : decode cX12_feed 117 = .ok (.goto (-94), 3) := z_dk tdX12_feed_96 13 rfl
theorem dX12_feed_120 : decode cX12_feed 120 = .ok (.aload_n 0, 1) := z_dk tdX12_feed_96 14 rfl
theorem dX12_feed_121 : decode cX12_feed 121 = .ok (.getfield 173, 3) := z_dk tdX12_feed_96 15 rfl
theorem dX12_feed_124 : decode cX12_feed 124 = .ok (.ireturn, 1) := z_dk tdX12_feed_96 16 rfl
theorem tdX12_here_0 : (([(0, .aload_n 0, 1), (1, .getfield 176, 3), (4, .aload_n 0, 1), (5, .getfield 179, 3), (8, .if_icmp .lt 7, 3), (11, .iconst (-1), 1), (12, .goto 12, 3), (15, .aload_n 0, 1), (16, .getfield 17, 3), (19, .aload_n 0, 1), (20, .getfield 176, 3), (23, .iaload, 1), (24, .ireturn, 1)] : List (Nat × Instr × Nat)).all fun e => decide (decode cX12_here e.1 = .ok e.2)) = true := by decide +kernel
theorem dX12_here_0 : decode cX12_here 0 = .ok (.aload_n 0, 1) := z_dk tdX12_here_0 0 rfl
theorem dX12_here_1 : decode cX12_here 1 = .ok (.getfield 176, 3) := z_dk tdX12_here_0 1 rfl
theorem dX12_here_4 : decode cX12_here 4 = .ok (.aload_n 0, 1) := z_dk tdX12_here_0 2 rfl
theorem dX12_here_5 : decode cX12_here 5 = .ok (.getfield 179, 3) := z_dk tdX12_here_0 3 rfl
theorem dX12_here_8 : decode cX12_here 8 = .ok (.if_icmp .lt 7, 3) := z_dk tdX12_here_0 4 rfl
theorem dX12_here_11 : decode cX12_here 11 = .ok (.iconst (-1), 1) := z_dk tdX12_here_0 5 rfl
theorem dX12_here_12 : decode cX12_here 12 = .ok (.goto 12, 3) := z_dk tdX12_here_0 6 rfl
theorem dX12_here_15 : decode cX12_here 15 = .ok (.aload_n 0, 1) := z_dk tdX12_here_0 7 rfl
theorem dX12_here_16 : decode cX12_here 16 = .ok (.getfield 17, 3) := z_dk tdX12_here_0 8 rfl
theorem dX12_here_19 : decode cX12_here 19 = .ok (.aload_n 0, 1) := z_dk tdX12_here_0 9 rfl
theorem dX12_here_20 : decode cX12_here 20 = .ok (.getfield 176, 3) := z_dk tdX12_here_0 10 rfl
theorem dX12_here_23 : decode cX12_here 23 = .ok (.iaload, 1) := z_dk tdX12_here_0 11 rfl
theorem dX12_here_24 : decode cX12_here 24 = .ok (.ireturn, 1) := z_dk tdX12_here_0 12 rfl
theorem tdX12_isBig_0 : (([(0, .iload_n 0, 1), (1, .bipush 65, 2), (3, .if_icmp .lt 13, 3), (6, .iload_n 0, 1), (7, .bipush 90, 2), (9, .if_icmp .gt 7, 3), (12, .iconst 1, 1), (13, .goto 4, 3), (16, .iconst 0, 1), (17, .ireturn, 1)] : List (Nat × Instr × Nat)).all fun e => decide (decode cX12_isBig e.1 = .ok e.2)) = true := by decide +kernel
theorem dX12_isBig_0 : decode cX12_isBig 0 = .ok (.iload_n 0, 1) := z_dk tdX12_isBig_0 0 rfl
theorem dX12_isBig_1 : decode cX12_isBig 1 = .ok (.bipush 65, 2) := z_dk tdX12_isBig_0 1 rfl
theorem dX12_isBig_3 : decode cX12_isBig 3 = .ok (.if_icmp .lt 13, 3) := z_dk tdX12_isBig_0 2 rfl
theorem dX12_isBig_6 : decode cX12_isBig 6 = .ok (.iload_n 0, 1) := z_dk tdX12_isBig_0 3 rfl
theorem dX12_isBig_7 : decode cX12_isBig 7 = .ok (.bipush 90, 2) := z_dk tdX12_isBig_0 4 rfl
theorem dX12_isBig_9 : decode cX12_isBig 9 = .ok (.if_icmp .gt 7, 3) := z_dk tdX12_isBig_0 5 rfl
theorem dX12_isBig_12 : decode cX12_isBig 12 = .ok (.iconst 1, 1) := z_dk tdX12_isBig_0 6 rfl
theorem dX12_isBig_13 : decode cX12_isBig 13 = .ok (.goto 4, 3) := z_dk tdX12_isBig_0 7 rfl
theorem dX12_isBig_16 : decode cX12_isBig 16 = .ok (.iconst 0, 1) := z_dk tdX12_isBig_0 8 rfl
theorem dX12_isBig_17 : decode cX12_isBig 17 = .ok (.ireturn, 1) := z_dk tdX12_isBig_0 9 rfl
theorem tdX12_isSmall_0 : (([(0, .iload_n 0, 1), (1, .bipush 97, 2), (3, .if_icmp .lt 13, 3), (6, .iload_n 0, 1), (7, .bipush 122, 2), (9, .if_icmp .gt 7, 3), (12, .iconst 1, 1), (13, .goto 4, 3), (16, .iconst 0, 1), (17, .ireturn, 1)] : List (Nat × Instr × Nat)).all fun e => decide (decode cX12_isSmall e.1 = .ok e.2)) = true := by decide +kernel
theorem dX12_isSmall_0 : decode cX12_isSmall 0 = .ok (.iload_n 0, 1) := z_dk tdX12_isSmall_0 0 rfl
theorem dX12_isSmall_1 : decode cX12_isSmall 1 = .ok (.bipush 97, 2) := z_dk tdX12_isSmall_0 1 rfl
theorem dX12_isSmall_3 : decode cX12_isSmall 3 = .ok (.if_icmp .lt 13, 3) := z_dk tdX12_isSmall_0 2 rfl
theorem dX12_isSmall_6 : decode cX12_isSmall 6 = .ok (.iload_n 0, 1) := z_dk tdX12_isSmall_0 3 rfl
theorem dX12_isSmall_7 : decode cX12_isSmall 7 = .ok (.bipush 122, 2) := z_dk tdX12_isSmall_0 4 rfl
theorem dX12_isSmall_9 : decode cX12_isSmall 9 = .ok (.if_icmp .gt 7, 3) := z_dk tdX12_isSmall_0 5 rfl
theorem dX12_isSmall_12 : decode cX12_isSmall 12 = .ok (.iconst 1, 1) := z_dk tdX12_isSmall_0 6 rfl
theorem dX12_isSmall_13 : decode cX12_isSmall 13 = .ok (.goto 4, 3) := z_dk tdX12_isSmall_0 7 rfl
theorem dX12_isSmall_16 : decode cX12_isSmall 16 = .ok (.iconst 0, 1) := z_dk tdX12_isSmall_0 8 rfl
theorem dX12_isSmall_17 : decode cX12_isSmall 17 = .ok (.ireturn, 1) := z_dk tdX12_isSmall_0 9 rfl
theorem tdX12_fine_0 : (([(0, .aload_n 0, 1), (1, .getfield 182, 3), (4, .ifCond .ne 7, 3), (7, .iconst 1, 1), (8, .goto 4, 3), (11, .iconst 0, 1), (12, .ireturn, 1)] : List (Nat × Instr × Nat)).all fun e => decide (decode cX12_fine e.1 = .ok e.2)) = true := by decide +kernel
theorem dX12_fine_0 : decode cX12_fine 0 = .ok (.aload_n 0, 1) := z_dk tdX12_fine_0 0 rfl
theorem dX12_fine_1 : decode cX12_fine 1 = .ok (.getfield 182, 3) := z_dk tdX12_fine_0 1 rfl
theorem dX12_fine_4 : decode cX12_fine 4 = .ok (.ifCond .ne 7, 3) := z_dk tdX12_fine_0 2 rfl
theorem dX12_fine_7 : decode cX12_fine 7 = .ok (.iconst 1, 1) := z_dk tdX12_fine_0 3 rfl
theorem dX12_fine_8 : decode cX12_fine 8 = .ok (.goto 4, 3) := z_dk tdX12_fine_0 4 rfl
theorem dX12_fine_11 : decode cX12_fine 11 = .ok (.iconst 0, 1) := z_dk tdX12_fine_0 5 rfl
theorem dX12_fine_12 : decode cX12_fine 12 = .ok (.ireturn, 1) := z_dk tdX12_fine_0 6 rfl
theorem tdX12_wrong_0 : (([(0, .aload_n 0, 1), (1, .getfield 182, 3), (4, .ifCond .ne 13, 3), (7, .aload_n 0, 1), (8, .iload_n 1, 1), (9, .putfield 182, 3), (12, .aload_n 0, 1), (13, .iload_n 2, 1), (14, .putfield 185, 3), (17, .return_, 1)] : List (Nat × Instr × Nat)).all fun e => decide (decode cX12_wrong e.1 = .ok e.2)) = true := by decide +kernel
theorem dX12_wrong_0 : decode cX12_wrong 0 = .ok (.aload_n 0, 1) := z_dk tdX12_wrong_0 0 rfl
theorem dX12_wrong_1 : decode cX12_wrong 1 = .ok (.getfield 182, 3) := z_dk tdX12_wrong_0 1 rfl
theorem dX12_wrong_4 : decode cX12_wrong 4 = .ok (.ifCond .ne 13, 3) := z_dk tdX12_wrong_0 2 rfl
theorem dX12_wrong_7 : decode cX12_wrong 7 = .ok (.aload_n 0, 1) := z_dk tdX12_wrong_0 3 rfl
theorem dX12_wrong_8 : decode cX12_wrong 8 = .ok (.iload_n 1, 1) := z_dk tdX12_wrong_0 4 rfl
theorem dX12_wrong_9 : decode cX12_wrong 9 = .ok (.putfield 182, 3) := z_dk tdX12_wrong_0 5 rfl
theorem dX12_wrong_12 : decode cX12_wrong 12 = .ok (.aload_n 0, 1) := z_dk tdX12_wrong_0 6 rfl
theorem dX12_wrong_13 : decode cX12_wrong 13 = .ok (.iload_n 2, 1) := z_dk tdX12_wrong_0 7 rfl
theorem dX12_wrong_14 : decode cX12_wrong 14 = .ok (.putfield 185, 3) := z_dk tdX12_wrong_0 8 rfl
theorem dX12_wrong_17 : decode cX12_wrong 17 = .ok (.return_, 1) := z_dk tdX12_wrong_0 9 rfl
theorem tdX12_plainKind_0 : (([(0, .iload_n 0, 1), (1, .invokestatic 188, 3), (4, .ifCond .eq 5, 3), (7, .iconst 0, 1), (8, .ireturn, 1), (9, .iload_n 0, 1), (10, .invokestatic 192, 3), (13, .ifCond .eq 5, 3), (16, .iconst 1, 1), (17, .ireturn, 1), (18, .iload_n 0, 1), (19, .bipush 48, 2), (21, .if_icmp .lt 11, 3), (24, .iload_n 0, 1), (25, .bipush 57, 2), (27, .if_icmp .gt 5, 3), (30, .iconst 2, 1), (31, .ireturn, 1), (32, .iload_n 0, 1), (33, .bipush 46, 2), (35, .if_icmp .eq 9, 3), (38, .iload_n 0, 1), (39, .bipush 44, 2), (41, .if_icmp .ne 7, 3)] : List (Nat × Instr × Nat)).all fun e => decide (decode cX12_plainKind e.1 = .ok e.2)) = true := by decide +kernel
theorem dX12_plainKind_0 : decode cX12_plainKind 0 = .ok (.iload_n 0, 1) := z_dk tdX12_plainKind_0 0 rfl
theorem dX12_plainKind_1 : decode cX12_plainKind 1 = .ok (.invokestatic 188, 3) := z_dk tdX12_plainKind_0 1 rfl
theorem dX12_plainKind_4 : decode cX12_plainKind 4 = .ok (.ifCond .eq 5, 3) := z_dk tdX12_plainKind_0 2 rfl
theorem dX12_plainKind_7 : decode cX12_plainKind 7 = .ok (.iconst 0, 1) := z_dk tdX12_plainKind_0 3 rfl
theorem dX12_plainKind_8 : decode cX12_plainKind 8 = .ok (.ireturn, 1) := z_dk tdX12_plainKind_0 4 rfl
theorem dX12_plainKind_9 : decode cX12_plainKind 9 = .ok (.iload_n 0, 1) := z_dk tdX12_plainKind_0 5 rfl
theorem dX12_plainKind_10 : decode cX12_plainKind 10 = .ok (.invokestatic 192, 3) := z_dk tdX12_plainKind_0 6 rfl
theorem dX12_plainKind_13 : decode cX12_plainKind 13 = .ok (.ifCond .eq 5, 3) := z_dk tdX12_plainKind_0 7 rfl
theorem dX12_plainKind_16 : decode cX12_plainKind 16 = .ok (.iconst 1, 1) := z_dk tdX12_plainKind_0 8 rfl
theorem dX12_plainKind_17 : decode cX12_plainKind 17 = .ok (.ireturn, 1) := z_dk tdX12_plainKind_0 9 rfl
theorem dX12_plainKind_18 : decode cX12_plainKind 18 = .ok (.iload_n 0, 1) := z_dk tdX12_plainKind_0 10 rfl
theorem dX12_plainKind_19 : decode cX12_plainKind 19 = .ok (.bipush 48, 2) := z_dk tdX12_plainKind_0 11 rfl
theorem dX12_plainKind_21 : decode cX12_plainKind 21 = .ok (.if_icmp .lt 11, 3) := z_dk tdX12_plainKind_0 12 rfl
theorem dX12_plainKind_24 : decode cX12_plainKind 24 = .ok (.iload_n 0, 1) := z_dk tdX12_plainKind_0 13 rfl
theorem dX12_plainKind_25 : decode cX12_plainKind 25 = .ok (.bipush 57, 2) := z_dk tdX12_plainKind_0 14 rfl
theorem dX12_plainKind_27 : decode cX12_plainKind 27 = .ok (.if_icmp .gt 5, 3) := z_dk tdX12_plainKind_0 15 rfl
theorem dX12_plainKind_30 : decode cX12_plainKind 30 = .ok (.iconst 2, 1) := z_dk tdX12_plainKind_0 16 rfl
theorem dX12_plainKind_31 : decode cX12_plainKind 31 = .ok (.ireturn, 1) := z_dk tdX12_plainKind_0 17 rfl
theorem dX12_plainKind_32 : decode cX12_plainKind 32 = .ok (.iload_n 0, 1) := z_dk tdX12_plainKind_0 18 rfl
theorem dX12_plainKind_33 : decode cX12_plainKind 33 = .ok (.bipush 46, 2) := z_dk tdX12_plainKind_0 19 rfl
theorem dX12_plainKind_35 : decode cX12_plainKind 35 = .ok (.if_icmp .eq 9, 3) := z_dk tdX12_plainKind_0 20 rfl
theorem dX12_plainKind_38 : decode cX12_plainKind 38 = .ok (.iload_n 0, 1) := z_dk tdX12_plainKind_0 21 rfl
theorem dX12_plainKind_39 : decode cX12_plainKind 39 = .ok (.bipush 44, 2) := z_dk tdX12_plainKind_0 22 rfl
theorem dX12_plainKind_41 : decode cX12_plainKind 41 = .ok (.if_icmp .ne 7, 3) := z_dk tdX12_plainKind_0 23 rfl
theorem tdX12_plainKind_44 : (([(44, .iconst 3, 1), (45, .goto 35, 3), (48, .iload_n 0, 1), (49, .bipush 40, 2), (51, .if_icmp .ne 7, 3), (54, .iconst 4, 1), (55, .goto 25, 3), (58, .iload_n 0, 1), (59, .bipush 41, 2), (61, .if_icmp .ne 7, 3), (64, .iconst 5, 1), (65, .goto 15, 3), (68, .iload_n 0, 1), (69, .bipush 32, 2), (71, .if_icmp .ne 8, 3), (74, .bipush 6, 2), (76, .goto 4, 3), (79, .iconst (-1), 1), (80, .ireturn, 1)] : List (Nat × Instr × Nat)).all fun e => decide (decode cX12_plainKind e.1 = .ok e.2)) = true := by decide +kernel
theorem dX12_plainKind_44 : decode cX12_plainKind 44 = .ok (.iconst 3, 1) := z_dk tdX12_plainKind_44 0 rfl
theorem dX12_plainKind_45 : decode cX12_plainKind 45 = .ok (.goto 35, 3) := z_dk tdX12_plainKind_44 1 rfl
theorem dX12_plainKind_48 : decode cX12_plainKind 48 = .ok (.iload_n 0, 1) := z_dk tdX12_plainKind_44 2 rfl
theorem dX12_plainKind_49 : decode cX12_plainKind 49 = .ok (.bipush 40, 2) := z_dk tdX12_plainKind_44 3 rfl
theorem dX12_plainKind_51 : decode cX12_plainKind 51 = .ok (.if_icmp .ne 7, 3) := z_dk tdX12_plainKind_44 4 rfl
theorem dX12_plainKind_54 : decode cX12_plainKind 54 = .ok (.iconst 4, 1) := z_dk tdX12_plainKind_44 5 rfl
theorem dX12_plainKind_55 : decode cX12_plainKind 55 = .ok (.goto 25, 3) := z_dk tdX12_plainKind_44 6 rfl
theorem dX12_plainKind_58 : decode cX12_plainKind 58 = .ok (.iload_n 0, 1) := z_dk tdX12_plainKind_44 7 rfl
theorem dX12_plainKind_59 : decode cX12_plainKind 59 = .ok (.bipush 41, 2) := z_dk tdX12_plainKind_44 8 rfl
theorem dX12_plainKind_61 : decode cX12_plainKind 61 = .ok (.if_icmp .ne 7, 3) := z_dk tdX12_plainKind_44 9 rfl
theorem dX12_plainKind_64 : decode cX12_plainKind 64 = .ok (.iconst 5, 1) := z_dk tdX12_plainKind_44 10 rfl
theorem dX12_plainKind_65 : decode cX12_plainKind 65 = .ok (.goto 15, 3) := z_dk tdX12_plainKind_44 11 rfl
theorem dX12_plainKind_68 : decode cX12_plainKind 68 = .ok (.iload_n 0, 1) := z_dk tdX12_plainKind_44 12 rfl
theorem dX12_plainKind_69 : decode cX12_plainKind 69 = .ok (.bipush 32, 2) := z_dk tdX12_plainKind_44 13 rfl
theorem dX12_plainKind_71 : decode cX12_plainKind 71 = .ok (.if_icmp .ne 8, 3) := z_dk tdX12_plainKind_44 14 rfl
theorem dX12_plainKind_74 : decode cX12_plainKind 74 = .ok (.bipush 6, 2) := z_dk tdX12_plainKind_44 15 rfl
theorem dX12_plainKind_76 : decode cX12_plainKind 76 = .ok (.goto 4, 3) := z_dk tdX12_plainKind_44 16 rfl
theorem dX12_plainKind_79 : decode cX12_plainKind 79 = .ok (.iconst (-1), 1) := z_dk tdX12_plainKind_44 17 rfl
theorem dX12_plainKind_80 : decode cX12_plainKind 80 = .ok (.ireturn, 1) := z_dk tdX12_plainKind_44 18 rfl
theorem tdX12_addsSign_0 : (([(0, .aload_n 0, 1), (1, .getfield 31, 3), (4, .bipush 13, 2), (6, .aaload, 1), (7, .iconst 0, 1), (8, .iaload, 1), (9, .istore_n 3, 1), (10, .iload_n 3, 1), (11, .sipush 200, 3), (14, .if_icmp .ne 12, 3), (17, .aload_n 0, 1), (18, .iconst 2, 1), (19, .aload_n 0, 1), (20, .getfield 176, 3), (23, .invokevirtual 195, 3), (26, .aload_n 0, 1), (27, .invokevirtual 199, 3), (30, .ifCond .ne 4, 3), (33, .return_, 1), (34, .aload_n 0, 1), (35, .getfield 34, 3), (38, .bipush 13, 2), (40, .aaload, 1), (41, .iload_n 3, 1)] : List (Nat × Instr × Nat)).all fun e => decide (decode cX12_addsSign e.1 = .ok e.2)) = true := by decide +kernel
theorem dX12_addsSign_0 : decode cX12_addsSign 0 = .ok (.aload_n 0, 1) := z_dk tdX12_addsSign_0 0 rfl
theorem dX12_addsSign_1 : decode cX12_addsSign 1 = .ok (.getfield 31, 3) := z_dk tdX12_addsSign_0 1 rfl
theorem dX12_addsSign_4 : decode cX12_addsSign 4 = .ok (.bipush 13, 2) := z_dk tdX12_addsSign_0 2 rfl
theorem dX12_addsSign_6 : decode cX12_addsSign 6 = .ok (.aaload, 1) := z_dk tdX12_addsSign_0 3 rfl
theorem dX12_addsSign_7 : decode cX12_addsSign 7 = .ok (.iconst 0, 1) := z_dk tdX12_addsSign_0 4 rfl
theorem dX12_addsSign_8 : decode cX12_addsSign 8 = .ok (.iaload, 1) := z_dk tdX12_addsSign_0 5 rfl
theorem dX12_addsSign_9 : decode cX12_addsSign 9 = .ok (.istore_n 3, 1) := z_dk tdX12_addsSign_0 6 rfl
theorem dX12_addsSign_10 : decode cX12_addsSign 10 = .ok (.iload_n 3, 1) := z_dk tdX12_addsSign_0 7 rfl
theorem dX12_addsSign_11 : decode cX12_addsSign 11 = .ok (.sipush 200, 3) := z_dk tdX12_addsSign_0 8 rfl
theorem dX12_addsSign_14 : decode cX12_addsSign 14 = .ok (.if_icmp .ne 12, 3) := z_dk tdX12_addsSign_0 9 rfl
theorem dX12_addsSign_17 : decode cX12_addsSign 17 = .ok (.aload_n 0, 1) := z_dk tdX12_addsSign_0 10 rfl
theorem dX12_addsSign_18 : decode cX12_addsSign 18 = .ok (.iconst 2, 1) := z_dk tdX12_addsSign_0 11 rfl
theorem dX12_addsSign_19 : decode cX12_addsSign 19 = .ok (.aload_n 0, 1) := z_dk tdX12_addsSign_0 12 rfl
theorem dX12_addsSign_20 : decode cX12_addsSign 20 = .ok (.getfield 176, 3) := z_dk tdX12_addsSign_0 13 rfl
theorem dX12_addsSign_23 : decode cX12_addsSign 23 = .ok (.invokevirtual 195, 3) := z_dk tdX12_addsSign_0 14 rfl
theorem dX12_addsSign_26 : decode cX12_addsSign 26 = .ok (.aload_n 0, 1) := z_dk tdX12_addsSign_0 15 rfl
theorem dX12_addsSign_27 : decode cX12_addsSign 27 = .ok (.invokevirtual 199, 3) := z_dk tdX12_addsSign_0 16 rfl
theorem dX12_addsSign_30 : decode cX12_addsSign 30 = .ok (.ifCond .ne 4, 3) := z_dk tdX12_addsSign_0 17 rfl
theorem dX12_addsSign_33 : decode cX12_addsSign 33 = .ok (.return_, 1) := z_dk tdX12_addsSign_0 18 rfl
theorem dX12_addsSign_34 : decode cX12_addsSign 34 = .ok (.aload_n 0, 1) := z_dk tdX12_addsSign_0 19 rfl
theorem dX12_addsSign_35 : decode cX12_addsSign 35 = .ok (.getfield 34, 3) := z_dk tdX12_addsSign_0 20 rfl
theorem dX12_addsSign_38 : decode cX12_addsSign 38 = .ok (.bipush 13, 2) := z_dk tdX12_addsSign_0 21 rfl
theorem dX12_addsSign_40 : decode cX12_addsSign 40 = .ok (.aaload, 1) := z_dk tdX12_addsSign_0 22 rfl
theorem dX12_addsSign_41 : decode cX12_addsSign 41 = .ok (.iload_n 3, 1) := z_dk tdX12_addsSign_0 23 rfl
theorem tdX12_addsSign_42 : (([(42, .aload_n 0, 1), (43, .getfield 17, 3), (46, .aload_n 0, 1), (47, .getfield 176, 3), (50, .iaload, 1), (51, .iastore, 1), (52, .aload_n 0, 1), (53, .getfield 37, 3), (56, .bipush 13, 2), (58, .aaload, 1), (59, .iload_n 3, 1), (60, .iload_n 1, 1), (61, .iastore, 1), (62, .aload_n 0, 1), (63, .getfield 40, 3), (66, .bipush 13, 2), (68, .aaload, 1), (69, .iload_n 3, 1), (70, .iload_n 2, 1), (71, .iastore, 1), (72, .aload_n 0, 1), (73, .getfield 43, 3), (76, .bipush 13, 2), (78, .aaload, 1)] : List (Nat × Instr × Nat)).all fun e => decide (decode cX12_addsSign e.1 = .ok e.2)) = true := by decide +kernel
theorem dX12_addsSign_42 : decode cX12_addsSign 42 = .ok (.aload_n 0, 1) := z_dk tdX12_addsSign_42 0 rfl
theorem dX12_addsSign_43 : decode cX12_addsSign 43 = .ok (.getfield 17, 3) := z_dk tdX12_addsSign_42 1 rfl
theorem dX12_addsSign_46 : decode cX12_addsSign 46 = .ok (.aload_n 0, 1) := z_dk tdX12_addsSign_42 2 rfl
theorem dX12_addsSign_47 : decode cX12_addsSign 47 = .ok (.getfield 176, 3) := z_dk tdX12_addsSign_42 3 rfl
theorem dX12_addsSign_50 : decode cX12_addsSign 50 = .ok (.iaload, 1) := z_dk tdX12_addsSign_42 4 rfl
theorem dX12_addsSign_51 : decode cX12_addsSign 51 = .ok (.iastore, 1) := z_dk tdX12_addsSign_42 5 rfl
theorem dX12_addsSign_52 : decode cX12_addsSign 52 = .ok (.aload_n 0, 1) := z_dk tdX12_addsSign_42 6 rfl
theorem dX12_addsSign_53 : decode cX12_addsSign 53 = .ok (.getfield 37, 3) := z_dk tdX12_addsSign_42 7 rfl
theorem dX12_addsSign_56 : decode cX12_addsSign 56 = .ok (.bipush 13, 2) := z_dk tdX12_addsSign_42 8 rfl
theorem dX12_addsSign_58 : decode cX12_addsSign 58 = .ok (.aaload, 1) := z_dk tdX12_addsSign_42 9 rfl
theorem dX12_addsSign_59 : decode cX12_addsSign 59 = .ok (.iload_n 3, 1) := z_dk tdX12_addsSign_42 10 rfl
theorem dX12_addsSign_60 : decode cX12_addsSign 60 = .ok (.iload_n 1, 1) := z_dk tdX12_addsSign_42 11 rfl
theorem dX12_addsSign_61 : decode cX12_addsSign 61 = .ok (.iastore, 1) := z_dk tdX12_addsSign_42 12 rfl
theorem dX12_addsSign_62 : decode cX12_addsSign 62 = .ok (.aload_n 0, 1) := z_dk tdX12_addsSign_42 13 rfl
theorem dX12_addsSign_63 : decode cX12_addsSign 63 = .ok (.getfield 40, 3) := z_dk tdX12_addsSign_42 14 rfl
theorem dX12_addsSign_66 : decode cX12_addsSign 66 = .ok (.bipush 13, 2) := z_dk tdX12_addsSign_42 15 rfl
theorem dX12_addsSign_68 : decode cX12_addsSign 68 = .ok (.aaload, 1) := z_dk tdX12_addsSign_42 16 rfl
theorem dX12_addsSign_69 : decode cX12_addsSign 69 = .ok (.iload_n 3, 1) := z_dk tdX12_addsSign_42 17 rfl
theorem dX12_addsSign_70 : decode cX12_addsSign 70 = .ok (.iload_n 2, 1) := z_dk tdX12_addsSign_42 18 rfl
theorem dX12_addsSign_71 : decode cX12_addsSign 71 = .ok (.iastore, 1) := z_dk tdX12_addsSign_42 19 rfl
theorem dX12_addsSign_72 : decode cX12_addsSign 72 = .ok (.aload_n 0, 1) := z_dk tdX12_addsSign_42 20 rfl
theorem dX12_addsSign_73 : decode cX12_addsSign 73 = .ok (.getfield 43, 3) := z_dk tdX12_addsSign_42 21 rfl
theorem dX12_addsSign_76 : decode cX12_addsSign 76 = .ok (.bipush 13, 2) := z_dk tdX12_addsSign_42 22 rfl
theorem dX12_addsSign_78 : decode cX12_addsSign 78 = .ok (.aaload, 1) := z_dk tdX12_addsSign_42 23 rfl
theorem tdX12_addsSign_79 : (([(79, .iload_n 3, 1), (80, .iload_n 1, 1), (81, .ifCond .eq 9, 3), (84, .iload_n 1, 1), (85, .bipush 7, 2), (87, .if_icmp .ne 15, 3), (90, .aload_n 0, 1), (91, .getfield 31, 3), (94, .bipush 13, 2), (96, .aaload, 1), (97, .iconst 2, 1), (98, .iaload, 1), (99, .goto 4, 3), (102, .iconst 0, 1), (103, .iastore, 1), (104, .aload_n 0, 1), (105, .getfield 31, 3), (108, .bipush 13, 2), (110, .aaload, 1), (111, .iconst 0, 1), (112, .dup2, 1), (113, .iaload, 1), (114, .iconst 1, 1), (115, .iadd, 1)] : List (Nat × Instr × Nat)).all fun e => decide (decode cX12_addsSign e.1 = .ok e.2)) = true := by decide +kernel
theorem dX12_addsSign_79 : decode cX12_addsSign 79 = .ok (.iload_n 3, 1) := z_dk tdX12_addsSign_79 0 rfl
theorem dX12_addsSign_80 : decode cX12_addsSign 80 = .ok (.iload_n 1, 1) := z_dk tdX12_addsSign_79 1 rfl
theorem dX12_addsSign_81 : decode cX12_addsSign 81 = .ok (.ifCond .eq 9, 3) := z_dk tdX12_addsSign_79 2 rfl
theorem dX12_addsSign_84 : decode cX12_addsSign 84 = .ok (.iload_n 1, 1) := z_dk tdX12_addsSign_79 3 rfl
theorem dX12_addsSign_85 : decode cX12_addsSign 85 = .ok (.bipush 7, 2) := z_dk tdX12_addsSign_79 4 rfl
theorem dX12_addsSign_87 : decode cX12_addsSign 87 = .ok (.if_icmp .ne 15, 3) := z_dk tdX12_addsSign_79 5 rfl
theorem dX12_addsSign_90 : decode cX12_addsSign 90 = .ok (.aload_n 0, 1) := z_dk tdX12_addsSign_79 6 rfl
theorem dX12_addsSign_91 : decode cX12_addsSign 91 = .ok (.getfield 31, 3) := z_dk tdX12_addsSign_79 7 rfl
theorem dX12_addsSign_94 : decode cX12_addsSign 94 = .ok (.bipush 13, 2) := z_dk tdX12_addsSign_79 8 rfl
theorem dX12_addsSign_96 : decode cX12_addsSign 96 = .ok (.aaload, 1) := z_dk tdX12_addsSign_79 9 rfl
theorem dX12_addsSign_97 : decode cX12_addsSign 97 = .ok (.iconst 2, 1) := z_dk tdX12_addsSign_79 10 rfl
theorem dX12_addsSign_98 : decode cX12_addsSign 98 = .ok (.iaload, 1) := z_dk tdX12_addsSign_79 11 rfl
theorem dX12_addsSign_99 : decode cX12_addsSign 99 = .ok (.goto 4, 3) := z_dk tdX12_addsSign_79 12 rfl
theorem dX12_addsSign_102 : decode cX12_addsSign 102 = .ok (.iconst 0, 1) := z_dk tdX12_addsSign_79 13 rfl
theorem dX12_addsSign_103 : decode cX12_addsSign 103 = .ok (.iastore, 1) := z_dk tdX12_addsSign_79 14 rfl
theorem dX12_addsSign_104 : decode cX12_addsSign 104 = .ok (.aload_n 0, 1) := z_dk tdX12_addsSign_79 15 rfl
theorem dX12_addsSign_105 : decode cX12_addsSign 105 = .ok (.getfield 31, 3) := z_dk tdX12_addsSign_79 16 rfl
theorem dX12_addsSign_108 : decode cX12_addsSign 108 = .ok (.bipush 13, 2) := z_dk tdX12_addsSign_79 17 rfl
theorem dX12_addsSign_110 : decode cX12_addsSign 110 = .ok (.aaload, 1) := z_dk tdX12_addsSign_79 18 rfl
theorem dX12_addsSign_111 : decode cX12_addsSign 111 = .ok (.iconst 0, 1) := z_dk tdX12_addsSign_79 19 rfl
theorem dX12_addsSign_112 : decode cX12_addsSign 112 = .ok (.dup2, 1) := z_dk tdX12_addsSign_79 20 rfl
theorem dX12_addsSign_113 : decode cX12_addsSign 113 = .ok (.iaload, 1) := z_dk tdX12_addsSign_79 21 rfl
theorem dX12_addsSign_114 : decode cX12_addsSign 114 = .ok (.iconst 1, 1) := z_dk tdX12_addsSign_79 22 rfl
theorem dX12_addsSign_115 : decode cX12_addsSign 115 = .ok (.iadd, 1) := z_dk tdX12_addsSign_79 23 rfl
theorem tdX12_addsSign_116 : (([(116, .iastore, 1), (117, .aload_n 0, 1), (118, .dup, 1), (119, .getfield 176, 3), (122, .iconst 1, 1), (123, .iadd, 1), (124, .putfield 176, 3), (127, .return_, 1)] : List (Nat × Instr × Nat)).all fun e => decide (decode cX12_addsSign e.1 = .ok e.2)) = true := by decide +kernel
theorem dX12_addsSign_116 : decode cX12_addsSign 116 = .ok (.iastore, 1) := z_dk tdX12_addsSign_116 0 rfl
theorem dX12_addsSign_117 : decode cX12_addsSign 117 = .ok (.aload_n 0, 1) := z_dk tdX12_addsSign_116 1 rfl
theorem dX12_addsSign_118 : decode cX12_addsSign 118 = .ok (.dup, 1) := z_dk tdX12_addsSign_116 2 rfl
theorem dX12_addsSign_119 : decode cX12_addsSign 119 = .ok (.getfield 176, 3) := z_dk tdX12_addsSign_116 3 rfl
theorem dX12_addsSign_122 : decode cX12_addsSign 122 = .ok (.iconst 1, 1) := z_dk tdX12_addsSign_116 4 rfl
theorem dX12_addsSign_123 : decode cX12_addsSign 123 = .ok (.iadd, 1) := z_dk tdX12_addsSign_116 5 rfl
theorem dX12_addsSign_124 : decode cX12_addsSign 124 = .ok (.putfield 176, 3) := z_dk tdX12_addsSign_116 6 rfl
theorem dX12_addsSign_127 : decode cX12_addsSign 127 = .ok (.return_, 1) := z_dk tdX12_addsSign_116 7 rfl
theorem tdX12_readsReading_0 : (([(0, .aload_n 0, 1), (1, .getfield 51, 3), (4, .bipush 13, 2), (6, .aaload, 1), (7, .iload_n 1, 1), (8, .aaload, 1), (9, .astore_n 3, 1), (10, .aload_n 3, 1), (11, .bipush 10, 2), (13, .iload_n 2, 1), (14, .imul, 1), (15, .iconst 0, 1), (16, .iastore, 1), (17, .aload_n 0, 1), (18, .dup, 1), (19, .getfield 176, 3), (22, .iconst 1, 1), (23, .iadd, 1), (24, .putfield 176, 3), (27, .aload_n 0, 1), (28, .invokevirtual 203, 3), (31, .invokestatic 192, 3), (34, .ifCond .ne 12, 3), (37, .aload_n 0, 1)] : List (Nat × Instr × Nat)).all fun e => decide (decode cX12_readsReading e.1 = .ok e.2)) = true := by decide +kernel
theorem dX12_readsReading_0 : decode cX12_readsReading 0 = .ok (.aload_n 0, 1) := z_dk tdX12_readsReading_0 0 rfl
theorem dX12_readsReading_1 : decode cX12_readsReading 1 = .ok (.getfield 51, 3) := z_dk tdX12_readsReading_0 1 rfl
theorem dX12_readsReading_4 : decode cX12_readsReading 4 = .ok (.bipush 13, 2) := z_dk tdX12_readsReading_0 2 rfl
theorem dX12_readsReading_6 : decode cX12_readsReading 6 = .ok (.aaload, 1) := z_dk tdX12_readsReading_0 3 rfl
theorem dX12_readsReading_7 : decode cX12_readsReading 7 = .ok (.iload_n 1, 1) := z_dk tdX12_readsReading_0 4 rfl
theorem dX12_readsReading_8 : decode cX12_readsReading 8 = .ok (.aaload, 1) := z_dk tdX12_readsReading_0 5 rfl
theorem dX12_readsReading_9 : decode cX12_readsReading 9 = .ok (.astore_n 3, 1) := z_dk tdX12_readsReading_0 6 rfl
theorem dX12_readsReading_10 : decode cX12_readsReading 10 = .ok (.aload_n 3, 1) := z_dk tdX12_readsReading_0 7 rfl
theorem dX12_readsReading_11 : decode cX12_readsReading 11 = .ok (.bipush 10, 2) := z_dk tdX12_readsReading_0 8 rfl
theorem dX12_readsReading_13 : decode cX12_readsReading 13 = .ok (.iload_n 2, 1) := z_dk tdX12_readsReading_0 9 rfl
theorem dX12_readsReading_14 : decode cX12_readsReading 14 = .ok (.imul, 1) := z_dk tdX12_readsReading_0 10 rfl
theorem dX12_readsReading_15 : decode cX12_readsReading 15 = .ok (.iconst 0, 1) := z_dk tdX12_readsReading_0 11 rfl
theorem dX12_readsReading_16 : decode cX12_readsReading 16 = .ok (.iastore, 1) := z_dk tdX12_readsReading_0 12 rfl
theorem dX12_readsReading_17 : decode cX12_readsReading 17 = .ok (.aload_n 0, 1) := z_dk tdX12_readsReading_0 13 rfl
theorem dX12_readsReading_18 : decode cX12_readsReading 18 = .ok (.dup, 1) := z_dk tdX12_readsReading_0 14 rfl
theorem dX12_readsReading_19 : decode cX12_readsReading 19 = .ok (.getfield 176, 3) := z_dk tdX12_readsReading_0 15 rfl
theorem dX12_readsReading_22 : decode cX12_readsReading 22 = .ok (.iconst 1, 1) := z_dk tdX12_readsReading_0 16 rfl
theorem dX12_readsReading_23 : decode cX12_readsReading 23 = .ok (.iadd, 1) := z_dk tdX12_readsReading_0 17 rfl
theorem dX12_readsReading_24 : decode cX12_readsReading 24 = .ok (.putfield 176, 3) := z_dk tdX12_readsReading_0 18 rfl
theorem dX12_readsReading_27 : decode cX12_readsReading 27 = .ok (.aload_n 0, 1) := z_dk tdX12_readsReading_0 19 rfl
theorem dX12_readsReading_28 : decode cX12_readsReading 28 = .ok (.invokevirtual 203, 3) := z_dk tdX12_readsReading_0 20 rfl
theorem dX12_readsReading_31 : decode cX12_readsReading 31 = .ok (.invokestatic 192, 3) := z_dk tdX12_readsReading_0 21 rfl
theorem dX12_readsReading_34 : decode cX12_readsReading 34 = .ok (.ifCond .ne 12, 3) := z_dk tdX12_readsReading_0 22 rfl
theorem dX12_readsReading_37 : decode cX12_readsReading 37 = .ok (.aload_n 0, 1) := z_dk tdX12_readsReading_0 23 rfl
theorem tdX12_readsReading_38 : (([(38, .iconst 1, 1), (39, .aload_n 0, 1), (40, .getfield 176, 3), (43, .invokevirtual 195, 3), (46, .aload_n 0, 1), (47, .invokevirtual 199, 3), (50, .ifCond .eq 86, 3), (53, .aload_n 0, 1), (54, .invokevirtual 203, 3), (57, .invokestatic 192, 3), (60, .ifCond .eq 76, 3), (63, .aload_n 3, 1), (64, .bipush 10, 2), (66, .iload_n 2, 1), (67, .imul, 1), (68, .iaload, 1), (69, .bipush 9, 2), (71, .if_icmp .ne 12, 3), (74, .aload_n 0, 1), (75, .iconst 1, 1), (76, .aload_n 0, 1), (77, .getfield 176, 3), (80, .invokevirtual 195, 3), (83, .aload_n 0, 1)] : List (Nat × Instr × Nat)).all fun e => decide (decode cX12_readsReading e.1 = .ok e.2)) = true := by decide +kernel
theorem dX12_readsReading_38 : decode cX12_readsReading 38 = .ok (.iconst 1, 1) := z_dk tdX12_readsReading_38 0 rfl
theorem dX12_readsReading_39 : decode cX12_readsReading 39 = .ok (.aload_n 0, 1) := z_dk tdX12_readsReading_38 1 rfl
theorem dX12_readsReading_40 : decode cX12_readsReading 40 = .ok (.getfield 176, 3) := z_dk tdX12_readsReading_38 2 rfl
theorem dX12_readsReading_43 : decode cX12_readsReading 43 = .ok (.invokevirtual 195, 3) := z_dk tdX12_readsReading_38 3 rfl
theorem dX12_readsReading_46 : decode cX12_readsReading 46 = .ok (.aload_n 0, 1) := z_dk tdX12_readsReading_38 4 rfl
theorem dX12_readsReading_47 : decode cX12_readsReading 47 = .ok (.invokevirtual 199, 3) := z_dk tdX12_readsReading_38 5 rfl
theorem dX12_readsReading_50 : decode cX12_readsReading 50 = .ok (.ifCond .eq 86, 3) := z_dk tdX12_readsReading_38 6 rfl
theorem dX12_readsReading_53 : decode cX12_readsReading 53 = .ok (.aload_n 0, 1) := z_dk tdX12_readsReading_38 7 rfl
theorem dX12_readsReading_54 : decode cX12_readsReading 54 = .ok (.invokevirtual 203, 3) := z_dk tdX12_readsReading_38 8 rfl
theorem dX12_readsReading_57 : decode cX12_readsReading 57 = .ok (.invokestatic 192, 3) := z_dk tdX12_readsReading_38 9 rfl
theorem dX12_readsReading_60 : decode cX12_readsReading 60 = .ok (.ifCond .eq 76, 3) := z_dk tdX12_readsReading_38 10 rfl
theorem dX12_readsReading_63 : decode cX12_readsReading 63 = .ok (.aload_n 3, 1) := z_dk tdX12_readsReading_38 11 rfl
theorem dX12_readsReading_64 : decode cX12_readsReading 64 = .ok (.bipush 10, 2) := z_dk tdX12_readsReading_38 12 rfl
theorem dX12_readsReading_66 : decode cX12_readsReading 66 = .ok (.iload_n 2, 1) := z_dk tdX12_readsReading_38 13 rfl
theorem dX12_readsReading_67 : decode cX12_readsReading 67 = .ok (.imul, 1) := z_dk tdX12_readsReading_38 14 rfl
theorem dX12_readsReading_68 : decode cX12_readsReading 68 = .ok (.iaload, 1) := z_dk tdX12_readsReading_38 15 rfl
theorem dX12_readsReading_69 : decode cX12_readsReading 69 = .ok (.bipush 9, 2) := z_dk tdX12_readsReading_38 16 rfl
theorem dX12_readsReading_71 : decode cX12_readsReading 71 = .ok (.if_icmp .ne 12, 3) := z_dk tdX12_readsReading_38 17 rfl
theorem dX12_readsReading_74 : decode cX12_readsReading 74 = .ok (.aload_n 0, 1) := z_dk tdX12_readsReading_38 18 rfl
theorem dX12_readsReading_75 : decode cX12_readsReading 75 = .ok (.iconst 1, 1) := z_dk tdX12_readsReading_38 19 rfl
theorem dX12_readsReading_76 : decode cX12_readsReading 76 = .ok (.aload_n 0, 1) := z_dk tdX12_readsReading_38 20 rfl
theorem dX12_readsReading_77 : decode cX12_readsReading 77 = .ok (.getfield 176, 3) := z_dk tdX12_readsReading_38 21 rfl
theorem dX12_readsReading_80 : decode cX12_readsReading 80 = .ok (.invokevirtual 195, 3) := z_dk tdX12_readsReading_38 22 rfl
theorem dX12_readsReading_83 : decode cX12_readsReading 83 = .ok (.aload_n 0, 1) := z_dk tdX12_readsReading_38 23 rfl
theorem tdX12_readsReading_84 : (([(84, .invokevirtual 199, 3), (87, .ifCond .ne 4, 3), (90, .return_, 1), (91, .aload_n 3, 1), (92, .bipush 10, 2), (94, .iload_n 2, 1), (95, .imul, 1), (96, .dup2, 1), (97, .iaload, 1), (98, .iconst 1, 1), (99, .iadd, 1), (100, .iastore, 1), (101, .aload_n 3, 1), (102, .bipush 10, 2), (104, .iload_n 2, 1), (105, .imul, 1), (106, .aload_n 3, 1), (107, .bipush 10, 2), (109, .iload_n 2, 1), (110, .imul, 1), (111, .iaload, 1), (112, .iadd, 1), (113, .aload_n 0, 1), (114, .getfield 17, 3)] : List (Nat × Instr × Nat)).all fun e => decide (decode cX12_readsReading e.1 = .ok e.2)) = true := by decide +kernel
theorem dX12_readsReading_84 : decode cX12_readsReading 84 = .ok (.invokevirtual 199, 3) := z_dk tdX12_readsReading_84 0 rfl
theorem dX12_readsReading_87 : decode cX12_readsReading 87 = .ok (.ifCond .ne 4, 3) := z_dk tdX12_readsReading_84 1 rfl
theorem dX12_readsReading_90 : decode cX12_readsReading 90 = .ok (.return_, 1) := z_dk tdX12_readsReading_84 2 rfl
theorem dX12_readsReading_91 : decode cX12_readsReading 91 = .ok (.aload_n 3, 1) := z_dk tdX12_readsReading_84 3 rfl
theorem dX12_readsReading_92 : decode cX12_readsReading 92 = .ok (.bipush 10, 2) := z_dk tdX12_readsReading_84 4 rfl
theorem dX12_readsReading_94 : decode cX12_readsReading 94 = .ok (.iload_n 2, 1) := z_dk tdX12_readsReading_84 5 rfl
theorem dX12_readsReading_95 : decode cX12_readsReading 95 = .ok (.imul, 1) := z_dk tdX12_readsReading_84 6 rfl
theorem dX12_readsReading_96 : decode cX12_readsReading 96 = .ok (.dup2, 1) := z_dk tdX12_readsReading_84 7 rfl
theorem dX12_readsReading_97 : decode cX12_readsReading 97 = .ok (.iaload, 1) := z_dk tdX12_readsReading_84 8 rfl
theorem dX12_readsReading_98 : decode cX12_readsReading 98 = .ok (.iconst 1, 1) := z_dk tdX12_readsReading_84 9 rfl
theorem dX12_readsReading_99 : decode cX12_readsReading 99 = .ok (.iadd, 1) := z_dk tdX12_readsReading_84 10 rfl
theorem dX12_readsReading_100 : decode cX12_readsReading 100 = .ok (.iastore, 1) := z_dk tdX12_readsReading_84 11 rfl
theorem dX12_readsReading_101 : decode cX12_readsReading 101 = .ok (.aload_n 3, 1) := z_dk tdX12_readsReading_84 12 rfl
theorem dX12_readsReading_102 : decode cX12_readsReading 102 = .ok (.bipush 10, 2) := z_dk tdX12_readsReading_84 13 rfl
theorem dX12_readsReading_104 : decode cX12_readsReading 104 = .ok (.iload_n 2, 1) := z_dk tdX12_readsReading_84 14 rfl
theorem dX12_readsReading_105 : decode cX12_readsReading 105 = .ok (.imul, 1) := z_dk tdX12_readsReading_84 15 rfl
theorem dX12_readsReading_106 : decode cX12_readsReading 106 = .ok (.aload_n 3, 1) := z_dk tdX12_readsReading_84 16 rfl
theorem dX12_readsReading_107 : decode cX12_readsReading 107 = .ok (.bipush 10, 2) := z_dk tdX12_readsReading_84 17 rfl
theorem dX12_readsReading_109 : decode cX12_readsReading 109 = .ok (.iload_n 2, 1) := z_dk tdX12_readsReading_84 18 rfl
theorem dX12_readsReading_110 : decode cX12_readsReading 110 = .ok (.imul, 1) := z_dk tdX12_readsReading_84 19 rfl
theorem dX12_readsReading_111 : decode cX12_readsReading 111 = .ok (.iaload, 1) := z_dk tdX12_readsReading_84 20 rfl
theorem dX12_readsReading_112 : decode cX12_readsReading 112 = .ok (.iadd, 1) := z_dk tdX12_readsReading_84 21 rfl
theorem dX12_readsReading_113 : decode cX12_readsReading 113 = .ok (.aload_n 0, 1) := z_dk tdX12_readsReading_84 22 rfl
theorem dX12_readsReading_114 : decode cX12_readsReading 114 = .ok (.getfield 17, 3) := z_dk tdX12_readsReading_84 23 rfl
theorem tdX12_readsReading_117 : (([(117, .aload_n 0, 1), (118, .getfield 176, 3), (121, .iaload, 1), (122, .iastore, 1), (123, .aload_n 0, 1), (124, .dup, 1), (125, .getfield 176, 3), (128, .iconst 1, 1), (129, .iadd, 1), (130, .putfield 176, 3), (133, .goto (-87), 3), (136, .return_, 1)] : List (Nat × Instr × Nat)).all fun e => decide (decode cX12_readsReading e.1 = .ok e.2)) = true := by decide +kernel
theorem dX12_readsReading_117 : decode cX12_readsReading 117 = .ok (.aload_n 0, 1) := z_dk tdX12_readsReading_117 0 rfl
theorem dX12_readsReading_118 : decode cX12_readsReading 118 = .ok (.getfield 176, 3) := z_dk tdX12_readsReading_117 1 rfl
theorem dX12_readsReading_121 : decode cX12_readsReading 121 = .ok (.iaload, 1) := z_dk tdX12_readsReading_117 2 rfl
theorem dX12_readsReading_122 : decode cX12_readsReading 122 = .ok (.iastore, 1) := z_dk tdX12_readsReading_117 3 rfl
theorem dX12_readsReading_123 : decode cX12_readsReading 123 = .ok (.aload_n 0, 1) := z_dk tdX12_readsReading_117 4 rfl
theorem dX12_readsReading_124 : decode cX12_readsReading 124 = .ok (.dup, 1) := z_dk tdX12_readsReading_117 5 rfl
theorem dX12_readsReading_125 : decode cX12_readsReading 125 = .ok (.getfield 176, 3) := z_dk tdX12_readsReading_117 6 rfl
theorem dX12_readsReading_128 : decode cX12_readsReading 128 = .ok (.iconst 1, 1) := z_dk tdX12_readsReading_117 7 rfl
theorem dX12_readsReading_129 : decode cX12_readsReading 129 = .ok (.iadd, 1) := z_dk tdX12_readsReading_117 8 rfl
theorem dX12_readsReading_130 : decode cX12_readsReading 130 = .ok (.putfield 176, 3) := z_dk tdX12_readsReading_117 9 rfl
theorem dX12_readsReading_133 : decode cX12_readsReading 133 = .ok (.goto (-87), 3) := z_dk tdX12_readsReading_117 10 rfl
theorem dX12_readsReading_136 : decode cX12_readsReading 136 = .ok (.return_, 1) := z_dk tdX12_readsReading_117 11 rfl
theorem tdX12_readsBase_0 : (([(0, .aload_n 0, 1), (1, .getfield 31, 3), (4, .bipush 13, 2), (6, .aaload, 1), (7, .iconst 1, 1), (8, .iaload, 1), (9, .istore_n 2, 1), (10, .iconst 0, 1), (11, .istore_n 3, 1), (12, .aload_n 0, 1), (13, .invokevirtual 203, 3), (16, .invokestatic 188, 3), (19, .ifCond .ne 12, 3), (22, .aload_n 0, 1), (23, .iconst 1, 1), (24, .aload_n 0, 1), (25, .getfield 176, 3), (28, .invokevirtual 195, 3), (31, .aload_n 0, 1), (32, .invokevirtual 199, 3), (35, .ifCond .eq 40, 3), (38, .aload_n 0, 1), (39, .invokevirtual 203, 3), (42, .invokestatic 188, 3)] : List (Nat × Instr × Nat)).all fun e => decide (decode cX12_readsBase e.1 = .ok e.2)) = true := by decide +kernel
theorem dX12_readsBase_0 : decode cX12_readsBase 0 = .ok (.aload_n 0, 1) := z_dk tdX12_readsBase_0 0 rfl
theorem dX12_readsBase_1 : decode cX12_readsBase 1 = .ok (.getfield 31, 3) := z_dk tdX12_readsBase_0 1 rfl
theorem dX12_readsBase_4 : decode cX12_readsBase 4 = .ok (.bipush 13, 2) := z_dk tdX12_readsBase_0 2 rfl
theorem dX12_readsBase_6 : decode cX12_readsBase 6 = .ok (.aaload, 1) := z_dk tdX12_readsBase_0 3 rfl
theorem dX12_readsBase_7 : decode cX12_readsBase 7 = .ok (.iconst 1, 1) := z_dk tdX12_readsBase_0 4 rfl
theorem dX12_readsBase_8 : decode cX12_readsBase 8 = .ok (.iaload, 1) := z_dk tdX12_readsBase_0 5 rfl
theorem dX12_readsBase_9 : decode cX12_readsBase 9 = .ok (.istore_n 2, 1) := z_dk tdX12_readsBase_0 6 rfl
theorem dX12_readsBase_10 : decode cX12_readsBase 10 = .ok (.iconst 0, 1) := z_dk tdX12_readsBase_0 7 rfl
theorem dX12_readsBase_11 : decode cX12_readsBase 11 = .ok (.istore_n 3, 1) := z_dk tdX12_readsBase_0 8 rfl
theorem dX12_readsBase_12 : decode cX12_readsBase 12 = .ok (.aload_n 0, 1) := z_dk tdX12_readsBase_0 9 rfl
theorem dX12_readsBase_13 : decode cX12_readsBase 13 = .ok (.invokevirtual 203, 3) := z_dk tdX12_readsBase_0 10 rfl
theorem dX12_readsBase_16 : decode cX12_readsBase 16 = .ok (.invokestatic 188, 3) := z_dk tdX12_readsBase_0 11 rfl
theorem dX12_readsBase_19 : decode cX12_readsBase 19 = .ok (.ifCond .ne 12, 3) := z_dk tdX12_readsBase_0 12 rfl
theorem dX12_readsBase_22 : decode cX12_readsBase 22 = .ok (.aload_n 0, 1) := z_dk tdX12_readsBase_0 13 rfl
theorem dX12_readsBase_23 : decode cX12_readsBase 23 = .ok (.iconst 1, 1) := z_dk tdX12_readsBase_0 14 rfl
theorem dX12_readsBase_24 : decode cX12_readsBase 24 = .ok (.aload_n 0, 1) := z_dk tdX12_readsBase_0 15 rfl
theorem dX12_readsBase_25 : decode cX12_readsBase 25 = .ok (.getfield 176, 3) := z_dk tdX12_readsBase_0 16 rfl
theorem dX12_readsBase_28 : decode cX12_readsBase 28 = .ok (.invokevirtual 195, 3) := z_dk tdX12_readsBase_0 17 rfl
theorem dX12_readsBase_31 : decode cX12_readsBase 31 = .ok (.aload_n 0, 1) := z_dk tdX12_readsBase_0 18 rfl
theorem dX12_readsBase_32 : decode cX12_readsBase 32 = .ok (.invokevirtual 199, 3) := z_dk tdX12_readsBase_0 19 rfl
theorem dX12_readsBase_35 : decode cX12_readsBase 35 = .ok (.ifCond .eq 40, 3) := z_dk tdX12_readsBase_0 20 rfl
theorem dX12_readsBase_38 : decode cX12_readsBase 38 = .ok (.aload_n 0, 1) := z_dk tdX12_readsBase_0 21 rfl
theorem dX12_readsBase_39 : decode cX12_readsBase 39 = .ok (.invokevirtual 203, 3) := z_dk tdX12_readsBase_0 22 rfl
theorem dX12_readsBase_42 : decode cX12_readsBase 42 = .ok (.invokestatic 188, 3) := z_dk tdX12_readsBase_0 23 rfl
theorem tdX12_readsBase_45 : (([(45, .ifCond .eq 30, 3), (48, .iload_n 3, 1), (49, .iconst 3, 1), (50, .if_icmp .ne 12, 3), (53, .aload_n 0, 1), (54, .iconst 1, 1), (55, .aload_n 0, 1), (56, .getfield 176, 3), (59, .invokevirtual 195, 3), (62, .aload_n 0, 1), (63, .bipush 7, 2), (65, .iload_n 2, 1), (66, .invokevirtual 207, 3), (69, .iinc 3 1, 3), (72, .goto (-41), 3), (75, .aload_n 0, 1), (76, .invokevirtual 199, 3), (79, .ifCond .eq 21, 3), (82, .aload_n 0, 1), (83, .invokevirtual 203, 3), (86, .bipush 124, 2), (88, .if_icmp .eq 12, 3), (91, .aload_n 0, 1), (92, .iconst 1, 1)] : List (Nat × Instr × Nat)).all fun e => decide (decode cX12_readsBase e.1 = .ok e.2)) = true := by decide +kernel
theorem dX12_readsBase_45 : decode cX12_readsBase 45 = .ok (.ifCond .eq 30, 3) := z_dk tdX12_readsBase_45 0 rfl
theorem dX12_readsBase_48 : decode cX12_readsBase 48 = .ok (.iload_n 3, 1) := z_dk tdX12_readsBase_45 1 rfl
theorem dX12_readsBase_49 : decode cX12_readsBase 49 = .ok (.iconst 3, 1) := z_dk tdX12_readsBase_45 2 rfl
theorem dX12_readsBase_50 : decode cX12_readsBase 50 = .ok (.if_icmp .ne 12, 3) := z_dk tdX12_readsBase_45 3 rfl
theorem dX12_readsBase_53 : decode cX12_readsBase 53 = .ok (.aload_n 0, 1) := z_dk tdX12_readsBase_45 4 rfl
theorem dX12_readsBase_54 : decode cX12_readsBase 54 = .ok (.iconst 1, 1) := z_dk tdX12_readsBase_45 5 rfl
theorem dX12_readsBase_55 : decode cX12_readsBase 55 = .ok (.aload_n 0, 1) := z_dk tdX12_readsBase_45 6 rfl
theorem dX12_readsBase_56 : decode cX12_readsBase 56 = .ok (.getfield 176, 3) := z_dk tdX12_readsBase_45 7 rfl
theorem dX12_readsBase_59 : decode cX12_readsBase 59 = .ok (.invokevirtual 195, 3) := z_dk tdX12_readsBase_45 8 rfl
theorem dX12_readsBase_62 : decode cX12_readsBase 62 = .ok (.aload_n 0, 1) := z_dk tdX12_readsBase_45 9 rfl
theorem dX12_readsBase_63 : decode cX12_readsBase 63 = .ok (.bipush 7, 2) := z_dk tdX12_readsBase_45 10 rfl
theorem dX12_readsBase_65 : decode cX12_readsBase 65 = .ok (.iload_n 2, 1) := z_dk tdX12_readsBase_45 11 rfl
theorem dX12_readsBase_66 : decode cX12_readsBase 66 = .ok (.invokevirtual 207, 3) := z_dk tdX12_readsBase_45 12 rfl
theorem dX12_readsBase_69 : decode cX12_readsBase 69 = .ok (.iinc 3 1, 3) := z_dk tdX12_readsBase_45 13 rfl
theorem dX12_readsBase_72 : decode cX12_readsBase 72 = .ok (.goto (-41), 3) := z_dk tdX12_readsBase_45 14 rfl
theorem dX12_readsBase_75 : decode cX12_readsBase 75 = .ok (.aload_n 0, 1) := z_dk tdX12_readsBase_45 15 rfl
theorem dX12_readsBase_76 : decode cX12_readsBase 76 = .ok (.invokevirtual 199, 3) := z_dk tdX12_readsBase_45 16 rfl
theorem dX12_readsBase_79 : decode cX12_readsBase 79 = .ok (.ifCond .eq 21, 3) := z_dk tdX12_readsBase_45 17 rfl
theorem dX12_readsBase_82 : decode cX12_readsBase 82 = .ok (.aload_n 0, 1) := z_dk tdX12_readsBase_45 18 rfl
theorem dX12_readsBase_83 : decode cX12_readsBase 83 = .ok (.invokevirtual 203, 3) := z_dk tdX12_readsBase_45 19 rfl
theorem dX12_readsBase_86 : decode cX12_readsBase 86 = .ok (.bipush 124, 2) := z_dk tdX12_readsBase_45 20 rfl
theorem dX12_readsBase_88 : decode cX12_readsBase 88 = .ok (.if_icmp .eq 12, 3) := z_dk tdX12_readsBase_45 21 rfl
theorem dX12_readsBase_91 : decode cX12_readsBase 91 = .ok (.aload_n 0, 1) := z_dk tdX12_readsBase_45 22 rfl
theorem dX12_readsBase_92 : decode cX12_readsBase 92 = .ok (.iconst 1, 1) := z_dk tdX12_readsBase_45 23 rfl
theorem tdX12_readsBase_93 : (([(93, .aload_n 0, 1), (94, .getfield 176, 3), (97, .invokevirtual 195, 3), (100, .aload_n 0, 1), (101, .invokevirtual 199, 3), (104, .ifCond .ne 4, 3), (107, .return_, 1), (108, .aload_n 0, 1), (109, .getfield 46, 3), (112, .bipush 13, 2), (114, .aaload, 1), (115, .iload_n 2, 1), (116, .iload_n 1, 1), (117, .iastore, 1), (118, .aload_n 0, 1), (119, .getfield 51, 3), (122, .bipush 13, 2), (124, .aaload, 1), (125, .iload_n 2, 1), (126, .aaload, 1), (127, .bipush 10, 2), (129, .iconst 0, 1), (130, .iastore, 1), (131, .aload_n 0, 1)] : List (Nat × Instr × Nat)).all fun e => decide (decode cX12_readsBase e.1 = .ok e.2)) = true := by decide +kernel
theorem dX12_readsBase_93 : decode cX12_readsBase 93 = .ok (.aload_n 0, 1) := z_dk tdX12_readsBase_93 0 rfl
theorem dX12_readsBase_94 : decode cX12_readsBase 94 = .ok (.getfield 176, 3) := z_dk tdX12_readsBase_93 1 rfl
theorem dX12_readsBase_97 : decode cX12_readsBase 97 = .ok (.invokevirtual 195, 3) := z_dk tdX12_readsBase_93 2 rfl
theorem dX12_readsBase_100 : decode cX12_readsBase 100 = .ok (.aload_n 0, 1) := z_dk tdX12_readsBase_93 3 rfl
theorem dX12_readsBase_101 : decode cX12_readsBase 101 = .ok (.invokevirtual 199, 3) := z_dk tdX12_readsBase_93 4 rfl
theorem dX12_readsBase_104 : decode cX12_readsBase 104 = .ok (.ifCond .ne 4, 3) := z_dk tdX12_readsBase_93 5 rfl
theorem dX12_readsBase_107 : decode cX12_readsBase 107 = .ok (.return_, 1) := z_dk tdX12_readsBase_93 6 rfl
theorem dX12_readsBase_108 : decode cX12_readsBase 108 = .ok (.aload_n 0, 1) := z_dk tdX12_readsBase_93 7 rfl
theorem dX12_readsBase_109 : decode cX12_readsBase 109 = .ok (.getfield 46, 3) := z_dk tdX12_readsBase_93 8 rfl
theorem dX12_readsBase_112 : decode cX12_readsBase 112 = .ok (.bipush 13, 2) := z_dk tdX12_readsBase_93 9 rfl
theorem dX12_readsBase_114 : decode cX12_readsBase 114 = .ok (.aaload, 1) := z_dk tdX12_readsBase_93 10 rfl
theorem dX12_readsBase_115 : decode cX12_readsBase 115 = .ok (.iload_n 2, 1) := z_dk tdX12_readsBase_93 11 rfl
theorem dX12_readsBase_116 : decode cX12_readsBase 116 = .ok (.iload_n 1, 1) := z_dk tdX12_readsBase_93 12 rfl
theorem dX12_readsBase_117 : decode cX12_readsBase 117 = .ok (.iastore, 1) := z_dk tdX12_readsBase_93 13 rfl
theorem dX12_readsBase_118 : decode cX12_readsBase 118 = .ok (.aload_n 0, 1) := z_dk tdX12_readsBase_93 14 rfl
theorem dX12_readsBase_119 : decode cX12_readsBase 119 = .ok (.getfield 51, 3) := z_dk tdX12_readsBase_93 15 rfl
theorem dX12_readsBase_122 : decode cX12_readsBase 122 = .ok (.bipush 13, 2) := z_dk tdX12_readsBase_93 16 rfl
theorem dX12_readsBase_124 : decode cX12_readsBase 124 = .ok (.aaload, 1) := z_dk tdX12_readsBase_93 17 rfl
theorem dX12_readsBase_125 : decode cX12_readsBase 125 = .ok (.iload_n 2, 1) := z_dk tdX12_readsBase_93 18 rfl
theorem dX12_readsBase_126 : decode cX12_readsBase 126 = .ok (.aaload, 1) := z_dk tdX12_readsBase_93 19 rfl
theorem dX12_readsBase_127 : decode cX12_readsBase 127 = .ok (.bipush 10, 2) := z_dk tdX12_readsBase_93 20 rfl
theorem dX12_readsBase_129 : decode cX12_readsBase 129 = .ok (.iconst 0, 1) := z_dk tdX12_readsBase_93 21 rfl
theorem dX12_readsBase_130 : decode cX12_readsBase 130 = .ok (.iastore, 1) := z_dk tdX12_readsBase_93 22 rfl
theorem dX12_readsBase_131 : decode cX12_readsBase 131 = .ok (.aload_n 0, 1) := z_dk tdX12_readsBase_93 23 rfl
theorem tdX12_readsBase_132 : (([(132, .getfield 31, 3), (135, .bipush 13, 2), (137, .aaload, 1), (138, .iconst 1, 1), (139, .dup2, 1), (140, .iaload, 1), (141, .iconst 1, 1), (142, .iadd, 1), (143, .iastore, 1), (144, .aload_n 0, 1), (145, .iload_n 2, 1), (146, .iconst 0, 1), (147, .invokevirtual 210, 3), (150, .aload_n 0, 1), (151, .invokevirtual 199, 3), (154, .ifCond .eq 18, 3), (157, .aload_n 0, 1), (158, .invokevirtual 203, 3), (161, .bipush 124, 2), (163, .if_icmp .ne 9, 3), (166, .aload_n 0, 1), (167, .iload_n 2, 1), (168, .iconst 1, 1), (169, .invokevirtual 210, 3)] : List (Nat × Instr × Nat)).all fun e => decide (decode cX12_readsBase e.1 = .ok e.2)) = true := by decide +kernel
theorem dX12_readsBase_132 : decode cX12_readsBase 132 = .ok (.getfield 31, 3) := z_dk tdX12_readsBase_132 0 rfl
theorem dX12_readsBase_135 : decode cX12_readsBase 135 = .ok (.bipush 13, 2) := z_dk tdX12_readsBase_132 1 rfl
theorem dX12_readsBase_137 : decode cX12_readsBase 137 = .ok (.aaload, 1) := z_dk tdX12_readsBase_132 2 rfl
theorem dX12_readsBase_138 : decode cX12_readsBase 138 = .ok (.iconst 1, 1) := z_dk tdX12_readsBase_132 3 rfl
theorem dX12_readsBase_139 : decode cX12_readsBase 139 = .ok (.dup2, 1) := z_dk tdX12_readsBase_132 4 rfl
theorem dX12_readsBase_140 : decode cX12_readsBase 140 = .ok (.iaload, 1) := z_dk tdX12_readsBase_132 5 rfl
theorem dX12_readsBase_141 : decode cX12_readsBase 141 = .ok (.iconst 1, 1) := z_dk tdX12_readsBase_132 6 rfl
theorem dX12_readsBase_142 : decode cX12_readsBase 142 = .ok (.iadd, 1) := z_dk tdX12_readsBase_132 7 rfl
theorem dX12_readsBase_143 : decode cX12_readsBase 143 = .ok (.iastore, 1) := z_dk tdX12_readsBase_132 8 rfl
theorem dX12_readsBase_144 : decode cX12_readsBase 144 = .ok (.aload_n 0, 1) := z_dk tdX12_readsBase_132 9 rfl
theorem dX12_readsBase_145 : decode cX12_readsBase 145 = .ok (.iload_n 2, 1) := z_dk tdX12_readsBase_132 10 rfl
theorem dX12_readsBase_146 : decode cX12_readsBase 146 = .ok (.iconst 0, 1) := z_dk tdX12_readsBase_132 11 rfl
theorem dX12_readsBase_147 : decode cX12_readsBase 147 = .ok (.invokevirtual 210, 3) := z_dk tdX12_readsBase_132 12 rfl
theorem dX12_readsBase_150 : decode cX12_readsBase 150 = .ok (.aload_n 0, 1) := z_dk tdX12_readsBase_132 13 rfl
theorem dX12_readsBase_151 : decode cX12_readsBase 151 = .ok (.invokevirtual 199, 3) := z_dk tdX12_readsBase_132 14 rfl
theorem dX12_readsBase_154 : decode cX12_readsBase 154 = .ok (.ifCond .eq 18, 3) := z_dk tdX12_readsBase_132 15 rfl
theorem dX12_readsBase_157 : decode cX12_readsBase 157 = .ok (.aload_n 0, 1) := z_dk tdX12_readsBase_132 16 rfl
theorem dX12_readsBase_158 : decode cX12_readsBase 158 = .ok (.invokevirtual 203, 3) := z_dk tdX12_readsBase_132 17 rfl
theorem dX12_readsBase_161 : decode cX12_readsBase 161 = .ok (.bipush 124, 2) := z_dk tdX12_readsBase_132 18 rfl
theorem dX12_readsBase_163 : decode cX12_readsBase 163 = .ok (.if_icmp .ne 9, 3) := z_dk tdX12_readsBase_132 19 rfl
theorem dX12_readsBase_166 : decode cX12_readsBase 166 = .ok (.aload_n 0, 1) := z_dk tdX12_readsBase_132 20 rfl
theorem dX12_readsBase_167 : decode cX12_readsBase 167 = .ok (.iload_n 2, 1) := z_dk tdX12_readsBase_132 21 rfl
theorem dX12_readsBase_168 : decode cX12_readsBase 168 = .ok (.iconst 1, 1) := z_dk tdX12_readsBase_132 22 rfl
theorem dX12_readsBase_169 : decode cX12_readsBase 169 = .ok (.invokevirtual 210, 3) := z_dk tdX12_readsBase_132 23 rfl
theorem tdX12_readsBase_172 : (([(172, .return_, 1)] : List (Nat × Instr × Nat)).all fun e => decide (decode cX12_readsBase e.1 = .ok e.2)) = true := by decide +kernel
theorem dX12_readsBase_172 : decode cX12_readsBase 172 = .ok (.return_, 1) := z_dk tdX12_readsBase_172 0 rfl
theorem tdX12_readsGroup_0 : (([(0, .aload_n 0, 1), (1, .bipush 13, 2), (3, .invokevirtual 213, 3), (6, .istore_n 1, 1), (7, .iconst 1, 1), (8, .istore_n 2, 1), (9, .aload_n 0, 1), (10, .dup, 1), (11, .getfield 176, 3), (14, .iconst 1, 1), (15, .iadd, 1), (16, .putfield 176, 3), (19, .aload_n 0, 1), (20, .iload_n 1, 1), (21, .invokevirtual 217, 3), (24, .aload_n 0, 1), (25, .invokevirtual 199, 3), (28, .ifCond .eq 54, 3), (31, .aload_n 0, 1), (32, .invokevirtual 203, 3), (35, .bipush 59, 2), (37, .if_icmp .ne 45, 3), (40, .aload_n 0, 1), (41, .dup, 1)] : List (Nat × Instr × Nat)).all fun e => decide (decode cX12_readsGroup e.1 = .ok e.2)) = true := by decide +kernel
theorem dX12_readsGroup_0 : decode cX12_readsGroup 0 = .ok (.aload_n 0, 1) := z_dk tdX12_readsGroup_0 0 rfl
theorem dX12_readsGroup_1 : decode cX12_readsGroup 1 = .ok (.bipush 13, 2) := z_dk tdX12_readsGroup_0 1 rfl
theorem dX12_readsGroup_3 : decode cX12_readsGroup 3 = .ok (.invokevirtual 213, 3) := z_dk tdX12_readsGroup_0 2 rfl
theorem dX12_readsGroup_6 : decode cX12_readsGroup 6 = .ok (.istore_n 1, 1) := z_dk tdX12_readsGroup_0 3 rfl
theorem dX12_readsGroup_7 : decode cX12_readsGroup 7 = .ok (.iconst 1, 1) := z_dk tdX12_readsGroup_0 4 rfl
theorem dX12_readsGroup_8 : decode cX12_readsGroup 8 = .ok (.istore_n 2, 1) := z_dk tdX12_readsGroup_0 5 rfl
theorem dX12_readsGroup_9 : decode cX12_readsGroup 9 = .ok (.aload_n 0, 1) := z_dk tdX12_readsGroup_0 6 rfl
theorem dX12_readsGroup_10 : decode cX12_readsGroup 10 = .ok (.dup, 1) := z_dk tdX12_readsGroup_0 7 rfl
theorem dX12_readsGroup_11 : decode cX12_readsGroup 11 = .ok (.getfield 176, 3) := z_dk tdX12_readsGroup_0 8 rfl
theorem dX12_readsGroup_14 : decode cX12_readsGroup 14 = .ok (.iconst 1, 1) := z_dk tdX12_readsGroup_0 9 rfl
theorem dX12_readsGroup_15 : decode cX12_readsGroup 15 = .ok (.iadd, 1) := z_dk tdX12_readsGroup_0 10 rfl
theorem dX12_readsGroup_16 : decode cX12_readsGroup 16 = .ok (.putfield 176, 3) := z_dk tdX12_readsGroup_0 11 rfl
theorem dX12_readsGroup_19 : decode cX12_readsGroup 19 = .ok (.aload_n 0, 1) := z_dk tdX12_readsGroup_0 12 rfl
theorem dX12_readsGroup_20 : decode cX12_readsGroup 20 = .ok (.iload_n 1, 1) := z_dk tdX12_readsGroup_0 13 rfl
theorem dX12_readsGroup_21 : decode cX12_readsGroup 21 = .ok (.invokevirtual 217, 3) := z_dk tdX12_readsGroup_0 14 rfl
theorem dX12_readsGroup_24 : decode cX12_readsGroup 24 = .ok (.aload_n 0, 1) := z_dk tdX12_readsGroup_0 15 rfl
theorem dX12_readsGroup_25 : decode cX12_readsGroup 25 = .ok (.invokevirtual 199, 3) := z_dk tdX12_readsGroup_0 16 rfl
theorem dX12_readsGroup_28 : decode cX12_readsGroup 28 = .ok (.ifCond .eq 54, 3) := z_dk tdX12_readsGroup_0 17 rfl
theorem dX12_readsGroup_31 : decode cX12_readsGroup 31 = .ok (.aload_n 0, 1) := z_dk tdX12_readsGroup_0 18 rfl
theorem dX12_readsGroup_32 : decode cX12_readsGroup 32 = .ok (.invokevirtual 203, 3) := z_dk tdX12_readsGroup_0 19 rfl
theorem dX12_readsGroup_35 : decode cX12_readsGroup 35 = .ok (.bipush 59, 2) := z_dk tdX12_readsGroup_0 20 rfl
theorem dX12_readsGroup_37 : decode cX12_readsGroup 37 = .ok (.if_icmp .ne 45, 3) := z_dk tdX12_readsGroup_0 21 rfl
theorem dX12_readsGroup_40 : decode cX12_readsGroup 40 = .ok (.aload_n 0, 1) := z_dk tdX12_readsGroup_0 22 rfl
theorem dX12_readsGroup_41 : decode cX12_readsGroup 41 = .ok (.dup, 1) := z_dk tdX12_readsGroup_0 23 rfl
theorem tdX12_readsGroup_42 : (([(42, .getfield 176, 3), (45, .iconst 1, 1), (46, .iadd, 1), (47, .putfield 176, 3), (50, .iload_n 2, 1), (51, .iconst 4, 1), (52, .if_icmp .ne 12, 3), (55, .aload_n 0, 1), (56, .iconst 1, 1), (57, .aload_n 0, 1), (58, .getfield 176, 3), (61, .invokevirtual 195, 3), (64, .aload_n 0, 1), (65, .invokevirtual 199, 3), (68, .ifCond .eq 8, 3), (71, .aload_n 0, 1), (72, .iload_n 1, 1), (73, .invokevirtual 217, 3), (76, .iinc 2 1, 3), (79, .goto (-55), 3), (82, .aload_n 0, 1), (83, .invokevirtual 199, 3), (86, .ifCond .eq 21, 3), (89, .aload_n 0, 1)] : List (Nat × Instr × Nat)).all fun e => decide (decode cX12_readsGroup e.1 = .ok e.2)) = true := by decide +kernel
theorem dX12_readsGroup_42 : decode cX12_readsGroup 42 = .ok (.getfield 176, 3) := z_dk tdX12_readsGroup_42 0 rfl
theorem dX12_readsGroup_45 : decode cX12_readsGroup 45 = .ok (.iconst 1, 1) := z_dk tdX12_readsGroup_42 1 rfl
theorem dX12_readsGroup_46 : decode cX12_readsGroup 46 = .ok (.iadd, 1) := z_dk tdX12_readsGroup_42 2 rfl
theorem dX12_readsGroup_47 : decode cX12_readsGroup 47 = .ok (.putfield 176, 3) := z_dk tdX12_readsGroup_42 3 rfl
theorem dX12_readsGroup_50 : decode cX12_readsGroup 50 = .ok (.iload_n 2, 1) := z_dk tdX12_readsGroup_42 4 rfl
theorem dX12_readsGroup_51 : decode cX12_readsGroup 51 = .ok (.iconst 4, 1) := z_dk tdX12_readsGroup_42 5 rfl
theorem dX12_readsGroup_52 : decode cX12_readsGroup 52 = .ok (.if_icmp .ne 12, 3) := z_dk tdX12_readsGroup_42 6 rfl
theorem dX12_readsGroup_55 : decode cX12_readsGroup 55 = .ok (.aload_n 0, 1) := z_dk tdX12_readsGroup_42 7 rfl
theorem dX12_readsGroup_56 : decode cX12_readsGroup 56 = .ok (.iconst 1, 1) := z_dk tdX12_readsGroup_42 8 rfl
theorem dX12_readsGroup_57 : decode cX12_readsGroup 57 = .ok (.aload_n 0, 1) := z_dk tdX12_readsGroup_42 9 rfl
theorem dX12_readsGroup_58 : decode cX12_readsGroup 58 = .ok (.getfield 176, 3) := z_dk tdX12_readsGroup_42 10 rfl
theorem dX12_readsGroup_61 : decode cX12_readsGroup 61 = .ok (.invokevirtual 195, 3) := z_dk tdX12_readsGroup_42 11 rfl
theorem dX12_readsGroup_64 : decode cX12_readsGroup 64 = .ok (.aload_n 0, 1) := z_dk tdX12_readsGroup_42 12 rfl
theorem dX12_readsGroup_65 : decode cX12_readsGroup 65 = .ok (.invokevirtual 199, 3) := z_dk tdX12_readsGroup_42 13 rfl
theorem dX12_readsGroup_68 : decode cX12_readsGroup 68 = .ok (.ifCond .eq 8, 3) := z_dk tdX12_readsGroup_42 14 rfl
theorem dX12_readsGroup_71 : decode cX12_readsGroup 71 = .ok (.aload_n 0, 1) := z_dk tdX12_readsGroup_42 15 rfl
theorem dX12_readsGroup_72 : decode cX12_readsGroup 72 = .ok (.iload_n 1, 1) := z_dk tdX12_readsGroup_42 16 rfl
theorem dX12_readsGroup_73 : decode cX12_readsGroup 73 = .ok (.invokevirtual 217, 3) := z_dk tdX12_readsGroup_42 17 rfl
theorem dX12_readsGroup_76 : decode cX12_readsGroup 76 = .ok (.iinc 2 1, 3) := z_dk tdX12_readsGroup_42 18 rfl
theorem dX12_readsGroup_79 : decode cX12_readsGroup 79 = .ok (.goto (-55), 3) := z_dk tdX12_readsGroup_42 19 rfl
theorem dX12_readsGroup_82 : decode cX12_readsGroup 82 = .ok (.aload_n 0, 1) := z_dk tdX12_readsGroup_42 20 rfl
theorem dX12_readsGroup_83 : decode cX12_readsGroup 83 = .ok (.invokevirtual 199, 3) := z_dk tdX12_readsGroup_42 21 rfl
theorem dX12_readsGroup_86 : decode cX12_readsGroup 86 = .ok (.ifCond .eq 21, 3) := z_dk tdX12_readsGroup_42 22 rfl
theorem dX12_readsGroup_89 : decode cX12_readsGroup 89 = .ok (.aload_n 0, 1) := z_dk tdX12_readsGroup_42 23 rfl
theorem tdX12_readsGroup_90 : (([(90, .invokevirtual 203, 3), (93, .bipush 125, 2), (95, .if_icmp .eq 12, 3), (98, .aload_n 0, 1), (99, .iconst 1, 1), (100, .aload_n 0, 1), (101, .getfield 176, 3), (104, .invokevirtual 195, 3), (107, .aload_n 0, 1), (108, .dup, 1), (109, .getfield 176, 3), (112, .iconst 1, 1), (113, .iadd, 1), (114, .putfield 176, 3), (117, .return_, 1)] : List (Nat × Instr × Nat)).all fun e => decide (decode cX12_readsGroup e.1 = .ok e.2)) = true := by decide +kernel
theorem dX12_readsGroup_90 : decode cX12_readsGroup 90 = .ok (.invokevirtual 203, 3) := z_dk tdX12_readsGroup_90 0 rfl
theorem dX12_readsGroup_93 : decode cX12_readsGroup 93 = .ok (.bipush 125, 2) := z_dk tdX12_readsGroup_90 1 rfl
theorem dX12_readsGroup_95 : decode cX12_readsGroup 95 = .ok (.if_icmp .eq 12, 3) := z_dk tdX12_readsGroup_90 2 rfl
theorem dX12_readsGroup_98 : decode cX12_readsGroup 98 = .ok (.aload_n 0, 1) := z_dk tdX12_readsGroup_90 3 rfl
theorem dX12_readsGroup_99 : decode cX12_readsGroup 99 = .ok (.iconst 1, 1) := z_dk tdX12_readsGroup_90 4 rfl
theorem dX12_readsGroup_100 : decode cX12_readsGroup 100 = .ok (.aload_n 0, 1) := z_dk tdX12_readsGroup_90 5 rfl
theorem dX12_readsGroup_101 : decode cX12_readsGroup 101 = .ok (.getfield 176, 3) := z_dk tdX12_readsGroup_90 6 rfl
theorem dX12_readsGroup_104 : decode cX12_readsGroup 104 = .ok (.invokevirtual 195, 3) := z_dk tdX12_readsGroup_90 7 rfl
theorem dX12_readsGroup_107 : decode cX12_readsGroup 107 = .ok (.aload_n 0, 1) := z_dk tdX12_readsGroup_90 8 rfl
theorem dX12_readsGroup_108 : decode cX12_readsGroup 108 = .ok (.dup, 1) := z_dk tdX12_readsGroup_90 9 rfl
theorem dX12_readsGroup_109 : decode cX12_readsGroup 109 = .ok (.getfield 176, 3) := z_dk tdX12_readsGroup_90 10 rfl
theorem dX12_readsGroup_112 : decode cX12_readsGroup 112 = .ok (.iconst 1, 1) := z_dk tdX12_readsGroup_90 11 rfl
theorem dX12_readsGroup_113 : decode cX12_readsGroup 113 = .ok (.iadd, 1) := z_dk tdX12_readsGroup_90 12 rfl
theorem dX12_readsGroup_114 : decode cX12_readsGroup 114 = .ok (.putfield 176, 3) := z_dk tdX12_readsGroup_90 13 rfl
theorem dX12_readsGroup_117 : decode cX12_readsGroup 117 = .ok (.return_, 1) := z_dk tdX12_readsGroup_90 14 rfl
theorem tdX12_groupsOf_0 : (([(0, .aload_n 0, 1), (1, .getfield 31, 3), (4, .iload_n 1, 1), (5, .aaload, 1), (6, .iconst 1, 1), (7, .iaload, 1), (8, .ifCond .ne 7, 3), (11, .iconst 0, 1), (12, .goto 22, 3), (15, .aload_n 0, 1), (16, .getfield 46, 3), (19, .iload_n 1, 1), (20, .aaload, 1), (21, .aload_n 0, 1), (22, .getfield 31, 3), (25, .iload_n 1, 1), (26, .aaload, 1), (27, .iconst 1, 1), (28, .iaload, 1), (29, .iconst 1, 1), (30, .isub, 1), (31, .iaload, 1), (32, .iconst 1, 1), (33, .iadd, 1)] : List (Nat × Instr × Nat)).all fun e => decide (decode cX12_groupsOf e.1 = .ok e.2)) = true := by decide +kernel
theorem dX12_groupsOf_0 : decode cX12_groupsOf 0 = .ok (.aload_n 0, 1) := z_dk tdX12_groupsOf_0 0 rfl
theorem dX12_groupsOf_1 : decode cX12_groupsOf 1 = .ok (.getfield 31, 3) := z_dk tdX12_groupsOf_0 1 rfl
theorem dX12_groupsOf_4 : decode cX12_groupsOf 4 = .ok (.iload_n 1, 1) := z_dk tdX12_groupsOf_0 2 rfl
theorem dX12_groupsOf_5 : decode cX12_groupsOf 5 = .ok (.aaload, 1) := z_dk tdX12_groupsOf_0 3 rfl
theorem dX12_groupsOf_6 : decode cX12_groupsOf 6 = .ok (.iconst 1, 1) := z_dk tdX12_groupsOf_0 4 rfl
theorem dX12_groupsOf_7 : decode cX12_groupsOf 7 = .ok (.iaload, 1) := z_dk tdX12_groupsOf_0 5 rfl
theorem dX12_groupsOf_8 : decode cX12_groupsOf 8 = .ok (.ifCond .ne 7, 3) := z_dk tdX12_groupsOf_0 6 rfl
theorem dX12_groupsOf_11 : decode cX12_groupsOf 11 = .ok (.iconst 0, 1) := z_dk tdX12_groupsOf_0 7 rfl
theorem dX12_groupsOf_12 : decode cX12_groupsOf 12 = .ok (.goto 22, 3) := z_dk tdX12_groupsOf_0 8 rfl
theorem dX12_groupsOf_15 : decode cX12_groupsOf 15 = .ok (.aload_n 0, 1) := z_dk tdX12_groupsOf_0 9 rfl
theorem dX12_groupsOf_16 : decode cX12_groupsOf 16 = .ok (.getfield 46, 3) := z_dk tdX12_groupsOf_0 10 rfl
theorem dX12_groupsOf_19 : decode cX12_groupsOf 19 = .ok (.iload_n 1, 1) := z_dk tdX12_groupsOf_0 11 rfl
theorem dX12_groupsOf_20 : decode cX12_groupsOf 20 = .ok (.aaload, 1) := z_dk tdX12_groupsOf_0 12 rfl
theorem dX12_groupsOf_21 : decode cX12_groupsOf 21 = .ok (.aload_n 0, 1) := z_dk tdX12_groupsOf_0 13 rfl
theorem dX12_groupsOf_22 : decode cX12_groupsOf 22 = .ok (.getfield 31, 3) := z_dk tdX12_groupsOf_0 14 rfl
theorem dX12_groupsOf_25 : decode cX12_groupsOf 25 = .ok (.iload_n 1, 1) := z_dk tdX12_groupsOf_0 15 rfl
theorem dX12_groupsOf_26 : decode cX12_groupsOf 26 = .ok (.aaload, 1) := z_dk tdX12_groupsOf_0 16 rfl
theorem dX12_groupsOf_27 : decode cX12_groupsOf 27 = .ok (.iconst 1, 1) := z_dk tdX12_groupsOf_0 17 rfl
theorem dX12_groupsOf_28 : decode cX12_groupsOf 28 = .ok (.iaload, 1) := z_dk tdX12_groupsOf_0 18 rfl
theorem dX12_groupsOf_29 : decode cX12_groupsOf 29 = .ok (.iconst 1, 1) := z_dk tdX12_groupsOf_0 19 rfl
theorem dX12_groupsOf_30 : decode cX12_groupsOf 30 = .ok (.isub, 1) := z_dk tdX12_groupsOf_0 20 rfl
theorem dX12_groupsOf_31 : decode cX12_groupsOf 31 = .ok (.iaload, 1) := z_dk tdX12_groupsOf_0 21 rfl
theorem dX12_groupsOf_32 : decode cX12_groupsOf 32 = .ok (.iconst 1, 1) := z_dk tdX12_groupsOf_0 22 rfl
theorem dX12_groupsOf_33 : decode cX12_groupsOf 33 = .ok (.iadd, 1) := z_dk tdX12_groupsOf_0 23 rfl
theorem tdX12_groupsOf_34 : (([(34, .ireturn, 1)] : List (Nat × Instr × Nat)).all fun e => decide (decode cX12_groupsOf e.1 = .ok e.2)) = true := by decide +kernel
theorem dX12_groupsOf_34 : decode cX12_groupsOf 34 = .ok (.ireturn, 1) := z_dk tdX12_groupsOf_34 0 rfl
theorem tdX12_readsPart_0 : (([(0, .aload_n 0, 1), (1, .invokevirtual 203, 3), (4, .istore_n 1, 1), (5, .iload_n 1, 1), (6, .invokestatic 221, 3), (9, .istore_n 2, 1), (10, .iload_n 2, 1), (11, .iconst (-1), 1), (12, .if_icmp .eq 12, 3), (15, .aload_n 0, 1)] : List (Nat × Instr × Nat)).all fun e => decide (decode cX12_readsPart e.1 = .ok e.2)) = true := by decide +kernel
theorem dX12_readsPart_0 : decode cX12_readsPart 0 = .ok (.aload_n 0, 1) := z_dk tdX12_readsPart_0 0 rfl
theorem dX12_readsPart_1 : decode cX12_readsPart 1 = .ok (.invokevirtual 203, 3) := z_dk tdX12_readsPart_0 1 rfl
theorem dX12_readsPart_4 : decode cX12_readsPart 4 = .ok (.istore_n 1, 1) := z_dk tdX12_readsPart_0 2 rfl
theorem dX12_readsPart_5 : decode cX12_readsPart 5 = .ok (.iload_n 1, 1) := z_dk tdX12_readsPart_0 3 rfl
theorem dX12_readsPart_6 : decode cX12_readsPart 6 = .ok (.invokestatic 221, 3) := z_dk tdX12_readsPart_0 4 rfl
theorem dX12_readsPart_9 : decode cX12_readsPart 9 = .ok (.istore_n 2, 1) := z_dk tdX12_readsPart_0 5 rfl
theorem dX12_readsPart_10 : decode cX12_readsPart 10 = .ok (.iload_n 2, 1) := z_dk tdX12_readsPart_0 6 rfl
theorem dX12_readsPart_11 : decode cX12_readsPart 11 = .ok (.iconst (-1), 1) := z_dk tdX12_readsPart_0 7 rfl
theorem dX12_readsPart_12 : decode cX12_readsPart 12 = .ok (.if_icmp .eq 12, 3) := z_dk tdX12_readsPart_0 8 rfl
theorem dX12_readsPart_15 : decode cX12_readsPart 15 = .ok (.aload_n 0, 1) := z_dk tdX12_readsPart_0 9 rfl
