theorem tdX12_readsPart_16 : (([(16, .iload_n 2, 1), (17, .iconst (-1), 1), (18, .invokevirtual 207, 3), (21, .goto 73, 3), (24, .iload_n 1, 1), (25, .bipush 42, 2), (27, .if_icmp .eq 9, 3), (30, .iload_n 1, 1), (31, .bipush 95, 2), (33, .if_icmp .ne 39, 3), (36, .aload_n 0, 1), (37, .getfield 31, 3), (40, .bipush 13, 2), (42, .aaload, 1), (43, .iconst 2, 1), (44, .dup2, 1), (45, .iaload, 1), (46, .iload_n 1, 1), (47, .bipush 42, 2), (49, .if_icmp .ne 7, 3), (52, .iconst 1, 1), (53, .goto 4, 3), (56, .iconst 2, 1), (57, .ixor, 1)] : List (Nat × Instr × Nat)).all fun e => decide (decode cX12_readsPart e.1 = .ok e.2)) = true := by decide +kernel
theorem dX12_readsPart_16 : decode cX12_readsPart 16 = .ok (.iload_n 2, 1) := z_dk tdX12_readsPart_16 0 rfl
theorem dX12_readsPart_17 : decode cX12_readsPart 17 = .ok (.iconst (-1), 1) := z_dk tdX12_readsPart_16 1 rfl
theorem dX12_readsPart_18 : decode cX12_readsPart 18 = .ok (.invokevirtual 207, 3) := z_dk tdX12_readsPart_16 2 rfl
theorem dX12_readsPart_21 : decode cX12_readsPart 21 = .ok (.goto 73, 3) := z_dk tdX12_readsPart_16 3 rfl
theorem dX12_readsPart_24 : decode cX12_readsPart 24 = .ok (.iload_n 1, 1) := z_dk tdX12_readsPart_16 4 rfl
theorem dX12_readsPart_25 : decode cX12_readsPart 25 = .ok (.bipush 42, 2) := z_dk tdX12_readsPart_16 5 rfl
theorem dX12_readsPart_27 : decode cX12_readsPart 27 = .ok (.if_icmp .eq 9, 3) := z_dk tdX12_readsPart_16 6 rfl
theorem dX12_readsPart_30 : decode cX12_readsPart 30 = .ok (.iload_n 1, 1) := z_dk tdX12_readsPart_16 7 rfl
theorem dX12_readsPart_31 : decode cX12_readsPart 31 = .ok (.bipush 95, 2) := z_dk tdX12_readsPart_16 8 rfl
theorem dX12_readsPart_33 : decode cX12_readsPart 33 = .ok (.if_icmp .ne 39, 3) := z_dk tdX12_readsPart_16 9 rfl
theorem dX12_readsPart_36 : decode cX12_readsPart 36 = .ok (.aload_n 0, 1) := z_dk tdX12_readsPart_16 10 rfl
theorem dX12_readsPart_37 : decode cX12_readsPart 37 = .ok (.getfield 31, 3) := z_dk tdX12_readsPart_16 11 rfl
theorem dX12_readsPart_40 : decode cX12_readsPart 40 = .ok (.bipush 13, 2) := z_dk tdX12_readsPart_16 12 rfl
theorem dX12_readsPart_42 : decode cX12_readsPart 42 = .ok (.aaload, 1) := z_dk tdX12_readsPart_16 13 rfl
theorem dX12_readsPart_43 : decode cX12_readsPart 43 = .ok (.iconst 2, 1) := z_dk tdX12_readsPart_16 14 rfl
theorem dX12_readsPart_44 : decode cX12_readsPart 44 = .ok (.dup2, 1) := z_dk tdX12_readsPart_16 15 rfl
theorem dX12_readsPart_45 : decode cX12_readsPart 45 = .ok (.iaload, 1) := z_dk tdX12_readsPart_16 16 rfl
theorem dX12_readsPart_46 : decode cX12_readsPart 46 = .ok (.iload_n 1, 1) := z_dk tdX12_readsPart_16 17 rfl
theorem dX12_readsPart_47 : decode cX12_readsPart 47 = .ok (.bipush 42, 2) := z_dk tdX12_readsPart_16 18 rfl
theorem dX12_readsPart_49 : decode cX12_readsPart 49 = .ok (.if_icmp .ne 7, 3) := z_dk tdX12_readsPart_16 19 rfl
theorem dX12_readsPart_52 : decode cX12_readsPart 52 = .ok (.iconst 1, 1) := z_dk tdX12_readsPart_16 20 rfl
theorem dX12_readsPart_53 : decode cX12_readsPart 53 = .ok (.goto 4, 3) := z_dk tdX12_readsPart_16 21 rfl
theorem dX12_readsPart_56 : decode cX12_readsPart 56 = .ok (.iconst 2, 1) := z_dk tdX12_readsPart_16 22 rfl
theorem dX12_readsPart_57 : decode cX12_readsPart 57 = .ok (.ixor, 1) := z_dk tdX12_readsPart_16 23 rfl
theorem tdX12_readsPart_58 : (([(58, .iastore, 1), (59, .aload_n 0, 1), (60, .dup, 1), (61, .getfield 176, 3), (64, .iconst 1, 1), (65, .iadd, 1), (66, .putfield 176, 3), (69, .goto 25, 3), (72, .iload_n 1, 1), (73, .bipush 123, 2), (75, .if_icmp .ne 10, 3), (78, .aload_n 0, 1), (79, .invokevirtual 224, 3), (82, .goto 12, 3), (85, .aload_n 0, 1), (86, .iconst 1, 1), (87, .aload_n 0, 1), (88, .getfield 176, 3), (91, .invokevirtual 195, 3), (94, .return_, 1)] : List (Nat × Instr × Nat)).all fun e => decide (decode cX12_readsPart e.1 = .ok e.2)) = true := by decide +kernel
theorem dX12_readsPart_58 : decode cX12_readsPart 58 = .ok (.iastore, 1) := z_dk tdX12_readsPart_58 0 rfl
theorem dX12_readsPart_59 : decode cX12_readsPart 59 = .ok (.aload_n 0, 1) := z_dk tdX12_readsPart_58 1 rfl
theorem dX12_readsPart_60 : decode cX12_readsPart 60 = .ok (.dup, 1) := z_dk tdX12_readsPart_58 2 rfl
theorem dX12_readsPart_61 : decode cX12_readsPart 61 = .ok (.getfield 176, 3) := z_dk tdX12_readsPart_58 3 rfl
theorem dX12_readsPart_64 : decode cX12_readsPart 64 = .ok (.iconst 1, 1) := z_dk tdX12_readsPart_58 4 rfl
theorem dX12_readsPart_65 : decode cX12_readsPart 65 = .ok (.iadd, 1) := z_dk tdX12_readsPart_58 5 rfl
theorem dX12_readsPart_66 : decode cX12_readsPart 66 = .ok (.putfield 176, 3) := z_dk tdX12_readsPart_58 6 rfl
theorem dX12_readsPart_69 : decode cX12_readsPart 69 = .ok (.goto 25, 3) := z_dk tdX12_readsPart_58 7 rfl
theorem dX12_readsPart_72 : decode cX12_readsPart 72 = .ok (.iload_n 1, 1) := z_dk tdX12_readsPart_58 8 rfl
theorem dX12_readsPart_73 : decode cX12_readsPart 73 = .ok (.bipush 123, 2) := z_dk tdX12_readsPart_58 9 rfl
theorem dX12_readsPart_75 : decode cX12_readsPart 75 = .ok (.if_icmp .ne 10, 3) := z_dk tdX12_readsPart_58 10 rfl
theorem dX12_readsPart_78 : decode cX12_readsPart 78 = .ok (.aload_n 0, 1) := z_dk tdX12_readsPart_58 11 rfl
theorem dX12_readsPart_79 : decode cX12_readsPart 79 = .ok (.invokevirtual 224, 3) := z_dk tdX12_readsPart_58 12 rfl
theorem dX12_readsPart_82 : decode cX12_readsPart 82 = .ok (.goto 12, 3) := z_dk tdX12_readsPart_58 13 rfl
theorem dX12_readsPart_85 : decode cX12_readsPart 85 = .ok (.aload_n 0, 1) := z_dk tdX12_readsPart_58 14 rfl
theorem dX12_readsPart_86 : decode cX12_readsPart 86 = .ok (.iconst 1, 1) := z_dk tdX12_readsPart_58 15 rfl
theorem dX12_readsPart_87 : decode cX12_readsPart 87 = .ok (.aload_n 0, 1) := z_dk tdX12_readsPart_58 16 rfl
theorem dX12_readsPart_88 : decode cX12_readsPart 88 = .ok (.getfield 176, 3) := z_dk tdX12_readsPart_58 17 rfl
theorem dX12_readsPart_91 : decode cX12_readsPart 91 = .ok (.invokevirtual 195, 3) := z_dk tdX12_readsPart_58 18 rfl
theorem dX12_readsPart_94 : decode cX12_readsPart 94 = .ok (.return_, 1) := z_dk tdX12_readsPart_58 19 rfl
theorem tdX12_copies_0 : (([(0, .iconst 0, 1), (1, .istore_n 3, 1), (2, .iload_n 3, 1), (3, .iconst 3, 1), (4, .if_icmp .ge 25, 3), (7, .aload_n 0, 1), (8, .getfield 31, 3), (11, .iload_n 2, 1), (12, .aaload, 1), (13, .iload_n 3, 1), (14, .aload_n 0, 1), (15, .getfield 31, 3), (18, .iload_n 1, 1), (19, .aaload, 1), (20, .iload_n 3, 1), (21, .iaload, 1), (22, .iastore, 1), (23, .iinc 3 1, 3), (26, .goto (-24), 3), (29, .iconst 0, 1), (30, .istore_n 3, 1), (31, .iload_n 3, 1), (32, .sipush 200, 3), (35, .if_icmp .ge 139, 3)] : List (Nat × Instr × Nat)).all fun e => decide (decode cX12_copies e.1 = .ok e.2)) = true := by decide +kernel
theorem dX12_copies_0 : decode cX12_copies 0 = .ok (.iconst 0, 1) := z_dk tdX12_copies_0 0 rfl
theorem dX12_copies_1 : decode cX12_copies 1 = .ok (.istore_n 3, 1) := z_dk tdX12_copies_0 1 rfl
theorem dX12_copies_2 : decode cX12_copies 2 = .ok (.iload_n 3, 1) := z_dk tdX12_copies_0 2 rfl
theorem dX12_copies_3 : decode cX12_copies 3 = .ok (.iconst 3, 1) := z_dk tdX12_copies_0 3 rfl
theorem dX12_copies_4 : decode cX12_copies 4 = .ok (.if_icmp .ge 25, 3) := z_dk tdX12_copies_0 4 rfl
theorem dX12_copies_7 : decode cX12_copies 7 = .ok (.aload_n 0, 1) := z_dk tdX12_copies_0 5 rfl
theorem dX12_copies_8 : decode cX12_copies 8 = .ok (.getfield 31, 3) := z_dk tdX12_copies_0 6 rfl
theorem dX12_copies_11 : decode cX12_copies 11 = .ok (.iload_n 2, 1) := z_dk tdX12_copies_0 7 rfl
theorem dX12_copies_12 : decode cX12_copies 12 = .ok (.aaload, 1) := z_dk tdX12_copies_0 8 rfl
theorem dX12_copies_13 : decode cX12_copies 13 = .ok (.iload_n 3, 1) := z_dk tdX12_copies_0 9 rfl
theorem dX12_copies_14 : decode cX12_copies 14 = .ok (.aload_n 0, 1) := z_dk tdX12_copies_0 10 rfl
theorem dX12_copies_15 : decode cX12_copies 15 = .ok (.getfield 31, 3) := z_dk tdX12_copies_0 11 rfl
theorem dX12_copies_18 : decode cX12_copies 18 = .ok (.iload_n 1, 1) := z_dk tdX12_copies_0 12 rfl
theorem dX12_copies_19 : decode cX12_copies 19 = .ok (.aaload, 1) := z_dk tdX12_copies_0 13 rfl
theorem dX12_copies_20 : decode cX12_copies 20 = .ok (.iload_n 3, 1) := z_dk tdX12_copies_0 14 rfl
theorem dX12_copies_21 : decode cX12_copies 21 = .ok (.iaload, 1) := z_dk tdX12_copies_0 15 rfl
theorem dX12_copies_22 : decode cX12_copies 22 = .ok (.iastore, 1) := z_dk tdX12_copies_0 16 rfl
theorem dX12_copies_23 : decode cX12_copies 23 = .ok (.iinc 3 1, 3) := z_dk tdX12_copies_0 17 rfl
theorem dX12_copies_26 : decode cX12_copies 26 = .ok (.goto (-24), 3) := z_dk tdX12_copies_0 18 rfl
theorem dX12_copies_29 : decode cX12_copies 29 = .ok (.iconst 0, 1) := z_dk tdX12_copies_0 19 rfl
theorem dX12_copies_30 : decode cX12_copies 30 = .ok (.istore_n 3, 1) := z_dk tdX12_copies_0 20 rfl
theorem dX12_copies_31 : decode cX12_copies 31 = .ok (.iload_n 3, 1) := z_dk tdX12_copies_0 21 rfl
theorem dX12_copies_32 : decode cX12_copies 32 = .ok (.sipush 200, 3) := z_dk tdX12_copies_0 22 rfl
theorem dX12_copies_35 : decode cX12_copies 35 = .ok (.if_icmp .ge 139, 3) := z_dk tdX12_copies_0 23 rfl
theorem tdX12_copies_38 : (([(38, .aload_n 0, 1), (39, .getfield 34, 3), (42, .iload_n 2, 1), (43, .aaload, 1), (44, .iload_n 3, 1), (45, .aload_n 0, 1), (46, .getfield 34, 3), (49, .iload_n 1, 1), (50, .aaload, 1), (51, .iload_n 3, 1), (52, .iaload, 1), (53, .iastore, 1), (54, .aload_n 0, 1), (55, .getfield 37, 3), (58, .iload_n 2, 1), (59, .aaload, 1), (60, .iload_n 3, 1), (61, .aload_n 0, 1), (62, .getfield 37, 3), (65, .iload_n 1, 1), (66, .aaload, 1), (67, .iload_n 3, 1), (68, .iaload, 1), (69, .iastore, 1)] : List (Nat × Instr × Nat)).all fun e => decide (decode cX12_copies e.1 = .ok e.2)) = true := by decide +kernel
theorem dX12_copies_38 : decode cX12_copies 38 = .ok (.aload_n 0, 1) := z_dk tdX12_copies_38 0 rfl
theorem dX12_copies_39 : decode cX12_copies 39 = .ok (.getfield 34, 3) := z_dk tdX12_copies_38 1 rfl
theorem dX12_copies_42 : decode cX12_copies 42 = .ok (.iload_n 2, 1) := z_dk tdX12_copies_38 2 rfl
theorem dX12_copies_43 : decode cX12_copies 43 = .ok (.aaload, 1) := z_dk tdX12_copies_38 3 rfl
theorem dX12_copies_44 : decode cX12_copies 44 = .ok (.iload_n 3, 1) := z_dk tdX12_copies_38 4 rfl
theorem dX12_copies_45 : decode cX12_copies 45 = .ok (.aload_n 0, 1) := z_dk tdX12_copies_38 5 rfl
theorem dX12_copies_46 : decode cX12_copies 46 = .ok (.getfield 34, 3) := z_dk tdX12_copies_38 6 rfl
theorem dX12_copies_49 : decode cX12_copies 49 = .ok (.iload_n 1, 1) := z_dk tdX12_copies_38 7 rfl
theorem dX12_copies_50 : decode cX12_copies 50 = .ok (.aaload, 1) := z_dk tdX12_copies_38 8 rfl
theorem dX12_copies_51 : decode cX12_copies 51 = .ok (.iload_n 3, 1) := z_dk tdX12_copies_38 9 rfl
theorem dX12_copies_52 : decode cX12_copies 52 = .ok (.iaload, 1) := z_dk tdX12_copies_38 10 rfl
theorem dX12_copies_53 : decode cX12_copies 53 = .ok (.iastore, 1) := z_dk tdX12_copies_38 11 rfl
theorem dX12_copies_54 : decode cX12_copies 54 = .ok (.aload_n 0, 1) := z_dk tdX12_copies_38 12 rfl
theorem dX12_copies_55 : decode cX12_copies 55 = .ok (.getfield 37, 3) := z_dk tdX12_copies_38 13 rfl
theorem dX12_copies_58 : decode cX12_copies 58 = .ok (.iload_n 2, 1) := z_dk tdX12_copies_38 14 rfl
theorem dX12_copies_59 : decode cX12_copies 59 = .ok (.aaload, 1) := z_dk tdX12_copies_38 15 rfl
theorem dX12_copies_60 : decode cX12_copies 60 = .ok (.iload_n 3, 1) := z_dk tdX12_copies_38 16 rfl
theorem dX12_copies_61 : decode cX12_copies 61 = .ok (.aload_n 0, 1) := z_dk tdX12_copies_38 17 rfl
theorem dX12_copies_62 : decode cX12_copies 62 = .ok (.getfield 37, 3) := z_dk tdX12_copies_38 18 rfl
theorem dX12_copies_65 : decode cX12_copies 65 = .ok (.iload_n 1, 1) := z_dk tdX12_copies_38 19 rfl
theorem dX12_copies_66 : decode cX12_copies 66 = .ok (.aaload, 1) := z_dk tdX12_copies_38 20 rfl
theorem dX12_copies_67 : decode cX12_copies 67 = .ok (.iload_n 3, 1) := z_dk tdX12_copies_38 21 rfl
theorem dX12_copies_68 : decode cX12_copies 68 = .ok (.iaload, 1) := z_dk tdX12_copies_38 22 rfl
theorem dX12_copies_69 : decode cX12_copies 69 = .ok (.iastore, 1) := z_dk tdX12_copies_38 23 rfl
theorem tdX12_copies_70 : (([(70, .aload_n 0, 1), (71, .getfield 40, 3), (74, .iload_n 2, 1), (75, .aaload, 1), (76, .iload_n 3, 1), (77, .aload_n 0, 1), (78, .getfield 40, 3), (81, .iload_n 1, 1), (82, .aaload, 1), (83, .iload_n 3, 1), (84, .iaload, 1), (85, .iastore, 1), (86, .aload_n 0, 1), (87, .getfield 43, 3), (90, .iload_n 2, 1), (91, .aaload, 1), (92, .iload_n 3, 1), (93, .aload_n 0, 1), (94, .getfield 43, 3), (97, .iload_n 1, 1), (98, .aaload, 1), (99, .iload_n 3, 1), (100, .iaload, 1), (101, .iastore, 1)] : List (Nat × Instr × Nat)).all fun e => decide (decode cX12_copies e.1 = .ok e.2)) = true := by decide +kernel
theorem dX12_copies_70 : decode cX12_copies 70 = .ok (.aload_n 0, 1) := z_dk tdX12_copies_70 0 rfl
theorem dX12_copies_71 : decode cX12_copies 71 = .ok (.getfield 40, 3) := z_dk tdX12_copies_70 1 rfl
theorem dX12_copies_74 : decode cX12_copies 74 = .ok (.iload_n 2, 1) := z_dk tdX12_copies_70 2 rfl
theorem dX12_copies_75 : decode cX12_copies 75 = .ok (.aaload, 1) := z_dk tdX12_copies_70 3 rfl
theorem dX12_copies_76 : decode cX12_copies 76 = .ok (.iload_n 3, 1) := z_dk tdX12_copies_70 4 rfl
theorem dX12_copies_77 : decode cX12_copies 77 = .ok (.aload_n 0, 1) := z_dk tdX12_copies_70 5 rfl
theorem dX12_copies_78 : decode cX12_copies 78 = .ok (.getfield 40, 3) := z_dk tdX12_copies_70 6 rfl
theorem dX12_copies_81 : decode cX12_copies 81 = .ok (.iload_n 1, 1) := z_dk tdX12_copies_70 7 rfl
theorem dX12_copies_82 : decode cX12_copies 82 = .ok (.aaload, 1) := z_dk tdX12_copies_70 8 rfl
theorem dX12_copies_83 : decode cX12_copies 83 = .ok (.iload_n 3, 1) := z_dk tdX12_copies_70 9 rfl
theorem dX12_copies_84 : decode cX12_copies 84 = .ok (.iaload, 1) := z_dk tdX12_copies_70 10 rfl
theorem dX12_copies_85 : decode cX12_copies 85 = .ok (.iastore, 1) := z_dk tdX12_copies_70 11 rfl
theorem dX12_copies_86 : decode cX12_copies 86 = .ok (.aload_n 0, 1) := z_dk tdX12_copies_70 12 rfl
theorem dX12_copies_87 : decode cX12_copies 87 = .ok (.getfield 43, 3) := z_dk tdX12_copies_70 13 rfl
theorem dX12_copies_90 : decode cX12_copies 90 = .ok (.iload_n 2, 1) := z_dk tdX12_copies_70 14 rfl
theorem dX12_copies_91 : decode cX12_copies 91 = .ok (.aaload, 1) := z_dk tdX12_copies_70 15 rfl
theorem dX12_copies_92 : decode cX12_copies 92 = .ok (.iload_n 3, 1) := z_dk tdX12_copies_70 16 rfl
theorem dX12_copies_93 : decode cX12_copies 93 = .ok (.aload_n 0, 1) := z_dk tdX12_copies_70 17 rfl
theorem dX12_copies_94 : decode cX12_copies 94 = .ok (.getfield 43, 3) := z_dk tdX12_copies_70 18 rfl
theorem dX12_copies_97 : decode cX12_copies 97 = .ok (.iload_n 1, 1) := z_dk tdX12_copies_70 19 rfl
theorem dX12_copies_98 : decode cX12_copies 98 = .ok (.aaload, 1) := z_dk tdX12_copies_70 20 rfl
theorem dX12_copies_99 : decode cX12_copies 99 = .ok (.iload_n 3, 1) := z_dk tdX12_copies_70 21 rfl
theorem dX12_copies_100 : decode cX12_copies 100 = .ok (.iaload, 1) := z_dk tdX12_copies_70 22 rfl
theorem dX12_copies_101 : decode cX12_copies 101 = .ok (.iastore, 1) := z_dk tdX12_copies_70 23 rfl
theorem tdX12_copies_102 : (([(102, .aload_n 0, 1), (103, .getfield 46, 3), (106, .iload_n 2, 1), (107, .aaload, 1), (108, .iload_n 3, 1), (109, .aload_n 0, 1), (110, .getfield 46, 3), (113, .iload_n 1, 1), (114, .aaload, 1), (115, .iload_n 3, 1), (116, .iaload, 1), (117, .iastore, 1), (118, .iconst 0, 1), (119, .istore 4, 2), (121, .iload 4, 2), (123, .bipush 20, 2), (125, .if_icmp .ge 43, 3), (128, .iload_n 3, 1), (129, .aload_n 0, 1), (130, .getfield 31, 3), (133, .iload_n 1, 1), (134, .aaload, 1), (135, .iconst 1, 1), (136, .iaload, 1)] : List (Nat × Instr × Nat)).all fun e => decide (decode cX12_copies e.1 = .ok e.2)) = true := by decide +kernel
theorem dX12_copies_102 : decode cX12_copies 102 = .ok (.aload_n 0, 1) := z_dk tdX12_copies_102 0 rfl
theorem dX12_copies_103 : decode cX12_copies 103 = .ok (.getfield 46, 3) := z_dk tdX12_copies_102 1 rfl
theorem dX12_copies_106 : decode cX12_copies 106 = .ok (.iload_n 2, 1) := z_dk tdX12_copies_102 2 rfl
theorem dX12_copies_107 : decode cX12_copies 107 = .ok (.aaload, 1) := z_dk tdX12_copies_102 3 rfl
theorem dX12_copies_108 : decode cX12_copies 108 = .ok (.iload_n 3, 1) := z_dk tdX12_copies_102 4 rfl
theorem dX12_copies_109 : decode cX12_copies 109 = .ok (.aload_n 0, 1) := z_dk tdX12_copies_102 5 rfl
theorem dX12_copies_110 : decode cX12_copies 110 = .ok (.getfield 46, 3) := z_dk tdX12_copies_102 6 rfl
theorem dX12_copies_113 : decode cX12_copies 113 = .ok (.iload_n 1, 1) := z_dk tdX12_copies_102 7 rfl
theorem dX12_copies_114 : decode cX12_copies 114 = .ok (.aaload, 1) := z_dk tdX12_copies_102 8 rfl
theorem dX12_copies_115 : decode cX12_copies 115 = .ok (.iload_n 3, 1) := z_dk tdX12_copies_102 9 rfl
theorem dX12_copies_116 : decode cX12_copies 116 = .ok (.iaload, 1) := z_dk tdX12_copies_102 10 rfl
theorem dX12_copies_117 : decode cX12_copies 117 = .ok (.iastore, 1) := z_dk tdX12_copies_102 11 rfl
theorem dX12_copies_118 : decode cX12_copies 118 = .ok (.iconst 0, 1) := z_dk tdX12_copies_102 12 rfl
theorem dX12_copies_119 : decode cX12_copies 119 = .ok (.istore 4, 2) := z_dk tdX12_copies_102 13 rfl
theorem dX12_copies_121 : decode cX12_copies 121 = .ok (.iload 4, 2) := z_dk tdX12_copies_102 14 rfl
theorem dX12_copies_123 : decode cX12_copies 123 = .ok (.bipush 20, 2) := z_dk tdX12_copies_102 15 rfl
theorem dX12_copies_125 : decode cX12_copies 125 = .ok (.if_icmp .ge 43, 3) := z_dk tdX12_copies_102 16 rfl
theorem dX12_copies_128 : decode cX12_copies 128 = .ok (.iload_n 3, 1) := z_dk tdX12_copies_102 17 rfl
theorem dX12_copies_129 : decode cX12_copies 129 = .ok (.aload_n 0, 1) := z_dk tdX12_copies_102 18 rfl
theorem dX12_copies_130 : decode cX12_copies 130 = .ok (.getfield 31, 3) := z_dk tdX12_copies_102 19 rfl
theorem dX12_copies_133 : decode cX12_copies 133 = .ok (.iload_n 1, 1) := z_dk tdX12_copies_102 20 rfl
theorem dX12_copies_134 : decode cX12_copies 134 = .ok (.aaload, 1) := z_dk tdX12_copies_102 21 rfl
theorem dX12_copies_135 : decode cX12_copies 135 = .ok (.iconst 1, 1) := z_dk tdX12_copies_102 22 rfl
theorem dX12_copies_136 : decode cX12_copies 136 = .ok (.iaload, 1) := z_dk tdX12_copies_102 23 rfl
theorem tdX12_copies_137 : (([(137, .if_icmp .ge 31, 3), (140, .aload_n 0, 1), (141, .getfield 51, 3), (144, .iload_n 2, 1), (145, .aaload, 1), (146, .iload_n 3, 1), (147, .aaload, 1), (148, .iload 4, 2), (150, .aload_n 0, 1), (151, .getfield 51, 3), (154, .iload_n 1, 1), (155, .aaload, 1), (156, .iload_n 3, 1), (157, .aaload, 1), (158, .iload 4, 2), (160, .iaload, 1), (161, .iastore, 1), (162, .iinc 4 1, 3), (165, .goto (-44), 3), (168, .iinc 3 1, 3), (171, .goto (-140), 3), (174, .return_, 1)] : List (Nat × Instr × Nat)).all fun e => decide (decode cX12_copies e.1 = .ok e.2)) = true := by decide +kernel
theorem dX12_copies_137 : decode cX12_copies 137 = .ok (.if_icmp .ge 31, 3) := z_dk tdX12_copies_137 0 rfl
theorem dX12_copies_140 : decode cX12_copies 140 = .ok (.aload_n 0, 1) := z_dk tdX12_copies_137 1 rfl
theorem dX12_copies_141 : decode cX12_copies 141 = .ok (.getfield 51, 3) := z_dk tdX12_copies_137 2 rfl
theorem dX12_copies_144 : decode cX12_copies 144 = .ok (.iload_n 2, 1) := z_dk tdX12_copies_137 3 rfl
theorem dX12_copies_145 : decode cX12_copies 145 = .ok (.aaload, 1) := z_dk tdX12_copies_137 4 rfl
theorem dX12_copies_146 : decode cX12_copies 146 = .ok (.iload_n 3, 1) := z_dk tdX12_copies_137 5 rfl
theorem dX12_copies_147 : decode cX12_copies 147 = .ok (.aaload, 1) := z_dk tdX12_copies_137 6 rfl
theorem dX12_copies_148 : decode cX12_copies 148 = .ok (.iload 4, 2) := z_dk tdX12_copies_137 7 rfl
theorem dX12_copies_150 : decode cX12_copies 150 = .ok (.aload_n 0, 1) := z_dk tdX12_copies_137 8 rfl
theorem dX12_copies_151 : decode cX12_copies 151 = .ok (.getfield 51, 3) := z_dk tdX12_copies_137 9 rfl
theorem dX12_copies_154 : decode cX12_copies 154 = .ok (.iload_n 1, 1) := z_dk tdX12_copies_137 10 rfl
theorem dX12_copies_155 : decode cX12_copies 155 = .ok (.aaload, 1) := z_dk tdX12_copies_137 11 rfl
theorem dX12_copies_156 : decode cX12_copies 156 = .ok (.iload_n 3, 1) := z_dk tdX12_copies_137 12 rfl
theorem dX12_copies_157 : decode cX12_copies 157 = .ok (.aaload, 1) := z_dk tdX12_copies_137 13 rfl
theorem dX12_copies_158 : decode cX12_copies 158 = .ok (.iload 4, 2) := z_dk tdX12_copies_137 14 rfl
theorem dX12_copies_160 : decode cX12_copies 160 = .ok (.iaload, 1) := z_dk tdX12_copies_137 15 rfl
theorem dX12_copies_161 : decode cX12_copies 161 = .ok (.iastore, 1) := z_dk tdX12_copies_137 16 rfl
theorem dX12_copies_162 : decode cX12_copies 162 = .ok (.iinc 4 1, 3) := z_dk tdX12_copies_137 17 rfl
theorem dX12_copies_165 : decode cX12_copies 165 = .ok (.goto (-44), 3) := z_dk tdX12_copies_137 18 rfl
theorem dX12_copies_168 : decode cX12_copies 168 = .ok (.iinc 3 1, 3) := z_dk tdX12_copies_137 19 rfl
theorem dX12_copies_171 : decode cX12_copies 171 = .ok (.goto (-140), 3) := z_dk tdX12_copies_137 20 rfl
theorem dX12_copies_174 : decode cX12_copies 174 = .ok (.return_, 1) := z_dk tdX12_copies_137 21 rfl
theorem tdX12_stands_0 : (([(0, .aload_n 0, 1), (1, .getfield 227, 3), (4, .bipush 12, 2), (6, .if_icmp .ne 35, 3), (9, .iconst 2, 1), (10, .istore_n 1, 1), (11, .iload_n 1, 1), (12, .bipush 12, 2), (14, .if_icmp .gt 17, 3), (17, .aload_n 0, 1), (18, .iload_n 1, 1), (19, .iload_n 1, 1), (20, .iconst 1, 1), (21, .isub, 1), (22, .invokevirtual 230, 3), (25, .iinc 1 1, 3), (28, .goto (-17), 3), (31, .aload_n 0, 1), (32, .dup, 1), (33, .getfield 227, 3), (36, .iconst 1, 1), (37, .isub, 1), (38, .putfield 227, 3), (41, .aload_n 0, 1)] : List (Nat × Instr × Nat)).all fun e => decide (decode cX12_stands e.1 = .ok e.2)) = true := by decide +kernel
theorem dX12_stands_0 : decode cX12_stands 0 = .ok (.aload_n 0, 1) := z_dk tdX12_stands_0 0 rfl
theorem dX12_stands_1 : decode cX12_stands 1 = .ok (.getfield 227, 3) := z_dk tdX12_stands_0 1 rfl
theorem dX12_stands_4 : decode cX12_stands 4 = .ok (.bipush 12, 2) := z_dk tdX12_stands_0 2 rfl
theorem dX12_stands_6 : decode cX12_stands 6 = .ok (.if_icmp .ne 35, 3) := z_dk tdX12_stands_0 3 rfl
theorem dX12_stands_9 : decode cX12_stands 9 = .ok (.iconst 2, 1) := z_dk tdX12_stands_0 4 rfl
theorem dX12_stands_10 : decode cX12_stands 10 = .ok (.istore_n 1, 1) := z_dk tdX12_stands_0 5 rfl
theorem dX12_stands_11 : decode cX12_stands 11 = .ok (.iload_n 1, 1) := z_dk tdX12_stands_0 6 rfl
theorem dX12_stands_12 : decode cX12_stands 12 = .ok (.bipush 12, 2) := z_dk tdX12_stands_0 7 rfl
theorem dX12_stands_14 : decode cX12_stands 14 = .ok (.if_icmp .gt 17, 3) := z_dk tdX12_stands_0 8 rfl
theorem dX12_stands_17 : decode cX12_stands 17 = .ok (.aload_n 0, 1) := z_dk tdX12_stands_0 9 rfl
theorem dX12_stands_18 : decode cX12_stands 18 = .ok (.iload_n 1, 1) := z_dk tdX12_stands_0 10 rfl
theorem dX12_stands_19 : decode cX12_stands 19 = .ok (.iload_n 1, 1) := z_dk tdX12_stands_0 11 rfl
theorem dX12_stands_20 : decode cX12_stands 20 = .ok (.iconst 1, 1) := z_dk tdX12_stands_0 12 rfl
theorem dX12_stands_21 : decode cX12_stands 21 = .ok (.isub, 1) := z_dk tdX12_stands_0 13 rfl
theorem dX12_stands_22 : decode cX12_stands 22 = .ok (.invokevirtual 230, 3) := z_dk tdX12_stands_0 14 rfl
theorem dX12_stands_25 : decode cX12_stands 25 = .ok (.iinc 1 1, 3) := z_dk tdX12_stands_0 15 rfl
theorem dX12_stands_28 : decode cX12_stands 28 = .ok (.goto (-17), 3) := z_dk tdX12_stands_0 16 rfl
theorem dX12_stands_31 : decode cX12_stands 31 = .ok (.aload_n 0, 1) := z_dk tdX12_stands_0 17 rfl
theorem dX12_stands_32 : decode cX12_stands 32 = .ok (.dup, 1) := z_dk tdX12_stands_0 18 rfl
theorem dX12_stands_33 : decode cX12_stands 33 = .ok (.getfield 227, 3) := z_dk tdX12_stands_0 19 rfl
theorem dX12_stands_36 : decode cX12_stands 36 = .ok (.iconst 1, 1) := z_dk tdX12_stands_0 20 rfl
theorem dX12_stands_37 : decode cX12_stands 37 = .ok (.isub, 1) := z_dk tdX12_stands_0 21 rfl
theorem dX12_stands_38 : decode cX12_stands 38 = .ok (.putfield 227, 3) := z_dk tdX12_stands_0 22 rfl
theorem dX12_stands_41 : decode cX12_stands 41 = .ok (.aload_n 0, 1) := z_dk tdX12_stands_0 23 rfl
theorem tdX12_stands_42 : (([(42, .dup, 1), (43, .getfield 227, 3), (46, .iconst 1, 1), (47, .iadd, 1), (48, .putfield 227, 3), (51, .aload_n 0, 1), (52, .iconst 0, 1), (53, .aload_n 0, 1), (54, .getfield 227, 3), (57, .invokevirtual 230, 3), (60, .aload_n 0, 1), (61, .bipush 13, 2), (63, .iconst 0, 1), (64, .invokevirtual 230, 3), (67, .aload_n 0, 1), (68, .invokevirtual 233, 3), (71, .return_, 1)] : List (Nat × Instr × Nat)).all fun e => decide (decode cX12_stands e.1 = .ok e.2)) = true := by decide +kernel
theorem dX12_stands_42 : decode cX12_stands 42 = .ok (.dup, 1) := z_dk tdX12_stands_42 0 rfl
theorem dX12_stands_43 : decode cX12_stands 43 = .ok (.getfield 227, 3) := z_dk tdX12_stands_42 1 rfl
theorem dX12_stands_46 : decode cX12_stands 46 = .ok (.iconst 1, 1) := z_dk tdX12_stands_42 2 rfl
theorem dX12_stands_47 : decode cX12_stands 47 = .ok (.iadd, 1) := z_dk tdX12_stands_42 3 rfl
theorem dX12_stands_48 : decode cX12_stands 48 = .ok (.putfield 227, 3) := z_dk tdX12_stands_42 4 rfl
theorem dX12_stands_51 : decode cX12_stands 51 = .ok (.aload_n 0, 1) := z_dk tdX12_stands_42 5 rfl
theorem dX12_stands_52 : decode cX12_stands 52 = .ok (.iconst 0, 1) := z_dk tdX12_stands_42 6 rfl
theorem dX12_stands_53 : decode cX12_stands 53 = .ok (.aload_n 0, 1) := z_dk tdX12_stands_42 7 rfl
theorem dX12_stands_54 : decode cX12_stands 54 = .ok (.getfield 227, 3) := z_dk tdX12_stands_42 8 rfl
theorem dX12_stands_57 : decode cX12_stands 57 = .ok (.invokevirtual 230, 3) := z_dk tdX12_stands_42 9 rfl
theorem dX12_stands_60 : decode cX12_stands 60 = .ok (.aload_n 0, 1) := z_dk tdX12_stands_42 10 rfl
theorem dX12_stands_61 : decode cX12_stands 61 = .ok (.bipush 13, 2) := z_dk tdX12_stands_42 11 rfl
theorem dX12_stands_63 : decode cX12_stands 63 = .ok (.iconst 0, 1) := z_dk tdX12_stands_42 12 rfl
theorem dX12_stands_64 : decode cX12_stands 64 = .ok (.invokevirtual 230, 3) := z_dk tdX12_stands_42 13 rfl
theorem dX12_stands_67 : decode cX12_stands 67 = .ok (.aload_n 0, 1) := z_dk tdX12_stands_42 14 rfl
theorem dX12_stands_68 : decode cX12_stands 68 = .ok (.invokevirtual 233, 3) := z_dk tdX12_stands_42 15 rfl
theorem dX12_stands_71 : decode cX12_stands 71 = .ok (.return_, 1) := z_dk tdX12_stands_42 16 rfl
theorem tdX12_reads_0 : (([(0, .aload_n 0, 1), (1, .iconst 0, 1), (2, .putfield 173, 3), (5, .aload_n 0, 1), (6, .iload_n 1, 1), (7, .putfield 179, 3), (10, .aload_n 0, 1), (11, .iconst 0, 1), (12, .putfield 176, 3), (15, .aload_n 0, 1), (16, .iconst 0, 1), (17, .putfield 182, 3), (20, .aload_n 0, 1), (21, .iconst (-1), 1), (22, .putfield 185, 3), (25, .aload_n 0, 1), (26, .invokevirtual 199, 3), (29, .ifCond .eq 21, 3), (32, .aload_n 0, 1), (33, .getfield 176, 3), (36, .aload_n 0, 1), (37, .getfield 179, 3), (40, .if_icmp .ge 10, 3), (43, .aload_n 0, 1)] : List (Nat × Instr × Nat)).all fun e => decide (decode cX12_reads e.1 = .ok e.2)) = true := by decide +kernel
theorem dX12_reads_0 : decode cX12_reads 0 = .ok (.aload_n 0, 1) := z_dk tdX12_reads_0 0 rfl
theorem dX12_reads_1 : decode cX12_reads 1 = .ok (.iconst 0, 1) := z_dk tdX12_reads_0 1 rfl
theorem dX12_reads_2 : decode cX12_reads 2 = .ok (.putfield 173, 3) := z_dk tdX12_reads_0 2 rfl
theorem dX12_reads_5 : decode cX12_reads 5 = .ok (.aload_n 0, 1) := z_dk tdX12_reads_0 3 rfl
theorem dX12_reads_6 : decode cX12_reads 6 = .ok (.iload_n 1, 1) := z_dk tdX12_reads_0 4 rfl
theorem dX12_reads_7 : decode cX12_reads 7 = .ok (.putfield 179, 3) := z_dk tdX12_reads_0 5 rfl
theorem dX12_reads_10 : decode cX12_reads 10 = .ok (.aload_n 0, 1) := z_dk tdX12_reads_0 6 rfl
theorem dX12_reads_11 : decode cX12_reads 11 = .ok (.iconst 0, 1) := z_dk tdX12_reads_0 7 rfl
theorem dX12_reads_12 : decode cX12_reads 12 = .ok (.putfield 176, 3) := z_dk tdX12_reads_0 8 rfl
theorem dX12_reads_15 : decode cX12_reads 15 = .ok (.aload_n 0, 1) := z_dk tdX12_reads_0 9 rfl
theorem dX12_reads_16 : decode cX12_reads 16 = .ok (.iconst 0, 1) := z_dk tdX12_reads_0 10 rfl
theorem dX12_reads_17 : decode cX12_reads 17 = .ok (.putfield 182, 3) := z_dk tdX12_reads_0 11 rfl
theorem dX12_reads_20 : decode cX12_reads 20 = .ok (.aload_n 0, 1) := z_dk tdX12_reads_0 12 rfl
theorem dX12_reads_21 : decode cX12_reads 21 = .ok (.iconst (-1), 1) := z_dk tdX12_reads_0 13 rfl
theorem dX12_reads_22 : decode cX12_reads 22 = .ok (.putfield 185, 3) := z_dk tdX12_reads_0 14 rfl
theorem dX12_reads_25 : decode cX12_reads 25 = .ok (.aload_n 0, 1) := z_dk tdX12_reads_0 15 rfl
theorem dX12_reads_26 : decode cX12_reads 26 = .ok (.invokevirtual 199, 3) := z_dk tdX12_reads_0 16 rfl
theorem dX12_reads_29 : decode cX12_reads 29 = .ok (.ifCond .eq 21, 3) := z_dk tdX12_reads_0 17 rfl
theorem dX12_reads_32 : decode cX12_reads 32 = .ok (.aload_n 0, 1) := z_dk tdX12_reads_0 18 rfl
theorem dX12_reads_33 : decode cX12_reads 33 = .ok (.getfield 176, 3) := z_dk tdX12_reads_0 19 rfl
theorem dX12_reads_36 : decode cX12_reads 36 = .ok (.aload_n 0, 1) := z_dk tdX12_reads_0 20 rfl
theorem dX12_reads_37 : decode cX12_reads 37 = .ok (.getfield 179, 3) := z_dk tdX12_reads_0 21 rfl
theorem dX12_reads_40 : decode cX12_reads 40 = .ok (.if_icmp .ge 10, 3) := z_dk tdX12_reads_0 22 rfl
theorem dX12_reads_43 : decode cX12_reads 43 = .ok (.aload_n 0, 1) := z_dk tdX12_reads_0 23 rfl
theorem tdX12_reads_44 : (([(44, .invokevirtual 236, 3), (47, .goto (-22), 3), (50, .aload_n 0, 1), (51, .aload_n 0, 1), (52, .getfield 185, 3), (55, .putfield 13, 3), (58, .aload_n 0, 1), (59, .invokevirtual 199, 3), (62, .ifCond .ne 11, 3), (65, .aload_n 0, 1), (66, .getfield 182, 3), (69, .bipush 10, 2), (71, .isub, 1), (72, .ireturn, 1), (73, .aload_n 0, 1), (74, .invokevirtual 239, 3), (77, .aload_n 0, 1), (78, .getfield 242, 3), (81, .ireturn, 1)] : List (Nat × Instr × Nat)).all fun e => decide (decode cX12_reads e.1 = .ok e.2)) = true := by decide +kernel
theorem dX12_reads_44 : decode cX12_reads 44 = .ok (.invokevirtual 236, 3) := z_dk tdX12_reads_44 0 rfl
theorem dX12_reads_47 : decode cX12_reads 47 = .ok (.goto (-22), 3) := z_dk tdX12_reads_44 1 rfl
theorem dX12_reads_50 : decode cX12_reads 50 = .ok (.aload_n 0, 1) := z_dk tdX12_reads_44 2 rfl
theorem dX12_reads_51 : decode cX12_reads 51 = .ok (.aload_n 0, 1) := z_dk tdX12_reads_44 3 rfl
theorem dX12_reads_52 : decode cX12_reads 52 = .ok (.getfield 185, 3) := z_dk tdX12_reads_44 4 rfl
theorem dX12_reads_55 : decode cX12_reads 55 = .ok (.putfield 13, 3) := z_dk tdX12_reads_44 5 rfl
theorem dX12_reads_58 : decode cX12_reads 58 = .ok (.aload_n 0, 1) := z_dk tdX12_reads_44 6 rfl
theorem dX12_reads_59 : decode cX12_reads 59 = .ok (.invokevirtual 199, 3) := z_dk tdX12_reads_44 7 rfl
theorem dX12_reads_62 : decode cX12_reads 62 = .ok (.ifCond .ne 11, 3) := z_dk tdX12_reads_44 8 rfl
theorem dX12_reads_65 : decode cX12_reads 65 = .ok (.aload_n 0, 1) := z_dk tdX12_reads_44 9 rfl
theorem dX12_reads_66 : decode cX12_reads 66 = .ok (.getfield 182, 3) := z_dk tdX12_reads_44 10 rfl
theorem dX12_reads_69 : decode cX12_reads 69 = .ok (.bipush 10, 2) := z_dk tdX12_reads_44 11 rfl
theorem dX12_reads_71 : decode cX12_reads 71 = .ok (.isub, 1) := z_dk tdX12_reads_44 12 rfl
theorem dX12_reads_72 : decode cX12_reads 72 = .ok (.ireturn, 1) := z_dk tdX12_reads_44 13 rfl
theorem dX12_reads_73 : decode cX12_reads 73 = .ok (.aload_n 0, 1) := z_dk tdX12_reads_44 14 rfl
theorem dX12_reads_74 : decode cX12_reads 74 = .ok (.invokevirtual 239, 3) := z_dk tdX12_reads_44 15 rfl
theorem dX12_reads_77 : decode cX12_reads 77 = .ok (.aload_n 0, 1) := z_dk tdX12_reads_44 16 rfl
theorem dX12_reads_78 : decode cX12_reads 78 = .ok (.getfield 242, 3) := z_dk tdX12_reads_44 17 rfl
theorem dX12_reads_81 : decode cX12_reads 81 = .ok (.ireturn, 1) := z_dk tdX12_reads_44 18 rfl
theorem tdX12_text_0 : (([(0, .aload_n 0, 1), (1, .iconst 0, 1), (2, .putfield 170, 3), (5, .aload_n 0, 1), (6, .iload_n 1, 1), (7, .iconst 0, 1), (8, .aload_n 0, 1), (9, .getfield 173, 3), (12, .invokestatic 245, 3), (15, .ifCond .ne 7, 3), (18, .iconst 1, 1), (19, .goto 4, 3), (22, .iconst 0, 1), (23, .iconst 1, 1), (24, .iconst 1, 1), (25, .invokevirtual 249, 3), (28, .ifCond .eq 5, 3), (31, .iconst 0, 1), (32, .ireturn, 1), (33, .iconst 0, 1), (34, .istore_n 2, 1), (35, .iload_n 2, 1), (36, .iconst 3, 1), (37, .if_icmp .ge 19, 3)] : List (Nat × Instr × Nat)).all fun e => decide (decode cX12_text e.1 = .ok e.2)) = true := by decide +kernel
theorem dX12_text_0 : decode cX12_text 0 = .ok (.aload_n 0, 1) := z_dk tdX12_text_0 0 rfl
theorem dX12_text_1 : decode cX12_text 1 = .ok (.iconst 0, 1) := z_dk tdX12_text_0 1 rfl
theorem dX12_text_2 : decode cX12_text 2 = .ok (.putfield 170, 3) := z_dk tdX12_text_0 2 rfl
theorem dX12_text_5 : decode cX12_text 5 = .ok (.aload_n 0, 1) := z_dk tdX12_text_0 3 rfl
theorem dX12_text_6 : decode cX12_text 6 = .ok (.iload_n 1, 1) := z_dk tdX12_text_0 4 rfl
theorem dX12_text_7 : decode cX12_text 7 = .ok (.iconst 0, 1) := z_dk tdX12_text_0 5 rfl
theorem dX12_text_8 : decode cX12_text 8 = .ok (.aload_n 0, 1) := z_dk tdX12_text_0 6 rfl
theorem dX12_text_9 : decode cX12_text 9 = .ok (.getfield 173, 3) := z_dk tdX12_text_0 7 rfl
theorem dX12_text_12 : decode cX12_text 12 = .ok (.invokestatic 245, 3) := z_dk tdX12_text_0 8 rfl
theorem dX12_text_15 : decode cX12_text 15 = .ok (.ifCond .ne 7, 3) := z_dk tdX12_text_0 9 rfl
theorem dX12_text_18 : decode cX12_text 18 = .ok (.iconst 1, 1) := z_dk tdX12_text_0 10 rfl
theorem dX12_text_19 : decode cX12_text 19 = .ok (.goto 4, 3) := z_dk tdX12_text_0 11 rfl
theorem dX12_text_22 : decode cX12_text 22 = .ok (.iconst 0, 1) := z_dk tdX12_text_0 12 rfl
theorem dX12_text_23 : decode cX12_text 23 = .ok (.iconst 1, 1) := z_dk tdX12_text_0 13 rfl
theorem dX12_text_24 : decode cX12_text 24 = .ok (.iconst 1, 1) := z_dk tdX12_text_0 14 rfl
theorem dX12_text_25 : decode cX12_text 25 = .ok (.invokevirtual 249, 3) := z_dk tdX12_text_0 15 rfl
theorem dX12_text_28 : decode cX12_text 28 = .ok (.ifCond .eq 5, 3) := z_dk tdX12_text_0 16 rfl
theorem dX12_text_31 : decode cX12_text 31 = .ok (.iconst 0, 1) := z_dk tdX12_text_0 17 rfl
theorem dX12_text_32 : decode cX12_text 32 = .ok (.ireturn, 1) := z_dk tdX12_text_0 18 rfl
theorem dX12_text_33 : decode cX12_text 33 = .ok (.iconst 0, 1) := z_dk tdX12_text_0 19 rfl
theorem dX12_text_34 : decode cX12_text 34 = .ok (.istore_n 2, 1) := z_dk tdX12_text_0 20 rfl
theorem dX12_text_35 : decode cX12_text 35 = .ok (.iload_n 2, 1) := z_dk tdX12_text_0 21 rfl
theorem dX12_text_36 : decode cX12_text 36 = .ok (.iconst 3, 1) := z_dk tdX12_text_0 22 rfl
theorem dX12_text_37 : decode cX12_text 37 = .ok (.if_icmp .ge 19, 3) := z_dk tdX12_text_0 23 rfl
theorem tdX12_text_40 : (([(40, .aload_n 0, 1), (41, .getfield 31, 3), (44, .bipush 13, 2), (46, .aaload, 1), (47, .iload_n 2, 1), (48, .iconst 0, 1), (49, .iastore, 1), (50, .iinc 2 1, 3), (53, .goto (-18), 3), (56, .aload_n 0, 1), (57, .iload_n 1, 1), (58, .invokevirtual 253, 3), (61, .ireturn, 1)] : List (Nat × Instr × Nat)).all fun e => decide (decode cX12_text e.1 = .ok e.2)) = true := by decide +kernel
theorem dX12_text_40 : decode cX12_text 40 = .ok (.aload_n 0, 1) := z_dk tdX12_text_40 0 rfl
theorem dX12_text_41 : decode cX12_text 41 = .ok (.getfield 31, 3) := z_dk tdX12_text_40 1 rfl
theorem dX12_text_44 : decode cX12_text 44 = .ok (.bipush 13, 2) := z_dk tdX12_text_40 2 rfl
theorem dX12_text_46 : decode cX12_text 46 = .ok (.aaload, 1) := z_dk tdX12_text_40 3 rfl
theorem dX12_text_47 : decode cX12_text 47 = .ok (.iload_n 2, 1) := z_dk tdX12_text_40 4 rfl
theorem dX12_text_48 : decode cX12_text 48 = .ok (.iconst 0, 1) := z_dk tdX12_text_40 5 rfl
theorem dX12_text_49 : decode cX12_text 49 = .ok (.iastore, 1) := z_dk tdX12_text_40 6 rfl
theorem dX12_text_50 : decode cX12_text 50 = .ok (.iinc 2 1, 3) := z_dk tdX12_text_40 7 rfl
theorem dX12_text_53 : decode cX12_text 53 = .ok (.goto (-18), 3) := z_dk tdX12_text_40 8 rfl
theorem dX12_text_56 : decode cX12_text 56 = .ok (.aload_n 0, 1) := z_dk tdX12_text_40 9 rfl
theorem dX12_text_57 : decode cX12_text 57 = .ok (.iload_n 1, 1) := z_dk tdX12_text_40 10 rfl
theorem dX12_text_58 : decode cX12_text 58 = .ok (.invokevirtual 253, 3) := z_dk tdX12_text_40 11 rfl
theorem dX12_text_61 : decode cX12_text 61 = .ok (.ireturn, 1) := z_dk tdX12_text_40 12 rfl
theorem tdX12_more__0 : (([(0, .aload_n 0, 1), (1, .iconst 0, 1), (2, .putfield 170, 3), (5, .aload_n 0, 1), (6, .iload_n 1, 1), (7, .iconst 0, 1), (8, .aload_n 0, 1), (9, .getfield 173, 3), (12, .invokestatic 245, 3), (15, .ifCond .ne 7, 3), (18, .iconst 1, 1), (19, .goto 4, 3), (22, .iconst 0, 1), (23, .iconst 1, 1), (24, .iconst 1, 1), (25, .invokevirtual 249, 3), (28, .ifCond .eq 5, 3), (31, .iconst 0, 1), (32, .ireturn, 1), (33, .aload_n 0, 1), (34, .iconst 0, 1), (35, .bipush 13, 2), (37, .invokevirtual 230, 3), (40, .aload_n 0, 1)] : List (Nat × Instr × Nat)).all fun e => decide (decode cX12_more_ e.1 = .ok e.2)) = true := by decide +kernel
theorem dX12_more__0 : decode cX12_more_ 0 = .ok (.aload_n 0, 1) := z_dk tdX12_more__0 0 rfl
theorem dX12_more__1 : decode cX12_more_ 1 = .ok (.iconst 0, 1) := z_dk tdX12_more__0 1 rfl
theorem dX12_more__2 : decode cX12_more_ 2 = .ok (.putfield 170, 3) := z_dk tdX12_more__0 2 rfl
theorem dX12_more__5 : decode cX12_more_ 5 = .ok (.aload_n 0, 1) := z_dk tdX12_more__0 3 rfl
theorem dX12_more__6 : decode cX12_more_ 6 = .ok (.iload_n 1, 1) := z_dk tdX12_more__0 4 rfl
theorem dX12_more__7 : decode cX12_more_ 7 = .ok (.iconst 0, 1) := z_dk tdX12_more__0 5 rfl
theorem dX12_more__8 : decode cX12_more_ 8 = .ok (.aload_n 0, 1) := z_dk tdX12_more__0 6 rfl
theorem dX12_more__9 : decode cX12_more_ 9 = .ok (.getfield 173, 3) := z_dk tdX12_more__0 7 rfl
theorem dX12_more__12 : decode cX12_more_ 12 = .ok (.invokestatic 245, 3) := z_dk tdX12_more__0 8 rfl
theorem dX12_more__15 : decode cX12_more_ 15 = .ok (.ifCond .ne 7, 3) := z_dk tdX12_more__0 9 rfl
theorem dX12_more__18 : decode cX12_more_ 18 = .ok (.iconst 1, 1) := z_dk tdX12_more__0 10 rfl
theorem dX12_more__19 : decode cX12_more_ 19 = .ok (.goto 4, 3) := z_dk tdX12_more__0 11 rfl
theorem dX12_more__22 : decode cX12_more_ 22 = .ok (.iconst 0, 1) := z_dk tdX12_more__0 12 rfl
theorem dX12_more__23 : decode cX12_more_ 23 = .ok (.iconst 1, 1) := z_dk tdX12_more__0 13 rfl
theorem dX12_more__24 : decode cX12_more_ 24 = .ok (.iconst 1, 1) := z_dk tdX12_more__0 14 rfl
theorem dX12_more__25 : decode cX12_more_ 25 = .ok (.invokevirtual 249, 3) := z_dk tdX12_more__0 15 rfl
theorem dX12_more__28 : decode cX12_more_ 28 = .ok (.ifCond .eq 5, 3) := z_dk tdX12_more__0 16 rfl
theorem dX12_more__31 : decode cX12_more_ 31 = .ok (.iconst 0, 1) := z_dk tdX12_more__0 17 rfl
theorem dX12_more__32 : decode cX12_more_ 32 = .ok (.ireturn, 1) := z_dk tdX12_more__0 18 rfl
theorem dX12_more__33 : decode cX12_more_ 33 = .ok (.aload_n 0, 1) := z_dk tdX12_more__0 19 rfl
theorem dX12_more__34 : decode cX12_more_ 34 = .ok (.iconst 0, 1) := z_dk tdX12_more__0 20 rfl
theorem dX12_more__35 : decode cX12_more_ 35 = .ok (.bipush 13, 2) := z_dk tdX12_more__0 21 rfl
theorem dX12_more__37 : decode cX12_more_ 37 = .ok (.invokevirtual 230, 3) := z_dk tdX12_more__0 22 rfl
theorem dX12_more__40 : decode cX12_more_ 40 = .ok (.aload_n 0, 1) := z_dk tdX12_more__0 23 rfl
theorem tdX12_more__41 : (([(41, .iload_n 1, 1), (42, .invokevirtual 253, 3), (45, .ireturn, 1)] : List (Nat × Instr × Nat)).all fun e => decide (decode cX12_more_ e.1 = .ok e.2)) = true := by decide +kernel
theorem dX12_more__41 : decode cX12_more_ 41 = .ok (.iload_n 1, 1) := z_dk tdX12_more__41 0 rfl
theorem dX12_more__42 : decode cX12_more_ 42 = .ok (.invokevirtual 253, 3) := z_dk tdX12_more__41 1 rfl
theorem dX12_more__45 : decode cX12_more_ 45 = .ok (.ireturn, 1) := z_dk tdX12_more__41 2 rfl
theorem tdX12_fault_0 : (([(0, .aload_n 0, 1), (1, .iconst 0, 1), (2, .putfield 170, 3), (5, .aload_n 0, 1), (6, .getfield 13, 3), (9, .ireturn, 1)] : List (Nat × Instr × Nat)).all fun e => decide (decode cX12_fault e.1 = .ok e.2)) = true := by decide +kernel
theorem dX12_fault_0 : decode cX12_fault 0 = .ok (.aload_n 0, 1) := z_dk tdX12_fault_0 0 rfl
theorem dX12_fault_1 : decode cX12_fault 1 = .ok (.iconst 0, 1) := z_dk tdX12_fault_0 1 rfl
theorem dX12_fault_2 : decode cX12_fault 2 = .ok (.putfield 170, 3) := z_dk tdX12_fault_0 2 rfl
theorem dX12_fault_5 : decode cX12_fault 5 = .ok (.aload_n 0, 1) := z_dk tdX12_fault_0 3 rfl
theorem dX12_fault_6 : decode cX12_fault 6 = .ok (.getfield 13, 3) := z_dk tdX12_fault_0 4 rfl
theorem dX12_fault_9 : decode cX12_fault 9 = .ok (.ireturn, 1) := z_dk tdX12_fault_0 5 rfl
theorem tdX12_undo_0 : (([(0, .aload_n 0, 1), (1, .iconst 0, 1), (2, .putfield 170, 3), (5, .aload_n 0, 1), (6, .getfield 227, 3), (9, .ifCond .ne 5, 3), (12, .iconst (-1), 1), (13, .ireturn, 1), (14, .aload_n 0, 1), (15, .aload_n 0, 1), (16, .getfield 227, 3), (19, .iconst 0, 1), (20, .invokevirtual 230, 3), (23, .aload_n 0, 1), (24, .dup, 1), (25, .getfield 227, 3), (28, .iconst 1, 1), (29, .isub, 1), (30, .putfield 227, 3), (33, .aload_n 0, 1), (34, .invokevirtual 233, 3), (37, .aload_n 0, 1), (38, .getfield 242, 3), (41, .ireturn, 1)] : List (Nat × Instr × Nat)).all fun e => decide (decode cX12_undo e.1 = .ok e.2)) = true := by decide +kernel
theorem dX12_undo_0 : decode cX12_undo 0 = .ok (.aload_n 0, 1) := z_dk tdX12_undo_0 0 rfl
theorem dX12_undo_1 : decode cX12_undo 1 = .ok (.iconst 0, 1) := z_dk tdX12_undo_0 1 rfl
theorem dX12_undo_2 : decode cX12_undo 2 = .ok (.putfield 170, 3) := z_dk tdX12_undo_0 2 rfl
theorem dX12_undo_5 : decode cX12_undo 5 = .ok (.aload_n 0, 1) := z_dk tdX12_undo_0 3 rfl
theorem dX12_undo_6 : decode cX12_undo 6 = .ok (.getfield 227, 3) := z_dk tdX12_undo_0 4 rfl
theorem dX12_undo_9 : decode cX12_undo 9 = .ok (.ifCond .ne 5, 3) := z_dk tdX12_undo_0 5 rfl
theorem dX12_undo_12 : decode cX12_undo 12 = .ok (.iconst (-1), 1) := z_dk tdX12_undo_0 6 rfl
theorem dX12_undo_13 : decode cX12_undo 13 = .ok (.ireturn, 1) := z_dk tdX12_undo_0 7 rfl
theorem dX12_undo_14 : decode cX12_undo 14 = .ok (.aload_n 0, 1) := z_dk tdX12_undo_0 8 rfl
theorem dX12_undo_15 : decode cX12_undo 15 = .ok (.aload_n 0, 1) := z_dk tdX12_undo_0 9 rfl
theorem dX12_undo_16 : decode cX12_undo 16 = .ok (.getfield 227, 3) := z_dk tdX12_undo_0 10 rfl
theorem dX12_undo_19 : decode cX12_undo 19 = .ok (.iconst 0, 1) := z_dk tdX12_undo_0 11 rfl
theorem dX12_undo_20 : decode cX12_undo 20 = .ok (.invokevirtual 230, 3) := z_dk tdX12_undo_0 12 rfl
theorem dX12_undo_23 : decode cX12_undo 23 = .ok (.aload_n 0, 1) := z_dk tdX12_undo_0 13 rfl
theorem dX12_undo_24 : decode cX12_undo 24 = .ok (.dup, 1) := z_dk tdX12_undo_0 14 rfl
theorem dX12_undo_25 : decode cX12_undo 25 = .ok (.getfield 227, 3) := z_dk tdX12_undo_0 15 rfl
theorem dX12_undo_28 : decode cX12_undo 28 = .ok (.iconst 1, 1) := z_dk tdX12_undo_0 16 rfl
theorem dX12_undo_29 : decode cX12_undo 29 = .ok (.isub, 1) := z_dk tdX12_undo_0 17 rfl
theorem dX12_undo_30 : decode cX12_undo 30 = .ok (.putfield 227, 3) := z_dk tdX12_undo_0 18 rfl
theorem dX12_undo_33 : decode cX12_undo 33 = .ok (.aload_n 0, 1) := z_dk tdX12_undo_0 19 rfl
theorem dX12_undo_34 : decode cX12_undo 34 = .ok (.invokevirtual 233, 3) := z_dk tdX12_undo_0 20 rfl
theorem dX12_undo_37 : decode cX12_undo 37 = .ok (.aload_n 0, 1) := z_dk tdX12_undo_0 21 rfl
theorem dX12_undo_38 : decode cX12_undo 38 = .ok (.getfield 242, 3) := z_dk tdX12_undo_0 22 rfl
theorem dX12_undo_41 : decode cX12_undo 41 = .ok (.ireturn, 1) := z_dk tdX12_undo_0 23 rfl
theorem tdX12_set_0 : (([(0, .aload_n 0, 1), (1, .iconst 0, 1), (2, .putfield 170, 3), (5, .iload_n 1, 1), (6, .iconst 0, 1), (7, .invokestatic 256, 3), (10, .bipush 8, 2), (12, .invokestatic 260, 3), (15, .istore_n 3, 1), (16, .aload_n 0, 1), (17, .iload_n 1, 1), (18, .iload_n 3, 1), (19, .if_icmp .ne 22, 3), (22, .iload_n 2, 1), (23, .aload_n 0, 1), (24, .getfield 23, 3), (27, .iload_n 3, 1), (28, .iaload, 1), (29, .aload_n 0, 1), (30, .getfield 26, 3), (33, .iload_n 3, 1), (34, .iaload, 1), (35, .invokestatic 245, 3), (38, .ifCond .ne 7, 3)] : List (Nat × Instr × Nat)).all fun e => decide (decode cX12_set e.1 = .ok e.2)) = true := by decide +kernel
theorem dX12_set_0 : decode cX12_set 0 = .ok (.aload_n 0, 1) := z_dk tdX12_set_0 0 rfl
theorem dX12_set_1 : decode cX12_set 1 = .ok (.iconst 0, 1) := z_dk tdX12_set_0 1 rfl
theorem dX12_set_2 : decode cX12_set 2 = .ok (.putfield 170, 3) := z_dk tdX12_set_0 2 rfl
theorem dX12_set_5 : decode cX12_set 5 = .ok (.iload_n 1, 1) := z_dk tdX12_set_0 3 rfl
theorem dX12_set_6 : decode cX12_set 6 = .ok (.iconst 0, 1) := z_dk tdX12_set_0 4 rfl
theorem dX12_set_7 : decode cX12_set 7 = .ok (.invokestatic 256, 3) := z_dk tdX12_set_0 5 rfl
theorem dX12_set_10 : decode cX12_set 10 = .ok (.bipush 8, 2) := z_dk tdX12_set_0 6 rfl
theorem dX12_set_12 : decode cX12_set 12 = .ok (.invokestatic 260, 3) := z_dk tdX12_set_0 7 rfl
theorem dX12_set_15 : decode cX12_set 15 = .ok (.istore_n 3, 1) := z_dk tdX12_set_0 8 rfl
theorem dX12_set_16 : decode cX12_set 16 = .ok (.aload_n 0, 1) := z_dk tdX12_set_0 9 rfl
theorem dX12_set_17 : decode cX12_set 17 = .ok (.iload_n 1, 1) := z_dk tdX12_set_0 10 rfl
theorem dX12_set_18 : decode cX12_set 18 = .ok (.iload_n 3, 1) := z_dk tdX12_set_0 11 rfl
theorem dX12_set_19 : decode cX12_set 19 = .ok (.if_icmp .ne 22, 3) := z_dk tdX12_set_0 12 rfl
theorem dX12_set_22 : decode cX12_set 22 = .ok (.iload_n 2, 1) := z_dk tdX12_set_0 13 rfl
theorem dX12_set_23 : decode cX12_set 23 = .ok (.aload_n 0, 1) := z_dk tdX12_set_0 14 rfl
theorem dX12_set_24 : decode cX12_set 24 = .ok (.getfield 23, 3) := z_dk tdX12_set_0 15 rfl
theorem dX12_set_27 : decode cX12_set 27 = .ok (.iload_n 3, 1) := z_dk tdX12_set_0 16 rfl
theorem dX12_set_28 : decode cX12_set 28 = .ok (.iaload, 1) := z_dk tdX12_set_0 17 rfl
theorem dX12_set_29 : decode cX12_set 29 = .ok (.aload_n 0, 1) := z_dk tdX12_set_0 18 rfl
theorem dX12_set_30 : decode cX12_set 30 = .ok (.getfield 26, 3) := z_dk tdX12_set_0 19 rfl
theorem dX12_set_33 : decode cX12_set 33 = .ok (.iload_n 3, 1) := z_dk tdX12_set_0 20 rfl
theorem dX12_set_34 : decode cX12_set 34 = .ok (.iaload, 1) := z_dk tdX12_set_0 21 rfl
theorem dX12_set_35 : decode cX12_set 35 = .ok (.invokestatic 245, 3) := z_dk tdX12_set_0 22 rfl
theorem dX12_set_38 : decode cX12_set 38 = .ok (.ifCond .ne 7, 3) := z_dk tdX12_set_0 23 rfl
theorem tdX12_set_41 : (([(41, .iconst 1, 1), (42, .goto 4, 3), (45, .iconst 0, 1), (46, .iconst 1, 1), (47, .iconst 1, 1), (48, .invokevirtual 249, 3), (51, .ifCond .eq 5, 3), (54, .iconst 0, 1), (55, .ireturn, 1), (56, .aload_n 0, 1), (57, .getfield 20, 3), (60, .iload_n 1, 1), (61, .iaload, 1), (62, .istore 4, 2), (64, .aload_n 0, 1), (65, .getfield 20, 3), (68, .iload_n 1, 1), (69, .iload_n 2, 1), (70, .iastore, 1), (71, .aload_n 0, 1), (72, .iconst 0, 1), (73, .putfield 263, 3), (76, .iload 4, 2), (78, .ireturn, 1)] : List (Nat × Instr × Nat)).all fun e => decide (decode cX12_set e.1 = .ok e.2)) = true := by decide +kernel
theorem dX12_set_41 : decode cX12_set 41 = .ok (.iconst 1, 1) := z_dk tdX12_set_41 0 rfl
theorem dX12_set_42 : decode cX12_set 42 = .ok (.goto 4, 3) := z_dk tdX12_set_41 1 rfl
theorem dX12_set_45 : decode cX12_set 45 = .ok (.iconst 0, 1) := z_dk tdX12_set_41 2 rfl
theorem dX12_set_46 : decode cX12_set 46 = .ok (.iconst 1, 1) := z_dk tdX12_set_41 3 rfl
theorem dX12_set_47 : decode cX12_set 47 = .ok (.iconst 1, 1) := z_dk tdX12_set_41 4 rfl
theorem dX12_set_48 : decode cX12_set 48 = .ok (.invokevirtual 249, 3) := z_dk tdX12_set_41 5 rfl
theorem dX12_set_51 : decode cX12_set 51 = .ok (.ifCond .eq 5, 3) := z_dk tdX12_set_41 6 rfl
theorem dX12_set_54 : decode cX12_set 54 = .ok (.iconst 0, 1) := z_dk tdX12_set_41 7 rfl
theorem dX12_set_55 : decode cX12_set 55 = .ok (.ireturn, 1) := z_dk tdX12_set_41 8 rfl
theorem dX12_set_56 : decode cX12_set 56 = .ok (.aload_n 0, 1) := z_dk tdX12_set_41 9 rfl
theorem dX12_set_57 : decode cX12_set 57 = .ok (.getfield 20, 3) := z_dk tdX12_set_41 10 rfl
theorem dX12_set_60 : decode cX12_set 60 = .ok (.iload_n 1, 1) := z_dk tdX12_set_41 11 rfl
theorem dX12_set_61 : decode cX12_set 61 = .ok (.iaload, 1) := z_dk tdX12_set_41 12 rfl
theorem dX12_set_62 : decode cX12_set 62 = .ok (.istore 4, 2) := z_dk tdX12_set_41 13 rfl
theorem dX12_set_64 : decode cX12_set 64 = .ok (.aload_n 0, 1) := z_dk tdX12_set_41 14 rfl
theorem dX12_set_65 : decode cX12_set 65 = .ok (.getfield 20, 3) := z_dk tdX12_set_41 15 rfl
theorem dX12_set_68 : decode cX12_set 68 = .ok (.iload_n 1, 1) := z_dk tdX12_set_41 16 rfl
theorem dX12_set_69 : decode cX12_set 69 = .ok (.iload_n 2, 1) := z_dk tdX12_set_41 17 rfl
theorem dX12_set_70 : decode cX12_set 70 = .ok (.iastore, 1) := z_dk tdX12_set_41 18 rfl
theorem dX12_set_71 : decode cX12_set 71 = .ok (.aload_n 0, 1) := z_dk tdX12_set_41 19 rfl
theorem dX12_set_72 : decode cX12_set 72 = .ok (.iconst 0, 1) := z_dk tdX12_set_41 20 rfl
theorem dX12_set_73 : decode cX12_set 73 = .ok (.putfield 263, 3) := z_dk tdX12_set_41 21 rfl
theorem dX12_set_76 : decode cX12_set 76 = .ok (.iload 4, 2) := z_dk tdX12_set_41 22 rfl
theorem dX12_set_78 : decode cX12_set 78 = .ok (.ireturn, 1) := z_dk tdX12_set_41 23 rfl
theorem tdX12_isOne_0 : (([(0, .aload_n 0, 1), (1, .getfield 37, 3), (4, .iconst 0, 1), (5, .aaload, 1), (6, .iload_n 1, 1), (7, .iaload, 1), (8, .iconst 1, 1), (9, .if_icmp .eq 15, 3), (12, .aload_n 0, 1), (13, .getfield 37, 3), (16, .iconst 0, 1), (17, .aaload, 1), (18, .iload_n 1, 1), (19, .iaload, 1), (20, .iconst 2, 1), (21, .if_icmp .ne 30, 3), (24, .aload_n 0, 1), (25, .getfield 37, 3), (28, .iconst 0, 1), (29, .aaload, 1), (30, .iload_n 1, 1), (31, .iaload, 1), (32, .aload_n 0, 1), (33, .getfield 37, 3)] : List (Nat × Instr × Nat)).all fun e => decide (decode cX12_isOne e.1 = .ok e.2)) = true := by decide +kernel
theorem dX12_isOne_0 : decode cX12_isOne 0 = .ok (.aload_n 0, 1) := z_dk tdX12_isOne_0 0 rfl
theorem dX12_isOne_1 : decode cX12_isOne 1 = .ok (.getfield 37, 3) := z_dk tdX12_isOne_0 1 rfl
theorem dX12_isOne_4 : decode cX12_isOne 4 = .ok (.iconst 0, 1) := z_dk tdX12_isOne_0 2 rfl
theorem dX12_isOne_5 : decode cX12_isOne 5 = .ok (.aaload, 1) := z_dk tdX12_isOne_0 3 rfl
theorem dX12_isOne_6 : decode cX12_isOne 6 = .ok (.iload_n 1, 1) := z_dk tdX12_isOne_0 4 rfl
theorem dX12_isOne_7 : decode cX12_isOne 7 = .ok (.iaload, 1) := z_dk tdX12_isOne_0 5 rfl
theorem dX12_isOne_8 : decode cX12_isOne 8 = .ok (.iconst 1, 1) := z_dk tdX12_isOne_0 6 rfl
theorem dX12_isOne_9 : decode cX12_isOne 9 = .ok (.if_icmp .eq 15, 3) := z_dk tdX12_isOne_0 7 rfl
theorem dX12_isOne_12 : decode cX12_isOne 12 = .ok (.aload_n 0, 1) := z_dk tdX12_isOne_0 8 rfl
theorem dX12_isOne_13 : decode cX12_isOne 13 = .ok (.getfield 37, 3) := z_dk tdX12_isOne_0 9 rfl
theorem dX12_isOne_16 : decode cX12_isOne 16 = .ok (.iconst 0, 1) := z_dk tdX12_isOne_0 10 rfl
theorem dX12_isOne_17 : decode cX12_isOne 17 = .ok (.aaload, 1) := z_dk tdX12_isOne_0 11 rfl
theorem dX12_isOne_18 : decode cX12_isOne 18 = .ok (.iload_n 1, 1) := z_dk tdX12_isOne_0 12 rfl
theorem dX12_isOne_19 : decode cX12_isOne 19 = .ok (.iaload, 1) := z_dk tdX12_isOne_0 13 rfl
theorem dX12_isOne_20 : decode cX12_isOne 20 = .ok (.iconst 2, 1) := z_dk tdX12_isOne_0 14 rfl
theorem dX12_isOne_21 : decode cX12_isOne 21 = .ok (.if_icmp .ne 30, 3) := z_dk tdX12_isOne_0 15 rfl
theorem dX12_isOne_24 : decode cX12_isOne 24 = .ok (.aload_n 0, 1) := z_dk tdX12_isOne_0 16 rfl
theorem dX12_isOne_25 : decode cX12_isOne 25 = .ok (.getfield 37, 3) := z_dk tdX12_isOne_0 17 rfl
theorem dX12_isOne_28 : decode cX12_isOne 28 = .ok (.iconst 0, 1) := z_dk tdX12_isOne_0 18 rfl
theorem dX12_isOne_29 : decode cX12_isOne 29 = .ok (.aaload, 1) := z_dk tdX12_isOne_0 19 rfl
theorem dX12_isOne_30 : decode cX12_isOne 30 = .ok (.iload_n 1, 1) := z_dk tdX12_isOne_0 20 rfl
theorem dX12_isOne_31 : decode cX12_isOne 31 = .ok (.iaload, 1) := z_dk tdX12_isOne_0 21 rfl
theorem dX12_isOne_32 : decode cX12_isOne 32 = .ok (.aload_n 0, 1) := z_dk tdX12_isOne_0 22 rfl
theorem dX12_isOne_33 : decode cX12_isOne 33 = .ok (.getfield 37, 3) := z_dk tdX12_isOne_0 23 rfl
theorem tdX12_isOne_36 : (([(36, .iconst 0, 1), (37, .aaload, 1), (38, .iload_n 1, 1), (39, .iconst 1, 1), (40, .isub, 1), (41, .iaload, 1), (42, .if_icmp .ne 7, 3), (45, .iconst 1, 1), (46, .goto 4, 3), (49, .iconst 0, 1), (50, .ireturn, 1), (51, .aload_n 0, 1), (52, .getfield 37, 3), (55, .iconst 0, 1), (56, .aaload, 1), (57, .iload_n 1, 1), (58, .iaload, 1), (59, .bipush 7, 2), (61, .if_icmp .ne 28, 3), (64, .aload_n 0, 1), (65, .getfield 40, 3), (68, .iconst 0, 1), (69, .aaload, 1), (70, .iload_n 1, 1)] : List (Nat × Instr × Nat)).all fun e => decide (decode cX12_isOne e.1 = .ok e.2)) = true := by decide +kernel
theorem dX12_isOne_36 : decode cX12_isOne 36 = .ok (.iconst 0, 1) := z_dk tdX12_isOne_36 0 rfl
theorem dX12_isOne_37 : decode cX12_isOne 37 = .ok (.aaload, 1) := z_dk tdX12_isOne_36 1 rfl
theorem dX12_isOne_38 : decode cX12_isOne 38 = .ok (.iload_n 1, 1) := z_dk tdX12_isOne_36 2 rfl
theorem dX12_isOne_39 : decode cX12_isOne 39 = .ok (.iconst 1, 1) := z_dk tdX12_isOne_36 3 rfl
theorem dX12_isOne_40 : decode cX12_isOne 40 = .ok (.isub, 1) := z_dk tdX12_isOne_36 4 rfl
theorem dX12_isOne_41 : decode cX12_isOne 41 = .ok (.iaload, 1) := z_dk tdX12_isOne_36 5 rfl
theorem dX12_isOne_42 : decode cX12_isOne 42 = .ok (.if_icmp .ne 7, 3) := z_dk tdX12_isOne_36 6 rfl
theorem dX12_isOne_45 : decode cX12_isOne 45 = .ok (.iconst 1, 1) := z_dk tdX12_isOne_36 7 rfl
theorem dX12_isOne_46 : decode cX12_isOne 46 = .ok (.goto 4, 3) := z_dk tdX12_isOne_36 8 rfl
theorem dX12_isOne_49 : decode cX12_isOne 49 = .ok (.iconst 0, 1) := z_dk tdX12_isOne_36 9 rfl
theorem dX12_isOne_50 : decode cX12_isOne 50 = .ok (.ireturn, 1) := z_dk tdX12_isOne_36 10 rfl
theorem dX12_isOne_51 : decode cX12_isOne 51 = .ok (.aload_n 0, 1) := z_dk tdX12_isOne_36 11 rfl
theorem dX12_isOne_52 : decode cX12_isOne 52 = .ok (.getfield 37, 3) := z_dk tdX12_isOne_36 12 rfl
theorem dX12_isOne_55 : decode cX12_isOne 55 = .ok (.iconst 0, 1) := z_dk tdX12_isOne_36 13 rfl
theorem dX12_isOne_56 : decode cX12_isOne 56 = .ok (.aaload, 1) := z_dk tdX12_isOne_36 14 rfl
theorem dX12_isOne_57 : decode cX12_isOne 57 = .ok (.iload_n 1, 1) := z_dk tdX12_isOne_36 15 rfl
theorem dX12_isOne_58 : decode cX12_isOne 58 = .ok (.iaload, 1) := z_dk tdX12_isOne_36 16 rfl
theorem dX12_isOne_59 : decode cX12_isOne 59 = .ok (.bipush 7, 2) := z_dk tdX12_isOne_36 17 rfl
theorem dX12_isOne_61 : decode cX12_isOne 61 = .ok (.if_icmp .ne 28, 3) := z_dk tdX12_isOne_36 18 rfl
theorem dX12_isOne_64 : decode cX12_isOne 64 = .ok (.aload_n 0, 1) := z_dk tdX12_isOne_36 19 rfl
theorem dX12_isOne_65 : decode cX12_isOne 65 = .ok (.getfield 40, 3) := z_dk tdX12_isOne_36 20 rfl
theorem dX12_isOne_68 : decode cX12_isOne 68 = .ok (.iconst 0, 1) := z_dk tdX12_isOne_36 21 rfl
theorem dX12_isOne_69 : decode cX12_isOne 69 = .ok (.aaload, 1) := z_dk tdX12_isOne_36 22 rfl
theorem dX12_isOne_70 : decode cX12_isOne 70 = .ok (.iload_n 1, 1) := z_dk tdX12_isOne_36 23 rfl
theorem tdX12_isOne_71 : (([(71, .iaload, 1), (72, .aload_n 0, 1), (73, .getfield 40, 3), (76, .iconst 0, 1), (77, .aaload, 1), (78, .iload_n 1, 1), (79, .iconst 1, 1), (80, .isub, 1), (81, .iaload, 1), (82, .if_icmp .ne 7, 3), (85, .iconst 1, 1), (86, .goto 4, 3), (89, .iconst 0, 1), (90, .ireturn, 1)] : List (Nat × Instr × Nat)).all fun e => decide (decode cX12_isOne e.1 = .ok e.2)) = true := by decide +kernel
theorem dX12_isOne_71 : decode cX12_isOne 71 = .ok (.iaload, 1) := z_dk tdX12_isOne_71 0 rfl
theorem dX12_isOne_72 : decode cX12_isOne 72 = .ok (.aload_n 0, 1) := z_dk tdX12_isOne_71 1 rfl
theorem dX12_isOne_73 : decode cX12_isOne 73 = .ok (.getfield 40, 3) := z_dk tdX12_isOne_71 2 rfl
theorem dX12_isOne_76 : decode cX12_isOne 76 = .ok (.iconst 0, 1) := z_dk tdX12_isOne_71 3 rfl
theorem dX12_isOne_77 : decode cX12_isOne 77 = .ok (.aaload, 1) := z_dk tdX12_isOne_71 4 rfl
theorem dX12_isOne_78 : decode cX12_isOne 78 = .ok (.iload_n 1, 1) := z_dk tdX12_isOne_71 5 rfl
theorem dX12_isOne_79 : decode cX12_isOne 79 = .ok (.iconst 1, 1) := z_dk tdX12_isOne_71 6 rfl
theorem dX12_isOne_80 : decode cX12_isOne 80 = .ok (.isub, 1) := z_dk tdX12_isOne_71 7 rfl
theorem dX12_isOne_81 : decode cX12_isOne 81 = .ok (.iaload, 1) := z_dk tdX12_isOne_71 8 rfl
theorem dX12_isOne_82 : decode cX12_isOne 82 = .ok (.if_icmp .ne 7, 3) := z_dk tdX12_isOne_71 9 rfl
theorem dX12_isOne_85 : decode cX12_isOne 85 = .ok (.iconst 1, 1) := z_dk tdX12_isOne_71 10 rfl
theorem dX12_isOne_86 : decode cX12_isOne 86 = .ok (.goto 4, 3) := z_dk tdX12_isOne_71 11 rfl
theorem dX12_isOne_89 : decode cX12_isOne 89 = .ok (.iconst 0, 1) := z_dk tdX12_isOne_71 12 rfl
theorem dX12_isOne_90 : decode cX12_isOne 90 = .ok (.ireturn, 1) := z_dk tdX12_isOne_71 13 rfl
theorem tdX12_laysUnits_0 : (([(0, .aload_n 0, 1), (1, .iconst 0, 1), (2, .putfield 242, 3), (5, .iconst 0, 1), (6, .istore_n 1, 1), (7, .iload_n 1, 1), (8, .aload_n 0, 1), (9, .getfield 31, 3), (12, .iconst 0, 1), (13, .aaload, 1), (14, .iconst 0, 1), (15, .iaload, 1), (16, .if_icmp .ge 95, 3), (19, .iload_n 1, 1), (20, .ifCond .eq 11, 3), (23, .aload_n 0, 1), (24, .iload_n 1, 1), (25, .invokevirtual 267, 3), (28, .ifCond .ne 50, 3), (31, .aload_n 0, 1), (32, .getfield 54, 3), (35, .aload_n 0, 1), (36, .getfield 242, 3), (39, .aload_n 0, 1)] : List (Nat × Instr × Nat)).all fun e => decide (decode cX12_laysUnits e.1 = .ok e.2)) = true := by decide +kernel
theorem dX12_laysUnits_0 : decode cX12_laysUnits 0 = .ok (.aload_n 0, 1) := z_dk tdX12_laysUnits_0 0 rfl
theorem dX12_laysUnits_1 : decode cX12_laysUnits 1 = .ok (.iconst 0, 1) := z_dk tdX12_laysUnits_0 1 rfl
theorem dX12_laysUnits_2 : decode cX12_laysUnits 2 = .ok (.putfield 242, 3) := z_dk tdX12_laysUnits_0 2 rfl
theorem dX12_laysUnits_5 : decode cX12_laysUnits 5 = .ok (.iconst 0, 1) := z_dk tdX12_laysUnits_0 3 rfl
theorem dX12_laysUnits_6 : decode cX12_laysUnits 6 = .ok (.istore_n 1, 1) := z_dk tdX12_laysUnits_0 4 rfl
theorem dX12_laysUnits_7 : decode cX12_laysUnits 7 = .ok (.iload_n 1, 1) := z_dk tdX12_laysUnits_0 5 rfl
theorem dX12_laysUnits_8 : decode cX12_laysUnits 8 = .ok (.aload_n 0, 1) := z_dk tdX12_laysUnits_0 6 rfl
theorem dX12_laysUnits_9 : decode cX12_laysUnits 9 = .ok (.getfield 31, 3) := z_dk tdX12_laysUnits_0 7 rfl
theorem dX12_laysUnits_12 : decode cX12_laysUnits 12 = .ok (.iconst 0, 1) := z_dk tdX12_laysUnits_0 8 rfl
theorem dX12_laysUnits_13 : decode cX12_laysUnits 13 = .ok (.aaload, 1) := z_dk tdX12_laysUnits_0 9 rfl
theorem dX12_laysUnits_14 : decode cX12_laysUnits 14 = .ok (.iconst 0, 1) := z_dk tdX12_laysUnits_0 10 rfl
theorem dX12_laysUnits_15 : decode cX12_laysUnits 15 = .ok (.iaload, 1) := z_dk tdX12_laysUnits_0 11 rfl
theorem dX12_laysUnits_16 : decode cX12_laysUnits 16 = .ok (.if_icmp .ge 95, 3) := z_dk tdX12_laysUnits_0 12 rfl
theorem dX12_laysUnits_19 : decode cX12_laysUnits 19 = .ok (.iload_n 1, 1) := z_dk tdX12_laysUnits_0 13 rfl
theorem dX12_laysUnits_20 : decode cX12_laysUnits 20 = .ok (.ifCond .eq 11, 3) := z_dk tdX12_laysUnits_0 14 rfl
theorem dX12_laysUnits_23 : decode cX12_laysUnits 23 = .ok (.aload_n 0, 1) := z_dk tdX12_laysUnits_0 15 rfl
theorem dX12_laysUnits_24 : decode cX12_laysUnits 24 = .ok (.iload_n 1, 1) := z_dk tdX12_laysUnits_0 16 rfl
theorem dX12_laysUnits_25 : decode cX12_laysUnits 25 = .ok (.invokevirtual 267, 3) := z_dk tdX12_laysUnits_0 17 rfl
theorem dX12_laysUnits_28 : decode cX12_laysUnits 28 = .ok (.ifCond .ne 50, 3) := z_dk tdX12_laysUnits_0 18 rfl
theorem dX12_laysUnits_31 : decode cX12_laysUnits 31 = .ok (.aload_n 0, 1) := z_dk tdX12_laysUnits_0 19 rfl
theorem dX12_laysUnits_32 : decode cX12_laysUnits 32 = .ok (.getfield 54, 3) := z_dk tdX12_laysUnits_0 20 rfl
theorem dX12_laysUnits_35 : decode cX12_laysUnits 35 = .ok (.aload_n 0, 1) := z_dk tdX12_laysUnits_0 21 rfl
theorem dX12_laysUnits_36 : decode cX12_laysUnits 36 = .ok (.getfield 242, 3) := z_dk tdX12_laysUnits_0 22 rfl
theorem dX12_laysUnits_39 : decode cX12_laysUnits 39 = .ok (.aload_n 0, 1) := z_dk tdX12_laysUnits_0 23 rfl
theorem tdX12_laysUnits_40 : (([(40, .getfield 37, 3), (43, .iconst 0, 1), (44, .aaload, 1), (45, .iload_n 1, 1), (46, .iaload, 1), (47, .iastore, 1), (48, .aload_n 0, 1), (49, .getfield 57, 3), (52, .aload_n 0, 1), (53, .getfield 242, 3), (56, .iload_n 1, 1), (57, .iastore, 1), (58, .aload_n 0, 1), (59, .getfield 60, 3), (62, .aload_n 0, 1), (63, .getfield 242, 3), (66, .iconst 0, 1), (67, .iastore, 1), (68, .aload_n 0, 1), (69, .dup, 1), (70, .getfield 242, 3), (73, .iconst 1, 1), (74, .iadd, 1), (75, .putfield 242, 3)] : List (Nat × Instr × Nat)).all fun e => decide (decode cX12_laysUnits e.1 = .ok e.2)) = true := by decide +kernel
theorem dX12_laysUnits_40 : decode cX12_laysUnits 40 = .ok (.getfield 37, 3) := z_dk tdX12_laysUnits_40 0 rfl
theorem dX12_laysUnits_43 : decode cX12_laysUnits 43 = .ok (.iconst 0, 1) := z_dk tdX12_laysUnits_40 1 rfl
theorem dX12_laysUnits_44 : decode cX12_laysUnits 44 = .ok (.aaload, 1) := z_dk tdX12_laysUnits_40 2 rfl
theorem dX12_laysUnits_45 : decode cX12_laysUnits 45 = .ok (.iload_n 1, 1) := z_dk tdX12_laysUnits_40 3 rfl
theorem dX12_laysUnits_46 : decode cX12_laysUnits 46 = .ok (.iaload, 1) := z_dk tdX12_laysUnits_40 4 rfl
theorem dX12_laysUnits_47 : decode cX12_laysUnits 47 = .ok (.iastore, 1) := z_dk tdX12_laysUnits_40 5 rfl
theorem dX12_laysUnits_48 : decode cX12_laysUnits 48 = .ok (.aload_n 0, 1) := z_dk tdX12_laysUnits_40 6 rfl
theorem dX12_laysUnits_49 : decode cX12_laysUnits 49 = .ok (.getfield 57, 3) := z_dk tdX12_laysUnits_40 7 rfl
theorem dX12_laysUnits_52 : decode cX12_laysUnits 52 = .ok (.aload_n 0, 1) := z_dk tdX12_laysUnits_40 8 rfl
theorem dX12_laysUnits_53 : decode cX12_laysUnits 53 = .ok (.getfield 242, 3) := z_dk tdX12_laysUnits_40 9 rfl
theorem dX12_laysUnits_56 : decode cX12_laysUnits 56 = .ok (.iload_n 1, 1) := z_dk tdX12_laysUnits_40 10 rfl
theorem dX12_laysUnits_57 : decode cX12_laysUnits 57 = .ok (.iastore, 1) := z_dk tdX12_laysUnits_40 11 rfl
theorem dX12_laysUnits_58 : decode cX12_laysUnits 58 = .ok (.aload_n 0, 1) := z_dk tdX12_laysUnits_40 12 rfl
theorem dX12_laysUnits_59 : decode cX12_laysUnits 59 = .ok (.getfield 60, 3) := z_dk tdX12_laysUnits_40 13 rfl
theorem dX12_laysUnits_62 : decode cX12_laysUnits 62 = .ok (.aload_n 0, 1) := z_dk tdX12_laysUnits_40 14 rfl
theorem dX12_laysUnits_63 : decode cX12_laysUnits 63 = .ok (.getfield 242, 3) := z_dk tdX12_laysUnits_40 15 rfl
theorem dX12_laysUnits_66 : decode cX12_laysUnits 66 = .ok (.iconst 0, 1) := z_dk tdX12_laysUnits_40 16 rfl
theorem dX12_laysUnits_67 : decode cX12_laysUnits 67 = .ok (.iastore, 1) := z_dk tdX12_laysUnits_40 17 rfl
theorem dX12_laysUnits_68 : decode cX12_laysUnits 68 = .ok (.aload_n 0, 1) := z_dk tdX12_laysUnits_40 18 rfl
theorem dX12_laysUnits_69 : decode cX12_laysUnits 69 = .ok (.dup, 1) := z_dk tdX12_laysUnits_40 19 rfl
theorem dX12_laysUnits_70 : decode cX12_laysUnits 70 = .ok (.getfield 242, 3) := z_dk tdX12_laysUnits_40 20 rfl
theorem dX12_laysUnits_73 : decode cX12_laysUnits 73 = .ok (.iconst 1, 1) := z_dk tdX12_laysUnits_40 21 rfl
theorem dX12_laysUnits_74 : decode cX12_laysUnits 74 = .ok (.iadd, 1) := z_dk tdX12_laysUnits_40 22 rfl
theorem dX12_laysUnits_75 : decode cX12_laysUnits 75 = .ok (.putfield 242, 3) := z_dk tdX12_laysUnits_40 23 rfl
theorem tdX12_laysUnits_78 : (([(78, .aload_n 0, 1), (79, .getfield 60, 3), (82, .aload_n 0, 1), (83, .getfield 242, 3), (86, .iconst 1, 1), (87, .isub, 1), (88, .dup2, 1), (89, .iaload, 1), (90, .iconst 1, 1), (91, .iadd, 1), (92, .iastore, 1), (93, .aload_n 0, 1), (94, .getfield 63, 3), (97, .iload_n 1, 1), (98, .aload_n 0, 1), (99, .getfield 242, 3), (102, .iconst 1, 1), (103, .isub, 1), (104, .iastore, 1), (105, .iinc 1 1, 3), (108, .goto (-101), 3), (111, .aload_n 0, 1), (112, .iconst 0, 1), (113, .putfield 263, 3)] : List (Nat × Instr × Nat)).all fun e => decide (decode cX12_laysUnits e.1 = .ok e.2)) = true := by decide +kernel
theorem dX12_laysUnits_78 : decode cX12_laysUnits 78 = .ok (.aload_n 0, 1) := z_dk tdX12_laysUnits_78 0 rfl
theorem dX12_laysUnits_79 : decode cX12_laysUnits 79 = .ok (.getfield 60, 3) := z_dk tdX12_laysUnits_78 1 rfl
theorem dX12_laysUnits_82 : decode cX12_laysUnits 82 = .ok (.aload_n 0, 1) := z_dk tdX12_laysUnits_78 2 rfl
theorem dX12_laysUnits_83 : decode cX12_laysUnits 83 = .ok (.getfield 242, 3) := z_dk tdX12_laysUnits_78 3 rfl
theorem dX12_laysUnits_86 : decode cX12_laysUnits 86 = .ok (.iconst 1, 1) := z_dk tdX12_laysUnits_78 4 rfl
theorem dX12_laysUnits_87 : decode cX12_laysUnits 87 = .ok (.isub, 1) := z_dk tdX12_laysUnits_78 5 rfl
theorem dX12_laysUnits_88 : decode cX12_laysUnits 88 = .ok (.dup2, 1) := z_dk tdX12_laysUnits_78 6 rfl
theorem dX12_laysUnits_89 : decode cX12_laysUnits 89 = .ok (.iaload, 1) := z_dk tdX12_laysUnits_78 7 rfl
theorem dX12_laysUnits_90 : decode cX12_laysUnits 90 = .ok (.iconst 1, 1) := z_dk tdX12_laysUnits_78 8 rfl
theorem dX12_laysUnits_91 : decode cX12_laysUnits 91 = .ok (.iadd, 1) := z_dk tdX12_laysUnits_78 9 rfl
theorem dX12_laysUnits_92 : decode cX12_laysUnits 92 = .ok (.iastore, 1) := z_dk tdX12_laysUnits_78 10 rfl
theorem dX12_laysUnits_93 : decode cX12_laysUnits 93 = .ok (.aload_n 0, 1) := z_dk tdX12_laysUnits_78 11 rfl
theorem dX12_laysUnits_94 : decode cX12_laysUnits 94 = .ok (.getfield 63, 3) := z_dk tdX12_laysUnits_78 12 rfl
theorem dX12_laysUnits_97 : decode cX12_laysUnits 97 = .ok (.iload_n 1, 1) := z_dk tdX12_laysUnits_78 13 rfl
theorem dX12_laysUnits_98 : decode cX12_laysUnits 98 = .ok (.aload_n 0, 1) := z_dk tdX12_laysUnits_78 14 rfl
theorem dX12_laysUnits_99 : decode cX12_laysUnits 99 = .ok (.getfield 242, 3) := z_dk tdX12_laysUnits_78 15 rfl
theorem dX12_laysUnits_102 : decode cX12_laysUnits 102 = .ok (.iconst 1, 1) := z_dk tdX12_laysUnits_78 16 rfl
theorem dX12_laysUnits_103 : decode cX12_laysUnits 103 = .ok (.isub, 1) := z_dk tdX12_laysUnits_78 17 rfl
theorem dX12_laysUnits_104 : decode cX12_laysUnits 104 = .ok (.iastore, 1) := z_dk tdX12_laysUnits_78 18 rfl
theorem dX12_laysUnits_105 : decode cX12_laysUnits 105 = .ok (.iinc 1 1, 3) := z_dk tdX12_laysUnits_78 19 rfl
theorem dX12_laysUnits_108 : decode cX12_laysUnits 108 = .ok (.goto (-101), 3) := z_dk tdX12_laysUnits_78 20 rfl
theorem dX12_laysUnits_111 : decode cX12_laysUnits 111 = .ok (.aload_n 0, 1) := z_dk tdX12_laysUnits_78 21 rfl
theorem dX12_laysUnits_112 : decode cX12_laysUnits 112 = .ok (.iconst 0, 1) := z_dk tdX12_laysUnits_78 22 rfl
theorem dX12_laysUnits_113 : decode cX12_laysUnits 113 = .ok (.putfield 263, 3) := z_dk tdX12_laysUnits_78 23 rfl
theorem tdX12_laysUnits_116 : (([(116, .return_, 1)] : List (Nat × Instr × Nat)).all fun e => decide (decode cX12_laysUnits e.1 = .ok e.2)) = true := by decide +kernel
theorem dX12_laysUnits_116 : decode cX12_laysUnits 116 = .ok (.return_, 1) := z_dk tdX12_laysUnits_116 0 rfl
theorem tdX12_group_0 : (([(0, .aload_n 0, 1), (1, .getfield 54, 3), (4, .iload_n 1, 1), (5, .iaload, 1), (6, .bipush 7, 2), (8, .if_icmp .ne 26, 3), (11, .aload_n 0, 1), (12, .getfield 46, 3), (15, .iconst 0, 1), (16, .aaload, 1), (17, .aload_n 0, 1), (18, .getfield 40, 3), (21, .iconst 0, 1), (22, .aaload, 1), (23, .aload_n 0, 1), (24, .getfield 57, 3), (27, .iload_n 1, 1), (28, .iaload, 1), (29, .iaload, 1), (30, .iaload, 1), (31, .goto 4, 3), (34, .iconst (-1), 1), (35, .ireturn, 1)] : List (Nat × Instr × Nat)).all fun e => decide (decode cX12_group e.1 = .ok e.2)) = true := by decide +kernel
theorem dX12_group_0 : decode cX12_group 0 = .ok (.aload_n 0, 1) := z_dk tdX12_group_0 0 rfl
theorem dX12_group_1 : decode cX12_group 1 = .ok (.getfield 54, 3) := z_dk tdX12_group_0 1 rfl
theorem dX12_group_4 : decode cX12_group 4 = .ok (.iload_n 1, 1) := z_dk tdX12_group_0 2 rfl
theorem dX12_group_5 : decode cX12_group 5 = .ok (.iaload, 1) := z_dk tdX12_group_0 3 rfl
theorem dX12_group_6 : decode cX12_group 6 = .ok (.bipush 7, 2) := z_dk tdX12_group_0 4 rfl
theorem dX12_group_8 : decode cX12_group 8 = .ok (.if_icmp .ne 26, 3) := z_dk tdX12_group_0 5 rfl
theorem dX12_group_11 : decode cX12_group 11 = .ok (.aload_n 0, 1) := z_dk tdX12_group_0 6 rfl
theorem dX12_group_12 : decode cX12_group 12 = .ok (.getfield 46, 3) := z_dk tdX12_group_0 7 rfl
theorem dX12_group_15 : decode cX12_group 15 = .ok (.iconst 0, 1) := z_dk tdX12_group_0 8 rfl
theorem dX12_group_16 : decode cX12_group 16 = .ok (.aaload, 1) := z_dk tdX12_group_0 9 rfl
theorem dX12_group_17 : decode cX12_group 17 = .ok (.aload_n 0, 1) := z_dk tdX12_group_0 10 rfl
theorem dX12_group_18 : decode cX12_group 18 = .ok (.getfield 40, 3) := z_dk tdX12_group_0 11 rfl
theorem dX12_group_21 : decode cX12_group 21 = .ok (.iconst 0, 1) := z_dk tdX12_group_0 12 rfl
theorem dX12_group_22 : decode cX12_group 22 = .ok (.aaload, 1) := z_dk tdX12_group_0 13 rfl
theorem dX12_group_23 : decode cX12_group 23 = .ok (.aload_n 0, 1) := z_dk tdX12_group_0 14 rfl
theorem dX12_group_24 : decode cX12_group 24 = .ok (.getfield 57, 3) := z_dk tdX12_group_0 15 rfl
theorem dX12_group_27 : decode cX12_group 27 = .ok (.iload_n 1, 1) := z_dk tdX12_group_0 16 rfl
theorem dX12_group_28 : decode cX12_group 28 = .ok (.iaload, 1) := z_dk tdX12_group_0 17 rfl
theorem dX12_group_29 : decode cX12_group 29 = .ok (.iaload, 1) := z_dk tdX12_group_0 18 rfl
theorem dX12_group_30 : decode cX12_group 30 = .ok (.iaload, 1) := z_dk tdX12_group_0 19 rfl
theorem dX12_group_31 : decode cX12_group 31 = .ok (.goto 4, 3) := z_dk tdX12_group_0 20 rfl
theorem dX12_group_34 : decode cX12_group 34 = .ok (.iconst (-1), 1) := z_dk tdX12_group_0 21 rfl
theorem dX12_group_35 : decode cX12_group 35 = .ok (.ireturn, 1) := z_dk tdX12_group_0 22 rfl
theorem tdX12_lettersOf_0 : (([(0, .aload_n 0, 1), (1, .getfield 51, 3), (4, .iconst 0, 1), (5, .aaload, 1), (6, .aload_n 0, 1), (7, .getfield 40, 3), (10, .iconst 0, 1), (11, .aaload, 1), (12, .aload_n 0, 1), (13, .getfield 57, 3), (16, .iload_n 1, 1), (17, .iaload, 1), (18, .iaload, 1), (19, .aaload, 1), (20, .bipush 10, 2), (22, .iload_n 2, 1), (23, .imul, 1), (24, .iaload, 1), (25, .ireturn, 1)] : List (Nat × Instr × Nat)).all fun e => decide (decode cX12_lettersOf e.1 = .ok e.2)) = true := by decide +kernel
theorem dX12_lettersOf_0 : decode cX12_lettersOf 0 = .ok (.aload_n 0, 1) := z_dk tdX12_lettersOf_0 0 rfl
theorem dX12_lettersOf_1 : decode cX12_lettersOf 1 = .ok (.getfield 51, 3) := z_dk tdX12_lettersOf_0 1 rfl
theorem dX12_lettersOf_4 : decode cX12_lettersOf 4 = .ok (.iconst 0, 1) := z_dk tdX12_lettersOf_0 2 rfl
theorem dX12_lettersOf_5 : decode cX12_lettersOf 5 = .ok (.aaload, 1) := z_dk tdX12_lettersOf_0 3 rfl
theorem dX12_lettersOf_6 : decode cX12_lettersOf 6 = .ok (.aload_n 0, 1) := z_dk tdX12_lettersOf_0 4 rfl
theorem dX12_lettersOf_7 : decode cX12_lettersOf 7 = .ok (.getfield 40, 3) := z_dk tdX12_lettersOf_0 5 rfl
theorem dX12_lettersOf_10 : decode cX12_lettersOf 10 = .ok (.iconst 0, 1) := z_dk tdX12_lettersOf_0 6 rfl
theorem dX12_lettersOf_11 : decode cX12_lettersOf 11 = .ok (.aaload, 1) := z_dk tdX12_lettersOf_0 7 rfl
theorem dX12_lettersOf_12 : decode cX12_lettersOf 12 = .ok (.aload_n 0, 1) := z_dk tdX12_lettersOf_0 8 rfl
theorem dX12_lettersOf_13 : decode cX12_lettersOf 13 = .ok (.getfield 57, 3) := z_dk tdX12_lettersOf_0 9 rfl
theorem dX12_lettersOf_16 : decode cX12_lettersOf 16 = .ok (.iload_n 1, 1) := z_dk tdX12_lettersOf_0 10 rfl
theorem dX12_lettersOf_17 : decode cX12_lettersOf 17 = .ok (.iaload, 1) := z_dk tdX12_lettersOf_0 11 rfl
theorem dX12_lettersOf_18 : decode cX12_lettersOf 18 = .ok (.iaload, 1) := z_dk tdX12_lettersOf_0 12 rfl
theorem dX12_lettersOf_19 : decode cX12_lettersOf 19 = .ok (.aaload, 1) := z_dk tdX12_lettersOf_0 13 rfl
theorem dX12_lettersOf_20 : decode cX12_lettersOf 20 = .ok (.bipush 10, 2) := z_dk tdX12_lettersOf_0 14 rfl
theorem dX12_lettersOf_22 : decode cX12_lettersOf 22 = .ok (.iload_n 2, 1) := z_dk tdX12_lettersOf_0 15 rfl
theorem dX12_lettersOf_23 : decode cX12_lettersOf 23 = .ok (.imul, 1) := z_dk tdX12_lettersOf_0 16 rfl
theorem dX12_lettersOf_24 : decode cX12_lettersOf 24 = .ok (.iaload, 1) := z_dk tdX12_lettersOf_0 17 rfl
theorem dX12_lettersOf_25 : decode cX12_lettersOf 25 = .ok (.ireturn, 1) := z_dk tdX12_lettersOf_0 18 rfl
theorem tdX12_isAcross_0 : (([(0, .aload_n 0, 1), (1, .getfield 54, 3), (4, .iload_n 1, 1), (5, .iaload, 1), (6, .iconst 2, 1), (7, .if_icmp .ne 32, 3), (10, .aload_n 0, 1), (11, .getfield 20, 3), (14, .iconst 5, 1), (15, .iaload, 1), (16, .iconst 1, 1), (17, .if_icmp .ne 22, 3), (20, .aload_n 0, 1), (21, .getfield 60, 3), (24, .iload_n 1, 1), (25, .iaload, 1), (26, .aload_n 0, 1), (27, .getfield 20, 3), (30, .iconst 1, 1), (31, .iaload, 1), (32, .if_icmp .gt 7, 3), (35, .iconst 1, 1), (36, .goto 4, 3), (39, .iconst 0, 1)] : List (Nat × Instr × Nat)).all fun e => decide (decode cX12_isAcross e.1 = .ok e.2)) = true := by decide +kernel
theorem dX12_isAcross_0 : decode cX12_isAcross 0 = .ok (.aload_n 0, 1) := z_dk tdX12_isAcross_0 0 rfl
theorem dX12_isAcross_1 : decode cX12_isAcross 1 = .ok (.getfield 54, 3) := z_dk tdX12_isAcross_0 1 rfl
theorem dX12_isAcross_4 : decode cX12_isAcross 4 = .ok (.iload_n 1, 1) := z_dk tdX12_isAcross_0 2 rfl
theorem dX12_isAcross_5 : decode cX12_isAcross 5 = .ok (.iaload, 1) := z_dk tdX12_isAcross_0 3 rfl
theorem dX12_isAcross_6 : decode cX12_isAcross 6 = .ok (.iconst 2, 1) := z_dk tdX12_isAcross_0 4 rfl
theorem dX12_isAcross_7 : decode cX12_isAcross 7 = .ok (.if_icmp .ne 32, 3) := z_dk tdX12_isAcross_0 5 rfl
theorem dX12_isAcross_10 : decode cX12_isAcross 10 = .ok (.aload_n 0, 1) := z_dk tdX12_isAcross_0 6 rfl
theorem dX12_isAcross_11 : decode cX12_isAcross 11 = .ok (.getfield 20, 3) := z_dk tdX12_isAcross_0 7 rfl
theorem dX12_isAcross_14 : decode cX12_isAcross 14 = .ok (.iconst 5, 1) := z_dk tdX12_isAcross_0 8 rfl
theorem dX12_isAcross_15 : decode cX12_isAcross 15 = .ok (.iaload, 1) := z_dk tdX12_isAcross_0 9 rfl
theorem dX12_isAcross_16 : decode cX12_isAcross 16 = .ok (.iconst 1, 1) := z_dk tdX12_isAcross_0 10 rfl
theorem dX12_isAcross_17 : decode cX12_isAcross 17 = .ok (.if_icmp .ne 22, 3) := z_dk tdX12_isAcross_0 11 rfl
theorem dX12_isAcross_20 : decode cX12_isAcross 20 = .ok (.aload_n 0, 1) := z_dk tdX12_isAcross_0 12 rfl
theorem dX12_isAcross_21 : decode cX12_isAcross 21 = .ok (.getfield 60, 3) := z_dk tdX12_isAcross_0 13 rfl
theorem dX12_isAcross_24 : decode cX12_isAcross 24 = .ok (.iload_n 1, 1) := z_dk tdX12_isAcross_0 14 rfl
theorem dX12_isAcross_25 : decode cX12_isAcross 25 = .ok (.iaload, 1) := z_dk tdX12_isAcross_0 15 rfl
theorem dX12_isAcross_26 : decode cX12_isAcross 26 = .ok (.aload_n 0, 1) := z_dk tdX12_isAcross_0 16 rfl
theorem dX12_isAcross_27 : decode cX12_isAcross 27 = .ok (.getfield 20, 3) := z_dk tdX12_isAcross_0 17 rfl
theorem dX12_isAcross_30 : decode cX12_isAcross 30 = .ok (.iconst 1, 1) := z_dk tdX12_isAcross_0 18 rfl
theorem dX12_isAcross_31 : decode cX12_isAcross 31 = .ok (.iaload, 1) := z_dk tdX12_isAcross_0 19 rfl
theorem dX12_isAcross_32 : decode cX12_isAcross 32 = .ok (.if_icmp .gt 7, 3) := z_dk tdX12_isAcross_0 20 rfl
theorem dX12_isAcross_35 : decode cX12_isAcross 35 = .ok (.iconst 1, 1) := z_dk tdX12_isAcross_0 21 rfl
theorem dX12_isAcross_36 : decode cX12_isAcross 36 = .ok (.goto 4, 3) := z_dk tdX12_isAcross_0 22 rfl
theorem dX12_isAcross_39 : decode cX12_isAcross 39 = .ok (.iconst 0, 1) := z_dk tdX12_isAcross_0 23 rfl
theorem tdX12_isAcross_40 : (([(40, .ireturn, 1)] : List (Nat × Instr × Nat)).all fun e => decide (decode cX12_isAcross e.1 = .ok e.2)) = true := by decide +kernel
theorem dX12_isAcross_40 : decode cX12_isAcross 40 = .ok (.ireturn, 1) := z_dk tdX12_isAcross_40 0 rfl
theorem tdX12_wide_0 : (([(0, .iload_n 0, 1), (1, .bipush 105, 2), (3, .if_icmp .eq 15, 3), (6, .iload_n 0, 1), (7, .bipush 106, 2), (9, .if_icmp .eq 9, 3), (12, .iload_n 0, 1), (13, .bipush 108, 2), (15, .if_icmp .ne 7, 3), (18, .iconst 4, 1), (19, .goto 22, 3), (22, .iload_n 0, 1), (23, .bipush 109, 2), (25, .if_icmp .eq 9, 3), (28, .iload_n 0, 1), (29, .bipush 119, 2), (31, .if_icmp .ne 8, 3), (34, .bipush 9, 2), (36, .goto 5, 3), (39, .bipush 6, 2), (41, .ireturn, 1)] : List (Nat × Instr × Nat)).all fun e => decide (decode cX12_wide e.1 = .ok e.2)) = true := by decide +kernel
theorem dX12_wide_0 : decode cX12_wide 0 = .ok (.iload_n 0, 1) := z_dk tdX12_wide_0 0 rfl
theorem dX12_wide_1 : decode cX12_wide 1 = .ok (.bipush 105, 2) := z_dk tdX12_wide_0 1 rfl
theorem dX12_wide_3 : decode cX12_wide 3 = .ok (.if_icmp .eq 15, 3) := z_dk tdX12_wide_0 2 rfl
theorem dX12_wide_6 : decode cX12_wide 6 = .ok (.iload_n 0, 1) := z_dk tdX12_wide_0 3 rfl
theorem dX12_wide_7 : decode cX12_wide 7 = .ok (.bipush 106, 2) := z_dk tdX12_wide_0 4 rfl
theorem dX12_wide_9 : decode cX12_wide 9 = .ok (.if_icmp .eq 9, 3) := z_dk tdX12_wide_0 5 rfl
theorem dX12_wide_12 : decode cX12_wide 12 = .ok (.iload_n 0, 1) := z_dk tdX12_wide_0 6 rfl
theorem dX12_wide_13 : decode cX12_wide 13 = .ok (.bipush 108, 2) := z_dk tdX12_wide_0 7 rfl
theorem dX12_wide_15 : decode cX12_wide 15 = .ok (.if_icmp .ne 7, 3) := z_dk tdX12_wide_0 8 rfl
theorem dX12_wide_18 : decode cX12_wide 18 = .ok (.iconst 4, 1) := z_dk tdX12_wide_0 9 rfl
theorem dX12_wide_19 : decode cX12_wide 19 = .ok (.goto 22, 3) := z_dk tdX12_wide_0 10 rfl
theorem dX12_wide_22 : decode cX12_wide 22 = .ok (.iload_n 0, 1) := z_dk tdX12_wide_0 11 rfl
theorem dX12_wide_23 : decode cX12_wide 23 = .ok (.bipush 109, 2) := z_dk tdX12_wide_0 12 rfl
theorem dX12_wide_25 : decode cX12_wide 25 = .ok (.if_icmp .eq 9, 3) := z_dk tdX12_wide_0 13 rfl
theorem dX12_wide_28 : decode cX12_wide 28 = .ok (.iload_n 0, 1) := z_dk tdX12_wide_0 14 rfl
theorem dX12_wide_29 : decode cX12_wide 29 = .ok (.bipush 119, 2) := z_dk tdX12_wide_0 15 rfl
theorem dX12_wide_31 : decode cX12_wide 31 = .ok (.if_icmp .ne 8, 3) := z_dk tdX12_wide_0 16 rfl
theorem dX12_wide_34 : decode cX12_wide 34 = .ok (.bipush 9, 2) := z_dk tdX12_wide_0 17 rfl
theorem dX12_wide_36 : decode cX12_wide 36 = .ok (.goto 5, 3) := z_dk tdX12_wide_0 18 rfl
theorem dX12_wide_39 : decode cX12_wide 39 = .ok (.bipush 6, 2) := z_dk tdX12_wide_0 19 rfl
theorem dX12_wide_41 : decode cX12_wide 41 = .ok (.ireturn, 1) := z_dk tdX12_wide_0 20 rfl
theorem tdX12_signLong_0 : (([(0, .aload_n 0, 1), (1, .getfield 63, 3), (4, .iload_n 1, 1), (5, .iaload, 1), (6, .istore_n 2, 1), (7, .aload_n 0, 1), (8, .getfield 37, 3), (11, .iconst 0, 1), (12, .aaload, 1), (13, .iload_n 1, 1), (14, .iaload, 1), (15, .iconst 1, 1), (16, .if_icmp .ne 15, 3), (19, .aload_n 0, 1), (20, .getfield 34, 3), (23, .iconst 0, 1), (24, .aaload, 1), (25, .iload_n 1, 1), (26, .iaload, 1), (27, .invokestatic 270, 3), (30, .ireturn, 1), (31, .aload_n 0, 1), (32, .getfield 37, 3), (35, .iconst 0, 1)] : List (Nat × Instr × Nat)).all fun e => decide (decode cX12_signLong e.1 = .ok e.2)) = true := by decide +kernel
theorem dX12_signLong_0 : decode cX12_signLong 0 = .ok (.aload_n 0, 1) := z_dk tdX12_signLong_0 0 rfl
theorem dX12_signLong_1 : decode cX12_signLong 1 = .ok (.getfield 63, 3) := z_dk tdX12_signLong_0 1 rfl
theorem dX12_signLong_4 : decode cX12_signLong 4 = .ok (.iload_n 1, 1) := z_dk tdX12_signLong_0 2 rfl
theorem dX12_signLong_5 : decode cX12_signLong 5 = .ok (.iaload, 1) := z_dk tdX12_signLong_0 3 rfl
theorem dX12_signLong_6 : decode cX12_signLong 6 = .ok (.istore_n 2, 1) := z_dk tdX12_signLong_0 4 rfl
theorem dX12_signLong_7 : decode cX12_signLong 7 = .ok (.aload_n 0, 1) := z_dk tdX12_signLong_0 5 rfl
theorem dX12_signLong_8 : decode cX12_signLong 8 = .ok (.getfield 37, 3) := z_dk tdX12_signLong_0 6 rfl
theorem dX12_signLong_11 : decode cX12_signLong 11 = .ok (.iconst 0, 1) := z_dk tdX12_signLong_0 7 rfl
theorem dX12_signLong_12 : decode cX12_signLong 12 = .ok (.aaload, 1) := z_dk tdX12_signLong_0 8 rfl
theorem dX12_signLong_13 : decode cX12_signLong 13 = .ok (.iload_n 1, 1) := z_dk tdX12_signLong_0 9 rfl
theorem dX12_signLong_14 : decode cX12_signLong 14 = .ok (.iaload, 1) := z_dk tdX12_signLong_0 10 rfl
theorem dX12_signLong_15 : decode cX12_signLong 15 = .ok (.iconst 1, 1) := z_dk tdX12_signLong_0 11 rfl
theorem dX12_signLong_16 : decode cX12_signLong 16 = .ok (.if_icmp .ne 15, 3) := z_dk tdX12_signLong_0 12 rfl
theorem dX12_signLong_19 : decode cX12_signLong 19 = .ok (.aload_n 0, 1) := z_dk tdX12_signLong_0 13 rfl
theorem dX12_signLong_20 : decode cX12_signLong 20 = .ok (.getfield 34, 3) := z_dk tdX12_signLong_0 14 rfl
theorem dX12_signLong_23 : decode cX12_signLong 23 = .ok (.iconst 0, 1) := z_dk tdX12_signLong_0 15 rfl
theorem dX12_signLong_24 : decode cX12_signLong 24 = .ok (.aaload, 1) := z_dk tdX12_signLong_0 16 rfl
theorem dX12_signLong_25 : decode cX12_signLong 25 = .ok (.iload_n 1, 1) := z_dk tdX12_signLong_0 17 rfl
theorem dX12_signLong_26 : decode cX12_signLong 26 = .ok (.iaload, 1) := z_dk tdX12_signLong_0 18 rfl
theorem dX12_signLong_27 : decode cX12_signLong 27 = .ok (.invokestatic 270, 3) := z_dk tdX12_signLong_0 19 rfl
theorem dX12_signLong_30 : decode cX12_signLong 30 = .ok (.ireturn, 1) := z_dk tdX12_signLong_0 20 rfl
theorem dX12_signLong_31 : decode cX12_signLong 31 = .ok (.aload_n 0, 1) := z_dk tdX12_signLong_0 21 rfl
theorem dX12_signLong_32 : decode cX12_signLong 32 = .ok (.getfield 37, 3) := z_dk tdX12_signLong_0 22 rfl
theorem dX12_signLong_35 : decode cX12_signLong 35 = .ok (.iconst 0, 1) := z_dk tdX12_signLong_0 23 rfl
theorem tdX12_signLong_36 : (([(36, .aaload, 1), (37, .iload_n 1, 1), (38, .iaload, 1), (39, .iconst 2, 1), (40, .if_icmp .ne 19, 3), (43, .aload_n 0, 1), (44, .iload_n 2, 1), (45, .invokevirtual 273, 3), (48, .ifCond .eq 8, 3), (51, .bipush 12, 2), (53, .goto 5, 3), (56, .bipush 6, 2), (58, .ireturn, 1), (59, .aload_n 0, 1), (60, .getfield 37, 3), (63, .iconst 0, 1), (64, .aaload, 1), (65, .iload_n 1, 1), (66, .iaload, 1), (67, .ifCond .eq 16, 3), (70, .aload_n 0, 1), (71, .getfield 37, 3), (74, .iconst 0, 1), (75, .aaload, 1)] : List (Nat × Instr × Nat)).all fun e => decide (decode cX12_signLong e.1 = .ok e.2)) = true := by decide +kernel
theorem dX12_signLong_36 : decode cX12_signLong 36 = .ok (.aaload, 1) := z_dk tdX12_signLong_36 0 rfl
theorem dX12_signLong_37 : decode cX12_signLong 37 = .ok (.iload_n 1, 1) := z_dk tdX12_signLong_36 1 rfl
theorem dX12_signLong_38 : decode cX12_signLong 38 = .ok (.iaload, 1) := z_dk tdX12_signLong_36 2 rfl
theorem dX12_signLong_39 : decode cX12_signLong 39 = .ok (.iconst 2, 1) := z_dk tdX12_signLong_36 3 rfl
theorem dX12_signLong_40 : decode cX12_signLong 40 = .ok (.if_icmp .ne 19, 3) := z_dk tdX12_signLong_36 4 rfl
theorem dX12_signLong_43 : decode cX12_signLong 43 = .ok (.aload_n 0, 1) := z_dk tdX12_signLong_36 5 rfl
theorem dX12_signLong_44 : decode cX12_signLong 44 = .ok (.iload_n 2, 1) := z_dk tdX12_signLong_36 6 rfl
theorem dX12_signLong_45 : decode cX12_signLong 45 = .ok (.invokevirtual 273, 3) := z_dk tdX12_signLong_36 7 rfl
theorem dX12_signLong_48 : decode cX12_signLong 48 = .ok (.ifCond .eq 8, 3) := z_dk tdX12_signLong_36 8 rfl
theorem dX12_signLong_51 : decode cX12_signLong 51 = .ok (.bipush 12, 2) := z_dk tdX12_signLong_36 9 rfl
theorem dX12_signLong_53 : decode cX12_signLong 53 = .ok (.goto 5, 3) := z_dk tdX12_signLong_36 10 rfl
theorem dX12_signLong_56 : decode cX12_signLong 56 = .ok (.bipush 6, 2) := z_dk tdX12_signLong_36 11 rfl
theorem dX12_signLong_58 : decode cX12_signLong 58 = .ok (.ireturn, 1) := z_dk tdX12_signLong_36 12 rfl
theorem dX12_signLong_59 : decode cX12_signLong 59 = .ok (.aload_n 0, 1) := z_dk tdX12_signLong_36 13 rfl
theorem dX12_signLong_60 : decode cX12_signLong 60 = .ok (.getfield 37, 3) := z_dk tdX12_signLong_36 14 rfl
theorem dX12_signLong_63 : decode cX12_signLong 63 = .ok (.iconst 0, 1) := z_dk tdX12_signLong_36 15 rfl
theorem dX12_signLong_64 : decode cX12_signLong 64 = .ok (.aaload, 1) := z_dk tdX12_signLong_36 16 rfl
theorem dX12_signLong_65 : decode cX12_signLong 65 = .ok (.iload_n 1, 1) := z_dk tdX12_signLong_36 17 rfl
theorem dX12_signLong_66 : decode cX12_signLong 66 = .ok (.iaload, 1) := z_dk tdX12_signLong_36 18 rfl
theorem dX12_signLong_67 : decode cX12_signLong 67 = .ok (.ifCond .eq 16, 3) := z_dk tdX12_signLong_36 19 rfl
theorem dX12_signLong_70 : decode cX12_signLong 70 = .ok (.aload_n 0, 1) := z_dk tdX12_signLong_36 20 rfl
theorem dX12_signLong_71 : decode cX12_signLong 71 = .ok (.getfield 37, 3) := z_dk tdX12_signLong_36 21 rfl
theorem dX12_signLong_74 : decode cX12_signLong 74 = .ok (.iconst 0, 1) := z_dk tdX12_signLong_36 22 rfl
theorem dX12_signLong_75 : decode cX12_signLong 75 = .ok (.aaload, 1) := z_dk tdX12_signLong_36 23 rfl
theorem tdX12_signLong_76 : (([(76, .iload_n 1, 1), (77, .iaload, 1), (78, .bipush 7, 2), (80, .if_icmp .ne 8, 3), (83, .bipush 12, 2), (85, .goto 22, 3), (88, .aload_n 0, 1), (89, .getfield 37, 3), (92, .iconst 0, 1), (93, .aaload, 1), (94, .iload_n 1, 1), (95, .iaload, 1), (96, .bipush 6, 2), (98, .if_icmp .ne 7, 3), (101, .iconst 4, 1), (102, .goto 5, 3), (105, .bipush 6, 2), (107, .ireturn, 1)] : List (Nat × Instr × Nat)).all fun e => decide (decode cX12_signLong e.1 = .ok e.2)) = true := by decide +kernel
theorem dX12_signLong_76 : decode cX12_signLong 76 = .ok (.iload_n 1, 1) := z_dk tdX12_signLong_76 0 rfl
theorem dX12_signLong_77 : decode cX12_signLong 77 = .ok (.iaload, 1) := z_dk tdX12_signLong_76 1 rfl
theorem dX12_signLong_78 : decode cX12_signLong 78 = .ok (.bipush 7, 2) := z_dk tdX12_signLong_76 2 rfl
theorem dX12_signLong_80 : decode cX12_signLong 80 = .ok (.if_icmp .ne 8, 3) := z_dk tdX12_signLong_76 3 rfl
theorem dX12_signLong_83 : decode cX12_signLong 83 = .ok (.bipush 12, 2) := z_dk tdX12_signLong_76 4 rfl
theorem dX12_signLong_85 : decode cX12_signLong 85 = .ok (.goto 22, 3) := z_dk tdX12_signLong_76 5 rfl
theorem dX12_signLong_88 : decode cX12_signLong 88 = .ok (.aload_n 0, 1) := z_dk tdX12_signLong_76 6 rfl
theorem dX12_signLong_89 : decode cX12_signLong 89 = .ok (.getfield 37, 3) := z_dk tdX12_signLong_76 7 rfl
theorem dX12_signLong_92 : decode cX12_signLong 92 = .ok (.iconst 0, 1) := z_dk tdX12_signLong_76 8 rfl
theorem dX12_signLong_93 : decode cX12_signLong 93 = .ok (.aaload, 1) := z_dk tdX12_signLong_76 9 rfl
theorem dX12_signLong_94 : decode cX12_signLong 94 = .ok (.iload_n 1, 1) := z_dk tdX12_signLong_76 10 rfl
theorem dX12_signLong_95 : decode cX12_signLong 95 = .ok (.iaload, 1) := z_dk tdX12_signLong_76 11 rfl
theorem dX12_signLong_96 : decode cX12_signLong 96 = .ok (.bipush 6, 2) := z_dk tdX12_signLong_76 12 rfl
theorem dX12_signLong_98 : decode cX12_signLong 98 = .ok (.if_icmp .ne 7, 3) := z_dk tdX12_signLong_76 13 rfl
theorem dX12_signLong_101 : decode cX12_signLong 101 = .ok (.iconst 4, 1) := z_dk tdX12_signLong_76 14 rfl
theorem dX12_signLong_102 : decode cX12_signLong 102 = .ok (.goto 5, 3) := z_dk tdX12_signLong_76 15 rfl
theorem dX12_signLong_105 : decode cX12_signLong 105 = .ok (.bipush 6, 2) := z_dk tdX12_signLong_76 16 rfl
theorem dX12_signLong_107 : decode cX12_signLong 107 = .ok (.ireturn, 1) := z_dk tdX12_signLong_76 17 rfl
theorem tdX12_width_0 : (([(0, .aload_n 0, 1), (1, .iload_n 1, 1), (2, .invokevirtual 273, 3), (5, .ifCond .eq 6, 3), (8, .bipush 12, 2), (10, .ireturn, 1), (11, .iconst 0, 1), (12, .istore_n 2, 1), (13, .aload_n 0, 1), (14, .getfield 57, 3), (17, .iload_n 1, 1), (18, .iaload, 1), (19, .istore_n 3, 1), (20, .iload_n 3, 1), (21, .aload_n 0, 1), (22, .getfield 57, 3), (25, .iload_n 1, 1), (26, .iaload, 1), (27, .aload_n 0, 1), (28, .getfield 60, 3), (31, .iload_n 1, 1), (32, .iaload, 1), (33, .iadd, 1), (34, .if_icmp .ge 17, 3)] : List (Nat × Instr × Nat)).all fun e => decide (decode cX12_width e.1 = .ok e.2)) = true := by decide +kernel
theorem dX12_width_0 : decode cX12_width 0 = .ok (.aload_n 0, 1) := z_dk tdX12_width_0 0 rfl
theorem dX12_width_1 : decode cX12_width 1 = .ok (.iload_n 1, 1) := z_dk tdX12_width_0 1 rfl
theorem dX12_width_2 : decode cX12_width 2 = .ok (.invokevirtual 273, 3) := z_dk tdX12_width_0 2 rfl
theorem dX12_width_5 : decode cX12_width 5 = .ok (.ifCond .eq 6, 3) := z_dk tdX12_width_0 3 rfl
theorem dX12_width_8 : decode cX12_width 8 = .ok (.bipush 12, 2) := z_dk tdX12_width_0 4 rfl
theorem dX12_width_10 : decode cX12_width 10 = .ok (.ireturn, 1) := z_dk tdX12_width_0 5 rfl
theorem dX12_width_11 : decode cX12_width 11 = .ok (.iconst 0, 1) := z_dk tdX12_width_0 6 rfl
theorem dX12_width_12 : decode cX12_width 12 = .ok (.istore_n 2, 1) := z_dk tdX12_width_0 7 rfl
theorem dX12_width_13 : decode cX12_width 13 = .ok (.aload_n 0, 1) := z_dk tdX12_width_0 8 rfl
theorem dX12_width_14 : decode cX12_width 14 = .ok (.getfield 57, 3) := z_dk tdX12_width_0 9 rfl
theorem dX12_width_17 : decode cX12_width 17 = .ok (.iload_n 1, 1) := z_dk tdX12_width_0 10 rfl
theorem dX12_width_18 : decode cX12_width 18 = .ok (.iaload, 1) := z_dk tdX12_width_0 11 rfl
theorem dX12_width_19 : decode cX12_width 19 = .ok (.istore_n 3, 1) := z_dk tdX12_width_0 12 rfl
theorem dX12_width_20 : decode cX12_width 20 = .ok (.iload_n 3, 1) := z_dk tdX12_width_0 13 rfl
theorem dX12_width_21 : decode cX12_width 21 = .ok (.aload_n 0, 1) := z_dk tdX12_width_0 14 rfl
theorem dX12_width_22 : decode cX12_width 22 = .ok (.getfield 57, 3) := z_dk tdX12_width_0 15 rfl
theorem dX12_width_25 : decode cX12_width 25 = .ok (.iload_n 1, 1) := z_dk tdX12_width_0 16 rfl
theorem dX12_width_26 : decode cX12_width 26 = .ok (.iaload, 1) := z_dk tdX12_width_0 17 rfl
theorem dX12_width_27 : decode cX12_width 27 = .ok (.aload_n 0, 1) := z_dk tdX12_width_0 18 rfl
theorem dX12_width_28 : decode cX12_width 28 = .ok (.getfield 60, 3) := z_dk tdX12_width_0 19 rfl
theorem dX12_width_31 : decode cX12_width 31 = .ok (.iload_n 1, 1) := z_dk tdX12_width_0 20 rfl
theorem dX12_width_32 : decode cX12_width 32 = .ok (.iaload, 1) := z_dk tdX12_width_0 21 rfl
theorem dX12_width_33 : decode cX12_width 33 = .ok (.iadd, 1) := z_dk tdX12_width_0 22 rfl
theorem dX12_width_34 : decode cX12_width 34 = .ok (.if_icmp .ge 17, 3) := z_dk tdX12_width_0 23 rfl
theorem tdX12_width_37 : (([(37, .iload_n 2, 1), (38, .aload_n 0, 1), (39, .iload_n 3, 1), (40, .invokevirtual 276, 3), (43, .iadd, 1), (44, .istore_n 2, 1), (45, .iinc 3 1, 3), (48, .goto (-28), 3), (51, .iload_n 2, 1), (52, .ireturn, 1)] : List (Nat × Instr × Nat)).all fun e => decide (decode cX12_width e.1 = .ok e.2)) = true := by decide +kernel
theorem dX12_width_37 : decode cX12_width 37 = .ok (.iload_n 2, 1) := z_dk tdX12_width_37 0 rfl
theorem dX12_width_38 : decode cX12_width 38 = .ok (.aload_n 0, 1) := z_dk tdX12_width_37 1 rfl
theorem dX12_width_39 : decode cX12_width 39 = .ok (.iload_n 3, 1) := z_dk tdX12_width_37 2 rfl
theorem dX12_width_40 : decode cX12_width 40 = .ok (.invokevirtual 276, 3) := z_dk tdX12_width_37 3 rfl
theorem dX12_width_43 : decode cX12_width 43 = .ok (.iadd, 1) := z_dk tdX12_width_37 4 rfl
theorem dX12_width_44 : decode cX12_width 44 = .ok (.istore_n 2, 1) := z_dk tdX12_width_37 5 rfl
theorem dX12_width_45 : decode cX12_width 45 = .ok (.iinc 3 1, 3) := z_dk tdX12_width_37 6 rfl
theorem dX12_width_48 : decode cX12_width 48 = .ok (.goto (-28), 3) := z_dk tdX12_width_37 7 rfl
theorem dX12_width_51 : decode cX12_width 51 = .ok (.iload_n 2, 1) := z_dk tdX12_width_37 8 rfl
theorem dX12_width_52 : decode cX12_width 52 = .ok (.ireturn, 1) := z_dk tdX12_width_37 9 rfl
theorem tdX12_isTurned_0 : (([(0, .aload_n 0, 1), (1, .getfield 37, 3), (4, .iconst 0, 1), (5, .aaload, 1), (6, .iload_n 1, 1), (7, .iaload, 1), (8, .istore_n 2, 1), (9, .aload_n 0, 1), (10, .getfield 20, 3), (13, .iconst 5, 1), (14, .iaload, 1), (15, .iconst 1, 1), (16, .if_icmp .ne 40, 3), (19, .iload_n 2, 1), (20, .iconst 1, 1), (21, .if_icmp .eq 31, 3), (24, .iload_n 2, 1), (25, .iconst 4, 1), (26, .if_icmp .eq 26, 3), (29, .iload_n 2, 1), (30, .iconst 5, 1), (31, .if_icmp .eq 21, 3), (34, .iload_n 2, 1), (35, .iconst 2, 1)] : List (Nat × Instr × Nat)).all fun e => decide (decode cX12_isTurned e.1 = .ok e.2)) = true := by decide +kernel
theorem dX12_isTurned_0 : decode cX12_isTurned 0 = .ok (.aload_n 0, 1) := z_dk tdX12_isTurned_0 0 rfl
theorem dX12_isTurned_1 : decode cX12_isTurned 1 = .ok (.getfield 37, 3) := z_dk tdX12_isTurned_0 1 rfl
theorem dX12_isTurned_4 : decode cX12_isTurned 4 = .ok (.iconst 0, 1) := z_dk tdX12_isTurned_0 2 rfl
theorem dX12_isTurned_5 : decode cX12_isTurned 5 = .ok (.aaload, 1) := z_dk tdX12_isTurned_0 3 rfl
theorem dX12_isTurned_6 : decode cX12_isTurned 6 = .ok (.iload_n 1, 1) := z_dk tdX12_isTurned_0 4 rfl
theorem dX12_isTurned_7 : decode cX12_isTurned 7 = .ok (.iaload, 1) := z_dk tdX12_isTurned_0 5 rfl
theorem dX12_isTurned_8 : decode cX12_isTurned 8 = .ok (.istore_n 2, 1) := z_dk tdX12_isTurned_0 6 rfl
theorem dX12_isTurned_9 : decode cX12_isTurned 9 = .ok (.aload_n 0, 1) := z_dk tdX12_isTurned_0 7 rfl
theorem dX12_isTurned_10 : decode cX12_isTurned 10 = .ok (.getfield 20, 3) := z_dk tdX12_isTurned_0 8 rfl
theorem dX12_isTurned_13 : decode cX12_isTurned 13 = .ok (.iconst 5, 1) := z_dk tdX12_isTurned_0 9 rfl
theorem dX12_isTurned_14 : decode cX12_isTurned 14 = .ok (.iaload, 1) := z_dk tdX12_isTurned_0 10 rfl
theorem dX12_isTurned_15 : decode cX12_isTurned 15 = .ok (.iconst 1, 1) := z_dk tdX12_isTurned_0 11 rfl
theorem dX12_isTurned_16 : decode cX12_isTurned 16 = .ok (.if_icmp .ne 40, 3) := z_dk tdX12_isTurned_0 12 rfl
theorem dX12_isTurned_19 : decode cX12_isTurned 19 = .ok (.iload_n 2, 1) := z_dk tdX12_isTurned_0 13 rfl
theorem dX12_isTurned_20 : decode cX12_isTurned 20 = .ok (.iconst 1, 1) := z_dk tdX12_isTurned_0 14 rfl
theorem dX12_isTurned_21 : decode cX12_isTurned 21 = .ok (.if_icmp .eq 31, 3) := z_dk tdX12_isTurned_0 15 rfl
theorem dX12_isTurned_24 : decode cX12_isTurned 24 = .ok (.iload_n 2, 1) := z_dk tdX12_isTurned_0 16 rfl
theorem dX12_isTurned_25 : decode cX12_isTurned 25 = .ok (.iconst 4, 1) := z_dk tdX12_isTurned_0 17 rfl
theorem dX12_isTurned_26 : decode cX12_isTurned 26 = .ok (.if_icmp .eq 26, 3) := z_dk tdX12_isTurned_0 18 rfl
theorem dX12_isTurned_29 : decode cX12_isTurned 29 = .ok (.iload_n 2, 1) := z_dk tdX12_isTurned_0 19 rfl
theorem dX12_isTurned_30 : decode cX12_isTurned 30 = .ok (.iconst 5, 1) := z_dk tdX12_isTurned_0 20 rfl
theorem dX12_isTurned_31 : decode cX12_isTurned 31 = .ok (.if_icmp .eq 21, 3) := z_dk tdX12_isTurned_0 21 rfl
theorem dX12_isTurned_34 : decode cX12_isTurned 34 = .ok (.iload_n 2, 1) := z_dk tdX12_isTurned_0 22 rfl
theorem dX12_isTurned_35 : decode cX12_isTurned 35 = .ok (.iconst 2, 1) := z_dk tdX12_isTurned_0 23 rfl
theorem tdX12_isTurned_36 : (([(36, .if_icmp .ne 20, 3), (39, .aload_n 0, 1), (40, .aload_n 0, 1), (41, .getfield 63, 3), (44, .iload_n 1, 1), (45, .iaload, 1), (46, .invokevirtual 273, 3), (49, .ifCond .ne 7, 3), (52, .iconst 1, 1), (53, .goto 4, 3), (56, .iconst 0, 1), (57, .ireturn, 1)] : List (Nat × Instr × Nat)).all fun e => decide (decode cX12_isTurned e.1 = .ok e.2)) = true := by decide +kernel
theorem dX12_isTurned_36 : decode cX12_isTurned 36 = .ok (.if_icmp .ne 20, 3) := z_dk tdX12_isTurned_36 0 rfl
theorem dX12_isTurned_39 : decode cX12_isTurned 39 = .ok (.aload_n 0, 1) := z_dk tdX12_isTurned_36 1 rfl
theorem dX12_isTurned_40 : decode cX12_isTurned 40 = .ok (.aload_n 0, 1) := z_dk tdX12_isTurned_36 2 rfl
theorem dX12_isTurned_41 : decode cX12_isTurned 41 = .ok (.getfield 63, 3) := z_dk tdX12_isTurned_36 3 rfl
theorem dX12_isTurned_44 : decode cX12_isTurned 44 = .ok (.iload_n 1, 1) := z_dk tdX12_isTurned_36 4 rfl
theorem dX12_isTurned_45 : decode cX12_isTurned 45 = .ok (.iaload, 1) := z_dk tdX12_isTurned_36 5 rfl
theorem dX12_isTurned_46 : decode cX12_isTurned 46 = .ok (.invokevirtual 273, 3) := z_dk tdX12_isTurned_36 6 rfl
theorem dX12_isTurned_49 : decode cX12_isTurned 49 = .ok (.ifCond .ne 7, 3) := z_dk tdX12_isTurned_36 7 rfl
theorem dX12_isTurned_52 : decode cX12_isTurned 52 = .ok (.iconst 1, 1) := z_dk tdX12_isTurned_36 8 rfl
theorem dX12_isTurned_53 : decode cX12_isTurned 53 = .ok (.goto 4, 3) := z_dk tdX12_isTurned_36 9 rfl
theorem dX12_isTurned_56 : decode cX12_isTurned 56 = .ok (.iconst 0, 1) := z_dk tdX12_isTurned_36 10 rfl
theorem dX12_isTurned_57 : decode cX12_isTurned 57 = .ok (.ireturn, 1) := z_dk tdX12_isTurned_36 11 rfl
theorem tdX12_isPoint_0 : (([(0, .aload_n 0, 1), (1, .getfield 54, 3), (4, .iload_n 1, 1), (5, .iaload, 1), (6, .iconst 3, 1), (7, .if_icmp .eq 13, 3), (10, .aload_n 0, 1), (11, .getfield 54, 3), (14, .iload_n 1, 1), (15, .iaload, 1), (16, .iconst 5, 1), (17, .if_icmp .ne 7, 3), (20, .iconst 1, 1), (21, .goto 4, 3), (24, .iconst 0, 1), (25, .ireturn, 1)] : List (Nat × Instr × Nat)).all fun e => decide (decode cX12_isPoint e.1 = .ok e.2)) = true := by decide +kernel
theorem dX12_isPoint_0 : decode cX12_isPoint 0 = .ok (.aload_n 0, 1) := z_dk tdX12_isPoint_0 0 rfl
theorem dX12_isPoint_1 : decode cX12_isPoint 1 = .ok (.getfield 54, 3) := z_dk tdX12_isPoint_0 1 rfl
theorem dX12_isPoint_4 : decode cX12_isPoint 4 = .ok (.iload_n 1, 1) := z_dk tdX12_isPoint_0 2 rfl
theorem dX12_isPoint_5 : decode cX12_isPoint 5 = .ok (.iaload, 1) := z_dk tdX12_isPoint_0 3 rfl
theorem dX12_isPoint_6 : decode cX12_isPoint 6 = .ok (.iconst 3, 1) := z_dk tdX12_isPoint_0 4 rfl
theorem dX12_isPoint_7 : decode cX12_isPoint 7 = .ok (.if_icmp .eq 13, 3) := z_dk tdX12_isPoint_0 5 rfl
theorem dX12_isPoint_10 : decode cX12_isPoint 10 = .ok (.aload_n 0, 1) := z_dk tdX12_isPoint_0 6 rfl
theorem dX12_isPoint_11 : decode cX12_isPoint 11 = .ok (.getfield 54, 3) := z_dk tdX12_isPoint_0 7 rfl
theorem dX12_isPoint_14 : decode cX12_isPoint 14 = .ok (.iload_n 1, 1) := z_dk tdX12_isPoint_0 8 rfl
theorem dX12_isPoint_15 : decode cX12_isPoint 15 = .ok (.iaload, 1) := z_dk tdX12_isPoint_0 9 rfl
theorem dX12_isPoint_16 : decode cX12_isPoint 16 = .ok (.iconst 5, 1) := z_dk tdX12_isPoint_0 10 rfl
theorem dX12_isPoint_17 : decode cX12_isPoint 17 = .ok (.if_icmp .ne 7, 3) := z_dk tdX12_isPoint_0 11 rfl
theorem dX12_isPoint_20 : decode cX12_isPoint 20 = .ok (.iconst 1, 1) := z_dk tdX12_isPoint_0 12 rfl
theorem dX12_isPoint_21 : decode cX12_isPoint 21 = .ok (.goto 4, 3) := z_dk tdX12_isPoint_0 13 rfl
theorem dX12_isPoint_24 : decode cX12_isPoint 24 = .ok (.iconst 0, 1) := z_dk tdX12_isPoint_0 14 rfl
theorem dX12_isPoint_25 : decode cX12_isPoint 25 = .ok (.ireturn, 1) := z_dk tdX12_isPoint_0 15 rfl
theorem tdX12_laysSpaces_0 : (([(0, .iload_n 1, 1), (1, .istore_n 3, 1), (2, .iload_n 2, 1), (3, .istore 4, 2), (5, .iload_n 3, 1), (6, .iload_n 2, 1), (7, .if_icmp .gt 20, 3), (10, .aload_n 0, 1), (11, .getfield 54, 3), (14, .iload_n 3, 1), (15, .iaload, 1), (16, .bipush 6, 2), (18, .if_icmp .ne 9, 3), (21, .iinc 3 1, 3), (24, .goto (-19), 3), (27, .iload 4, 2), (29, .iload_n 3, 1), (30, .if_icmp .lt 21, 3), (33, .aload_n 0, 1), (34, .getfield 54, 3), (37, .iload 4, 2), (39, .iaload, 1), (40, .bipush 6, 2), (42, .if_icmp .ne 9, 3)] : List (Nat × Instr × Nat)).all fun e => decide (decode cX12_laysSpaces e.1 = .ok e.2)) = true := by decide +kernel
theorem dX12_laysSpaces_0 : decode cX12_laysSpaces 0 = .ok (.iload_n 1, 1) := z_dk tdX12_laysSpaces_0 0 rfl
theorem dX12_laysSpaces_1 : decode cX12_laysSpaces 1 = .ok (.istore_n 3, 1) := z_dk tdX12_laysSpaces_0 1 rfl
theorem dX12_laysSpaces_2 : decode cX12_laysSpaces 2 = .ok (.iload_n 2, 1) := z_dk tdX12_laysSpaces_0 2 rfl
theorem dX12_laysSpaces_3 : decode cX12_laysSpaces 3 = .ok (.istore 4, 2) := z_dk tdX12_laysSpaces_0 3 rfl
theorem dX12_laysSpaces_5 : decode cX12_laysSpaces 5 = .ok (.iload_n 3, 1) := z_dk tdX12_laysSpaces_0 4 rfl
theorem dX12_laysSpaces_6 : decode cX12_laysSpaces 6 = .ok (.iload_n 2, 1) := z_dk tdX12_laysSpaces_0 5 rfl
theorem dX12_laysSpaces_7 : decode cX12_laysSpaces 7 = .ok (.if_icmp .gt 20, 3) := z_dk tdX12_laysSpaces_0 6 rfl
theorem dX12_laysSpaces_10 : decode cX12_laysSpaces 10 = .ok (.aload_n 0, 1) := z_dk tdX12_laysSpaces_0 7 rfl
theorem dX12_laysSpaces_11 : decode cX12_laysSpaces 11 = .ok (.getfield 54, 3) := z_dk tdX12_laysSpaces_0 8 rfl
theorem dX12_laysSpaces_14 : decode cX12_laysSpaces 14 = .ok (.iload_n 3, 1) := z_dk tdX12_laysSpaces_0 9 rfl
theorem dX12_laysSpaces_15 : decode cX12_laysSpaces 15 = .ok (.iaload, 1) := z_dk tdX12_laysSpaces_0 10 rfl
theorem dX12_laysSpaces_16 : decode cX12_laysSpaces 16 = .ok (.bipush 6, 2) := z_dk tdX12_laysSpaces_0 11 rfl
theorem dX12_laysSpaces_18 : decode cX12_laysSpaces 18 = .ok (.if_icmp .ne 9, 3) := z_dk tdX12_laysSpaces_0 12 rfl
theorem dX12_laysSpaces_21 : decode cX12_laysSpaces 21 = .ok (.iinc 3 1, 3) := z_dk tdX12_laysSpaces_0 13 rfl
theorem dX12_laysSpaces_24 : decode cX12_laysSpaces 24 = .ok (.goto (-19), 3) := z_dk tdX12_laysSpaces_0 14 rfl
theorem dX12_laysSpaces_27 : decode cX12_laysSpaces 27 = .ok (.iload 4, 2) := z_dk tdX12_laysSpaces_0 15 rfl
theorem dX12_laysSpaces_29 : decode cX12_laysSpaces 29 = .ok (.iload_n 3, 1) := z_dk tdX12_laysSpaces_0 16 rfl
theorem dX12_laysSpaces_30 : decode cX12_laysSpaces 30 = .ok (.if_icmp .lt 21, 3) := z_dk tdX12_laysSpaces_0 17 rfl
theorem dX12_laysSpaces_33 : decode cX12_laysSpaces 33 = .ok (.aload_n 0, 1) := z_dk tdX12_laysSpaces_0 18 rfl
theorem dX12_laysSpaces_34 : decode cX12_laysSpaces 34 = .ok (.getfield 54, 3) := z_dk tdX12_laysSpaces_0 19 rfl
theorem dX12_laysSpaces_37 : decode cX12_laysSpaces 37 = .ok (.iload 4, 2) := z_dk tdX12_laysSpaces_0 20 rfl
theorem dX12_laysSpaces_39 : decode cX12_laysSpaces 39 = .ok (.iaload, 1) := z_dk tdX12_laysSpaces_0 21 rfl
theorem dX12_laysSpaces_40 : decode cX12_laysSpaces 40 = .ok (.bipush 6, 2) := z_dk tdX12_laysSpaces_0 22 rfl
theorem dX12_laysSpaces_42 : decode cX12_laysSpaces 42 = .ok (.if_icmp .ne 9, 3) := z_dk tdX12_laysSpaces_0 23 rfl
theorem tdX12_laysSpaces_45 : (([(45, .iinc 4 (-1), 3), (48, .goto (-21), 3), (51, .iload_n 1, 1), (52, .istore 5, 2), (54, .iload 5, 2), (56, .iload_n 2, 1), (57, .if_icmp .gt 145, 3), (60, .aload_n 0, 1), (61, .getfield 66, 3), (64, .iload 5, 2), (66, .aload_n 0, 1), (67, .getfield 54, 3), (70, .iload 5, 2), (72, .iaload, 1), (73, .bipush 6, 2), (75, .if_icmp .ne 20, 3), (78, .iload 5, 2), (80, .iload_n 3, 1), (81, .if_icmp .lt 10, 3), (84, .iload 5, 2), (86, .iload 4, 2), (88, .if_icmp .le 7, 3), (91, .iconst 0, 1), (92, .goto 9, 3)] : List (Nat × Instr × Nat)).all fun e => decide (decode cX12_laysSpaces e.1 = .ok e.2)) = true := by decide +kernel
theorem dX12_laysSpaces_45 : decode cX12_laysSpaces 45 = .ok (.iinc 4 (-1), 3) := z_dk tdX12_laysSpaces_45 0 rfl
theorem dX12_laysSpaces_48 : decode cX12_laysSpaces 48 = .ok (.goto (-21), 3) := z_dk tdX12_laysSpaces_45 1 rfl
theorem dX12_laysSpaces_51 : decode cX12_laysSpaces 51 = .ok (.iload_n 1, 1) := z_dk tdX12_laysSpaces_45 2 rfl
theorem dX12_laysSpaces_52 : decode cX12_laysSpaces 52 = .ok (.istore 5, 2) := z_dk tdX12_laysSpaces_45 3 rfl
theorem dX12_laysSpaces_54 : decode cX12_laysSpaces 54 = .ok (.iload 5, 2) := z_dk tdX12_laysSpaces_45 4 rfl
theorem dX12_laysSpaces_56 : decode cX12_laysSpaces 56 = .ok (.iload_n 2, 1) := z_dk tdX12_laysSpaces_45 5 rfl
theorem dX12_laysSpaces_57 : decode cX12_laysSpaces 57 = .ok (.if_icmp .gt 145, 3) := z_dk tdX12_laysSpaces_45 6 rfl
theorem dX12_laysSpaces_60 : decode cX12_laysSpaces 60 = .ok (.aload_n 0, 1) := z_dk tdX12_laysSpaces_45 7 rfl
theorem dX12_laysSpaces_61 : decode cX12_laysSpaces 61 = .ok (.getfield 66, 3) := z_dk tdX12_laysSpaces_45 8 rfl
theorem dX12_laysSpaces_64 : decode cX12_laysSpaces 64 = .ok (.iload 5, 2) := z_dk tdX12_laysSpaces_45 9 rfl
theorem dX12_laysSpaces_66 : decode cX12_laysSpaces 66 = .ok (.aload_n 0, 1) := z_dk tdX12_laysSpaces_45 10 rfl
theorem dX12_laysSpaces_67 : decode cX12_laysSpaces 67 = .ok (.getfield 54, 3) := z_dk tdX12_laysSpaces_45 11 rfl
theorem dX12_laysSpaces_70 : decode cX12_laysSpaces 70 = .ok (.iload 5, 2) := z_dk tdX12_laysSpaces_45 12 rfl
theorem dX12_laysSpaces_72 : decode cX12_laysSpaces 72 = .ok (.iaload, 1) := z_dk tdX12_laysSpaces_45 13 rfl
theorem dX12_laysSpaces_73 : decode cX12_laysSpaces 73 = .ok (.bipush 6, 2) := z_dk tdX12_laysSpaces_45 14 rfl
theorem dX12_laysSpaces_75 : decode cX12_laysSpaces 75 = .ok (.if_icmp .ne 20, 3) := z_dk tdX12_laysSpaces_45 15 rfl
theorem dX12_laysSpaces_78 : decode cX12_laysSpaces 78 = .ok (.iload 5, 2) := z_dk tdX12_laysSpaces_45 16 rfl
theorem dX12_laysSpaces_80 : decode cX12_laysSpaces 80 = .ok (.iload_n 3, 1) := z_dk tdX12_laysSpaces_45 17 rfl
theorem dX12_laysSpaces_81 : decode cX12_laysSpaces 81 = .ok (.if_icmp .lt 10, 3) := z_dk tdX12_laysSpaces_45 18 rfl
theorem dX12_laysSpaces_84 : decode cX12_laysSpaces 84 = .ok (.iload 5, 2) := z_dk tdX12_laysSpaces_45 19 rfl
theorem dX12_laysSpaces_86 : decode cX12_laysSpaces 86 = .ok (.iload 4, 2) := z_dk tdX12_laysSpaces_45 20 rfl
theorem dX12_laysSpaces_88 : decode cX12_laysSpaces 88 = .ok (.if_icmp .le 7, 3) := z_dk tdX12_laysSpaces_45 21 rfl
theorem dX12_laysSpaces_91 : decode cX12_laysSpaces 91 = .ok (.iconst 0, 1) := z_dk tdX12_laysSpaces_45 22 rfl
theorem dX12_laysSpaces_92 : decode cX12_laysSpaces 92 = .ok (.goto 9, 3) := z_dk tdX12_laysSpaces_45 23 rfl
theorem tdX12_laysSpaces_95 : (([(95, .aload_n 0, 1), (96, .iload 5, 2), (98, .invokevirtual 279, 3), (101, .iastore, 1), (102, .aload_n 0, 1), (103, .getfield 69, 3), (106, .iload 5, 2), (108, .aload_n 0, 1), (109, .getfield 54, 3), (112, .iload 5, 2), (114, .iaload, 1), (115, .iconst 4, 1), (116, .if_icmp .ne 38, 3), (119, .iload 5, 2), (121, .iload_n 3, 1), (122, .if_icmp .le 32, 3), (125, .aload_n 0, 1), (126, .iload 5, 2), (128, .iconst 1, 1), (129, .isub, 1), (130, .invokevirtual 282, 3), (133, .ifCond .ne 21, 3), (136, .aload_n 0, 1), (137, .getfield 54, 3)] : List (Nat × Instr × Nat)).all fun e => decide (decode cX12_laysSpaces e.1 = .ok e.2)) = true := by decide +kernel
theorem dX12_laysSpaces_95 : decode cX12_laysSpaces 95 = .ok (.aload_n 0, 1) := z_dk tdX12_laysSpaces_95 0 rfl
theorem dX12_laysSpaces_96 : decode cX12_laysSpaces 96 = .ok (.iload 5, 2) := z_dk tdX12_laysSpaces_95 1 rfl
theorem dX12_laysSpaces_98 : decode cX12_laysSpaces 98 = .ok (.invokevirtual 279, 3) := z_dk tdX12_laysSpaces_95 2 rfl
theorem dX12_laysSpaces_101 : decode cX12_laysSpaces 101 = .ok (.iastore, 1) := z_dk tdX12_laysSpaces_95 3 rfl
theorem dX12_laysSpaces_102 : decode cX12_laysSpaces 102 = .ok (.aload_n 0, 1) := z_dk tdX12_laysSpaces_95 4 rfl
theorem dX12_laysSpaces_103 : decode cX12_laysSpaces 103 = .ok (.getfield 69, 3) := z_dk tdX12_laysSpaces_95 5 rfl
theorem dX12_laysSpaces_106 : decode cX12_laysSpaces 106 = .ok (.iload 5, 2) := z_dk tdX12_laysSpaces_95 6 rfl
theorem dX12_laysSpaces_108 : decode cX12_laysSpaces 108 = .ok (.aload_n 0, 1) := z_dk tdX12_laysSpaces_95 7 rfl
theorem dX12_laysSpaces_109 : decode cX12_laysSpaces 109 = .ok (.getfield 54, 3) := z_dk tdX12_laysSpaces_95 8 rfl
theorem dX12_laysSpaces_112 : decode cX12_laysSpaces 112 = .ok (.iload 5, 2) := z_dk tdX12_laysSpaces_95 9 rfl
theorem dX12_laysSpaces_114 : decode cX12_laysSpaces 114 = .ok (.iaload, 1) := z_dk tdX12_laysSpaces_95 10 rfl
theorem dX12_laysSpaces_115 : decode cX12_laysSpaces 115 = .ok (.iconst 4, 1) := z_dk tdX12_laysSpaces_95 11 rfl
theorem dX12_laysSpaces_116 : decode cX12_laysSpaces 116 = .ok (.if_icmp .ne 38, 3) := z_dk tdX12_laysSpaces_95 12 rfl
theorem dX12_laysSpaces_119 : decode cX12_laysSpaces 119 = .ok (.iload 5, 2) := z_dk tdX12_laysSpaces_95 13 rfl
theorem dX12_laysSpaces_121 : decode cX12_laysSpaces 121 = .ok (.iload_n 3, 1) := z_dk tdX12_laysSpaces_95 14 rfl
theorem dX12_laysSpaces_122 : decode cX12_laysSpaces 122 = .ok (.if_icmp .le 32, 3) := z_dk tdX12_laysSpaces_95 15 rfl
theorem dX12_laysSpaces_125 : decode cX12_laysSpaces 125 = .ok (.aload_n 0, 1) := z_dk tdX12_laysSpaces_95 16 rfl
theorem dX12_laysSpaces_126 : decode cX12_laysSpaces 126 = .ok (.iload 5, 2) := z_dk tdX12_laysSpaces_95 17 rfl
theorem dX12_laysSpaces_128 : decode cX12_laysSpaces 128 = .ok (.iconst 1, 1) := z_dk tdX12_laysSpaces_95 18 rfl
theorem dX12_laysSpaces_129 : decode cX12_laysSpaces 129 = .ok (.isub, 1) := z_dk tdX12_laysSpaces_95 19 rfl
theorem dX12_laysSpaces_130 : decode cX12_laysSpaces 130 = .ok (.invokevirtual 282, 3) := z_dk tdX12_laysSpaces_95 20 rfl
theorem dX12_laysSpaces_133 : decode cX12_laysSpaces 133 = .ok (.ifCond .ne 21, 3) := z_dk tdX12_laysSpaces_95 21 rfl
theorem dX12_laysSpaces_136 : decode cX12_laysSpaces 136 = .ok (.aload_n 0, 1) := z_dk tdX12_laysSpaces_95 22 rfl
theorem dX12_laysSpaces_137 : decode cX12_laysSpaces 137 = .ok (.getfield 54, 3) := z_dk tdX12_laysSpaces_95 23 rfl
theorem tdX12_laysSpaces_140 : (([(140, .iload 5, 2), (142, .iconst 1, 1), (143, .isub, 1), (144, .iaload, 1), (145, .iconst 4, 1), (146, .if_icmp .eq 8, 3), (149, .bipush 6, 2), (151, .goto 4, 3), (154, .iconst 0, 1), (155, .iastore, 1), (156, .aload_n 0, 1), (157, .getfield 72, 3), (160, .iload 5, 2), (162, .aload_n 0, 1), (163, .iload 5, 2), (165, .invokevirtual 282, 3), (168, .ifCond .eq 26, 3), (171, .iload 5, 2), (173, .iload 4, 2), (175, .if_icmp .ge 19, 3), (178, .aload_n 0, 1), (179, .iload 5, 2), (181, .iconst 1, 1), (182, .iadd, 1)] : List (Nat × Instr × Nat)).all fun e => decide (decode cX12_laysSpaces e.1 = .ok e.2)) = true := by decide +kernel
theorem dX12_laysSpaces_140 : decode cX12_laysSpaces 140 = .ok (.iload 5, 2) := z_dk tdX12_laysSpaces_140 0 rfl
theorem dX12_laysSpaces_142 : decode cX12_laysSpaces 142 = .ok (.iconst 1, 1) := z_dk tdX12_laysSpaces_140 1 rfl
theorem dX12_laysSpaces_143 : decode cX12_laysSpaces 143 = .ok (.isub, 1) := z_dk tdX12_laysSpaces_140 2 rfl
theorem dX12_laysSpaces_144 : decode cX12_laysSpaces 144 = .ok (.iaload, 1) := z_dk tdX12_laysSpaces_140 3 rfl
theorem dX12_laysSpaces_145 : decode cX12_laysSpaces 145 = .ok (.iconst 4, 1) := z_dk tdX12_laysSpaces_140 4 rfl
theorem dX12_laysSpaces_146 : decode cX12_laysSpaces 146 = .ok (.if_icmp .eq 8, 3) := z_dk tdX12_laysSpaces_140 5 rfl
theorem dX12_laysSpaces_149 : decode cX12_laysSpaces 149 = .ok (.bipush 6, 2) := z_dk tdX12_laysSpaces_140 6 rfl
theorem dX12_laysSpaces_151 : decode cX12_laysSpaces 151 = .ok (.goto 4, 3) := z_dk tdX12_laysSpaces_140 7 rfl
theorem dX12_laysSpaces_154 : decode cX12_laysSpaces 154 = .ok (.iconst 0, 1) := z_dk tdX12_laysSpaces_140 8 rfl
theorem dX12_laysSpaces_155 : decode cX12_laysSpaces 155 = .ok (.iastore, 1) := z_dk tdX12_laysSpaces_140 9 rfl
theorem dX12_laysSpaces_156 : decode cX12_laysSpaces 156 = .ok (.aload_n 0, 1) := z_dk tdX12_laysSpaces_140 10 rfl
theorem dX12_laysSpaces_157 : decode cX12_laysSpaces 157 = .ok (.getfield 72, 3) := z_dk tdX12_laysSpaces_140 11 rfl
theorem dX12_laysSpaces_160 : decode cX12_laysSpaces 160 = .ok (.iload 5, 2) := z_dk tdX12_laysSpaces_140 12 rfl
theorem dX12_laysSpaces_162 : decode cX12_laysSpaces 162 = .ok (.aload_n 0, 1) := z_dk tdX12_laysSpaces_140 13 rfl
theorem dX12_laysSpaces_163 : decode cX12_laysSpaces 163 = .ok (.iload 5, 2) := z_dk tdX12_laysSpaces_140 14 rfl
theorem dX12_laysSpaces_165 : decode cX12_laysSpaces 165 = .ok (.invokevirtual 282, 3) := z_dk tdX12_laysSpaces_140 15 rfl
theorem dX12_laysSpaces_168 : decode cX12_laysSpaces 168 = .ok (.ifCond .eq 26, 3) := z_dk tdX12_laysSpaces_140 16 rfl
theorem dX12_laysSpaces_171 : decode cX12_laysSpaces 171 = .ok (.iload 5, 2) := z_dk tdX12_laysSpaces_140 17 rfl
theorem dX12_laysSpaces_173 : decode cX12_laysSpaces 173 = .ok (.iload 4, 2) := z_dk tdX12_laysSpaces_140 18 rfl
theorem dX12_laysSpaces_175 : decode cX12_laysSpaces 175 = .ok (.if_icmp .ge 19, 3) := z_dk tdX12_laysSpaces_140 19 rfl
theorem dX12_laysSpaces_178 : decode cX12_laysSpaces 178 = .ok (.aload_n 0, 1) := z_dk tdX12_laysSpaces_140 20 rfl
theorem dX12_laysSpaces_179 : decode cX12_laysSpaces 179 = .ok (.iload 5, 2) := z_dk tdX12_laysSpaces_140 21 rfl
theorem dX12_laysSpaces_181 : decode cX12_laysSpaces 181 = .ok (.iconst 1, 1) := z_dk tdX12_laysSpaces_140 22 rfl
theorem dX12_laysSpaces_182 : decode cX12_laysSpaces 182 = .ok (.iadd, 1) := z_dk tdX12_laysSpaces_140 23 rfl
theorem tdX12_laysSpaces_183 : (([(183, .invokevirtual 282, 3), (186, .ifCond .ne 8, 3), (189, .bipush 6, 2), (191, .goto 4, 3), (194, .iconst 0, 1), (195, .iastore, 1), (196, .iinc 5 1, 3), (199, .goto (-145), 3), (202, .aload_n 0, 1), (203, .aload_n 0, 1), (204, .getfield 20, 3), (207, .bipush 6, 2), (209, .iaload, 1), (210, .iconst 1, 1), (211, .if_icmp .ne 23, 3), (214, .iload_n 3, 1), (215, .iload_n 2, 1), (216, .if_icmp .gt 18, 3), (219, .aload_n 0, 1), (220, .getfield 54, 3), (223, .iload 4, 2), (225, .iaload, 1), (226, .iconst 3, 1), (227, .if_icmp .ne 7, 3)] : List (Nat × Instr × Nat)).all fun e => decide (decode cX12_laysSpaces e.1 = .ok e.2)) = true := by decide +kernel
theorem dX12_laysSpaces_183 : decode cX12_laysSpaces 183 = .ok (.invokevirtual 282, 3) := z_dk tdX12_laysSpaces_183 0 rfl
theorem dX12_laysSpaces_186 : decode cX12_laysSpaces 186 = .ok (.ifCond .ne 8, 3) := z_dk tdX12_laysSpaces_183 1 rfl
theorem dX12_laysSpaces_189 : decode cX12_laysSpaces 189 = .ok (.bipush 6, 2) := z_dk tdX12_laysSpaces_183 2 rfl
theorem dX12_laysSpaces_191 : decode cX12_laysSpaces 191 = .ok (.goto 4, 3) := z_dk tdX12_laysSpaces_183 3 rfl
theorem dX12_laysSpaces_194 : decode cX12_laysSpaces 194 = .ok (.iconst 0, 1) := z_dk tdX12_laysSpaces_183 4 rfl
theorem dX12_laysSpaces_195 : decode cX12_laysSpaces 195 = .ok (.iastore, 1) := z_dk tdX12_laysSpaces_183 5 rfl
theorem dX12_laysSpaces_196 : decode cX12_laysSpaces 196 = .ok (.iinc 5 1, 3) := z_dk tdX12_laysSpaces_183 6 rfl
theorem dX12_laysSpaces_199 : decode cX12_laysSpaces 199 = .ok (.goto (-145), 3) := z_dk tdX12_laysSpaces_183 7 rfl
theorem dX12_laysSpaces_202 : decode cX12_laysSpaces 202 = .ok (.aload_n 0, 1) := z_dk tdX12_laysSpaces_183 8 rfl
theorem dX12_laysSpaces_203 : decode cX12_laysSpaces 203 = .ok (.aload_n 0, 1) := z_dk tdX12_laysSpaces_183 9 rfl
theorem dX12_laysSpaces_204 : decode cX12_laysSpaces 204 = .ok (.getfield 20, 3) := z_dk tdX12_laysSpaces_183 10 rfl
theorem dX12_laysSpaces_207 : decode cX12_laysSpaces 207 = .ok (.bipush 6, 2) := z_dk tdX12_laysSpaces_183 11 rfl
theorem dX12_laysSpaces_209 : decode cX12_laysSpaces 209 = .ok (.iaload, 1) := z_dk tdX12_laysSpaces_183 12 rfl
theorem dX12_laysSpaces_210 : decode cX12_laysSpaces 210 = .ok (.iconst 1, 1) := z_dk tdX12_laysSpaces_183 13 rfl
theorem dX12_laysSpaces_211 : decode cX12_laysSpaces 211 = .ok (.if_icmp .ne 23, 3) := z_dk tdX12_laysSpaces_183 14 rfl
theorem dX12_laysSpaces_214 : decode cX12_laysSpaces 214 = .ok (.iload_n 3, 1) := z_dk tdX12_laysSpaces_183 15 rfl
theorem dX12_laysSpaces_215 : decode cX12_laysSpaces 215 = .ok (.iload_n 2, 1) := z_dk tdX12_laysSpaces_183 16 rfl
theorem dX12_laysSpaces_216 : decode cX12_laysSpaces 216 = .ok (.if_icmp .gt 18, 3) := z_dk tdX12_laysSpaces_183 17 rfl
theorem dX12_laysSpaces_219 : decode cX12_laysSpaces 219 = .ok (.aload_n 0, 1) := z_dk tdX12_laysSpaces_183 18 rfl
theorem dX12_laysSpaces_220 : decode cX12_laysSpaces 220 = .ok (.getfield 54, 3) := z_dk tdX12_laysSpaces_183 19 rfl
theorem dX12_laysSpaces_223 : decode cX12_laysSpaces 223 = .ok (.iload 4, 2) := z_dk tdX12_laysSpaces_183 20 rfl
theorem dX12_laysSpaces_225 : decode cX12_laysSpaces 225 = .ok (.iaload, 1) := z_dk tdX12_laysSpaces_183 21 rfl
theorem dX12_laysSpaces_226 : decode cX12_laysSpaces 226 = .ok (.iconst 3, 1) := z_dk tdX12_laysSpaces_183 22 rfl
theorem dX12_laysSpaces_227 : decode cX12_laysSpaces 227 = .ok (.if_icmp .ne 7, 3) := z_dk tdX12_laysSpaces_183 23 rfl
theorem tdX12_laysSpaces_230 : (([(230, .iconst 1, 1), (231, .goto 4, 3), (234, .iconst 0, 1), (235, .putfield 285, 3), (238, .aload_n 0, 1), (239, .getfield 285, 3), (242, .ifCond .eq 11, 3), (245, .aload_n 0, 1), (246, .getfield 66, 3), (249, .iload 4, 2), (251, .iconst 0, 1), (252, .iastore, 1), (253, .return_, 1)] : List (Nat × Instr × Nat)).all fun e => decide (decode cX12_laysSpaces e.1 = .ok e.2)) = true := by decide +kernel
theorem dX12_laysSpaces_230 : decode cX12_laysSpaces 230 = .ok (.iconst 1, 1) := z_dk tdX12_laysSpaces_230 0 rfl
theorem dX12_laysSpaces_231 : decode cX12_laysSpaces 231 = .ok (.goto 4, 3) := z_dk tdX12_laysSpaces_230 1 rfl
theorem dX12_laysSpaces_234 : decode cX12_laysSpaces 234 = .ok (.iconst 0, 1) := z_dk tdX12_laysSpaces_230 2 rfl
theorem dX12_laysSpaces_235 : decode cX12_laysSpaces 235 = .ok (.putfield 285, 3) := z_dk tdX12_laysSpaces_230 3 rfl
theorem dX12_laysSpaces_238 : decode cX12_laysSpaces 238 = .ok (.aload_n 0, 1) := z_dk tdX12_laysSpaces_230 4 rfl
theorem dX12_laysSpaces_239 : decode cX12_laysSpaces 239 = .ok (.getfield 285, 3) := z_dk tdX12_laysSpaces_230 5 rfl
theorem dX12_laysSpaces_242 : decode cX12_laysSpaces 242 = .ok (.ifCond .eq 11, 3) := z_dk tdX12_laysSpaces_230 6 rfl
theorem dX12_laysSpaces_245 : decode cX12_laysSpaces 245 = .ok (.aload_n 0, 1) := z_dk tdX12_laysSpaces_230 7 rfl
theorem dX12_laysSpaces_246 : decode cX12_laysSpaces 246 = .ok (.getfield 66, 3) := z_dk tdX12_laysSpaces_230 8 rfl
theorem dX12_laysSpaces_249 : decode cX12_laysSpaces 249 = .ok (.iload 4, 2) := z_dk tdX12_laysSpaces_230 9 rfl
theorem dX12_laysSpaces_251 : decode cX12_laysSpaces 251 = .ok (.iconst 0, 1) := z_dk tdX12_laysSpaces_230 10 rfl
theorem dX12_laysSpaces_252 : decode cX12_laysSpaces 252 = .ok (.iastore, 1) := z_dk tdX12_laysSpaces_230 11 rfl
theorem dX12_laysSpaces_253 : decode cX12_laysSpaces 253 = .ok (.return_, 1) := z_dk tdX12_laysSpaces_230 12 rfl
theorem tdX12_laysBlocks_0 : (([(0, .iload_n 1, 1), (1, .istore_n 3, 1), (2, .iload_n 3, 1), (3, .iload_n 2, 1), (4, .if_icmp .gt 44, 3), (7, .aload_n 0, 1), (8, .getfield 81, 3), (11, .iload_n 3, 1), (12, .iconst 0, 1), (13, .iastore, 1), (14, .aload_n 0, 1), (15, .getfield 84, 3), (18, .iload_n 3, 1), (19, .iconst 0, 1), (20, .iastore, 1), (21, .aload_n 0, 1), (22, .getfield 87, 3), (25, .iload_n 3, 1), (26, .iconst 0, 1), (27, .iastore, 1), (28, .aload_n 0, 1), (29, .getfield 75, 3), (32, .iload_n 3, 1), (33, .iconst 0, 1)] : List (Nat × Instr × Nat)).all fun e => decide (decode cX12_laysBlocks e.1 = .ok e.2)) = true := by decide +kernel
theorem dX12_laysBlocks_0 : decode cX12_laysBlocks 0 = .ok (.iload_n 1, 1) := z_dk tdX12_laysBlocks_0 0 rfl
theorem dX12_laysBlocks_1 : decode cX12_laysBlocks 1 = .ok (.istore_n 3, 1) := z_dk tdX12_laysBlocks_0 1 rfl
theorem dX12_laysBlocks_2 : decode cX12_laysBlocks 2 = .ok (.iload_n 3, 1) := z_dk tdX12_laysBlocks_0 2 rfl
theorem dX12_laysBlocks_3 : decode cX12_laysBlocks 3 = .ok (.iload_n 2, 1) := z_dk tdX12_laysBlocks_0 3 rfl
theorem dX12_laysBlocks_4 : decode cX12_laysBlocks 4 = .ok (.if_icmp .gt 44, 3) := z_dk tdX12_laysBlocks_0 4 rfl
theorem dX12_laysBlocks_7 : decode cX12_laysBlocks 7 = .ok (.aload_n 0, 1) := z_dk tdX12_laysBlocks_0 5 rfl
theorem dX12_laysBlocks_8 : decode cX12_laysBlocks 8 = .ok (.getfield 81, 3) := z_dk tdX12_laysBlocks_0 6 rfl
theorem dX12_laysBlocks_11 : decode cX12_laysBlocks 11 = .ok (.iload_n 3, 1) := z_dk tdX12_laysBlocks_0 7 rfl
theorem dX12_laysBlocks_12 : decode cX12_laysBlocks 12 = .ok (.iconst 0, 1) := z_dk tdX12_laysBlocks_0 8 rfl
theorem dX12_laysBlocks_13 : decode cX12_laysBlocks 13 = .ok (.iastore, 1) := z_dk tdX12_laysBlocks_0 9 rfl
theorem dX12_laysBlocks_14 : decode cX12_laysBlocks 14 = .ok (.aload_n 0, 1) := z_dk tdX12_laysBlocks_0 10 rfl
theorem dX12_laysBlocks_15 : decode cX12_laysBlocks 15 = .ok (.getfield 84, 3) := z_dk tdX12_laysBlocks_0 11 rfl
theorem dX12_laysBlocks_18 : decode cX12_laysBlocks 18 = .ok (.iload_n 3, 1) := z_dk tdX12_laysBlocks_0 12 rfl
theorem dX12_laysBlocks_19 : decode cX12_laysBlocks 19 = .ok (.iconst 0, 1) := z_dk tdX12_laysBlocks_0 13 rfl
theorem dX12_laysBlocks_20 : decode cX12_laysBlocks 20 = .ok (.iastore, 1) := z_dk tdX12_laysBlocks_0 14 rfl
theorem dX12_laysBlocks_21 : decode cX12_laysBlocks 21 = .ok (.aload_n 0, 1) := z_dk tdX12_laysBlocks_0 15 rfl
theorem dX12_laysBlocks_22 : decode cX12_laysBlocks 22 = .ok (.getfield 87, 3) := z_dk tdX12_laysBlocks_0 16 rfl
theorem dX12_laysBlocks_25 : decode cX12_laysBlocks 25 = .ok (.iload_n 3, 1) := z_dk tdX12_laysBlocks_0 17 rfl
theorem dX12_laysBlocks_26 : decode cX12_laysBlocks 26 = .ok (.iconst 0, 1) := z_dk tdX12_laysBlocks_0 18 rfl
theorem dX12_laysBlocks_27 : decode cX12_laysBlocks 27 = .ok (.iastore, 1) := z_dk tdX12_laysBlocks_0 19 rfl
theorem dX12_laysBlocks_28 : decode cX12_laysBlocks 28 = .ok (.aload_n 0, 1) := z_dk tdX12_laysBlocks_0 20 rfl
theorem dX12_laysBlocks_29 : decode cX12_laysBlocks 29 = .ok (.getfield 75, 3) := z_dk tdX12_laysBlocks_0 21 rfl
theorem dX12_laysBlocks_32 : decode cX12_laysBlocks 32 = .ok (.iload_n 3, 1) := z_dk tdX12_laysBlocks_0 22 rfl
theorem dX12_laysBlocks_33 : decode cX12_laysBlocks 33 = .ok (.iconst 0, 1) := z_dk tdX12_laysBlocks_0 23 rfl
theorem tdX12_laysBlocks_34 : (([(34, .iastore, 1), (35, .aload_n 0, 1), (36, .getfield 78, 3), (39, .iload_n 3, 1), (40, .iconst 0, 1), (41, .iastore, 1), (42, .iinc 3 1, 3), (45, .goto (-43), 3), (48, .iload_n 1, 1), (49, .istore_n 3, 1), (50, .iload_n 3, 1), (51, .iload_n 2, 1), (52, .if_icmp .gt 191, 3), (55, .aload_n 0, 1), (56, .getfield 54, 3), (59, .iload_n 3, 1), (60, .iaload, 1), (61, .bipush 7, 2), (63, .if_icmp .eq 9, 3), (66, .iinc 3 1, 3), (69, .goto (-19), 3), (72, .iconst 0, 1), (73, .istore 4, 2), (75, .iconst 0, 1)] : List (Nat × Instr × Nat)).all fun e => decide (decode cX12_laysBlocks e.1 = .ok e.2)) = true := by decide +kernel
theorem dX12_laysBlocks_34 : decode cX12_laysBlocks 34 = .ok (.iastore, 1) := z_dk tdX12_laysBlocks_34 0 rfl
theorem dX12_laysBlocks_35 : decode cX12_laysBlocks 35 = .ok (.aload_n 0, 1) := z_dk tdX12_laysBlocks_34 1 rfl
theorem dX12_laysBlocks_36 : decode cX12_laysBlocks 36 = .ok (.getfield 78, 3) := z_dk tdX12_laysBlocks_34 2 rfl
theorem dX12_laysBlocks_39 : decode cX12_laysBlocks 39 = .ok (.iload_n 3, 1) := z_dk tdX12_laysBlocks_34 3 rfl
theorem dX12_laysBlocks_40 : decode cX12_laysBlocks 40 = .ok (.iconst 0, 1) := z_dk tdX12_laysBlocks_34 4 rfl
theorem dX12_laysBlocks_41 : decode cX12_laysBlocks 41 = .ok (.iastore, 1) := z_dk tdX12_laysBlocks_34 5 rfl
theorem dX12_laysBlocks_42 : decode cX12_laysBlocks 42 = .ok (.iinc 3 1, 3) := z_dk tdX12_laysBlocks_34 6 rfl
theorem dX12_laysBlocks_45 : decode cX12_laysBlocks 45 = .ok (.goto (-43), 3) := z_dk tdX12_laysBlocks_34 7 rfl
theorem dX12_laysBlocks_48 : decode cX12_laysBlocks 48 = .ok (.iload_n 1, 1) := z_dk tdX12_laysBlocks_34 8 rfl
theorem dX12_laysBlocks_49 : decode cX12_laysBlocks 49 = .ok (.istore_n 3, 1) := z_dk tdX12_laysBlocks_34 9 rfl
theorem dX12_laysBlocks_50 : decode cX12_laysBlocks 50 = .ok (.iload_n 3, 1) := z_dk tdX12_laysBlocks_34 10 rfl
theorem dX12_laysBlocks_51 : decode cX12_laysBlocks 51 = .ok (.iload_n 2, 1) := z_dk tdX12_laysBlocks_34 11 rfl
theorem dX12_laysBlocks_52 : decode cX12_laysBlocks 52 = .ok (.if_icmp .gt 191, 3) := z_dk tdX12_laysBlocks_34 12 rfl
theorem dX12_laysBlocks_55 : decode cX12_laysBlocks 55 = .ok (.aload_n 0, 1) := z_dk tdX12_laysBlocks_34 13 rfl
theorem dX12_laysBlocks_56 : decode cX12_laysBlocks 56 = .ok (.getfield 54, 3) := z_dk tdX12_laysBlocks_34 14 rfl
theorem dX12_laysBlocks_59 : decode cX12_laysBlocks 59 = .ok (.iload_n 3, 1) := z_dk tdX12_laysBlocks_34 15 rfl
theorem dX12_laysBlocks_60 : decode cX12_laysBlocks 60 = .ok (.iaload, 1) := z_dk tdX12_laysBlocks_34 16 rfl
theorem dX12_laysBlocks_61 : decode cX12_laysBlocks 61 = .ok (.bipush 7, 2) := z_dk tdX12_laysBlocks_34 17 rfl
theorem dX12_laysBlocks_63 : decode cX12_laysBlocks 63 = .ok (.if_icmp .eq 9, 3) := z_dk tdX12_laysBlocks_34 18 rfl
theorem dX12_laysBlocks_66 : decode cX12_laysBlocks 66 = .ok (.iinc 3 1, 3) := z_dk tdX12_laysBlocks_34 19 rfl
theorem dX12_laysBlocks_69 : decode cX12_laysBlocks 69 = .ok (.goto (-19), 3) := z_dk tdX12_laysBlocks_34 20 rfl
theorem dX12_laysBlocks_72 : decode cX12_laysBlocks 72 = .ok (.iconst 0, 1) := z_dk tdX12_laysBlocks_34 21 rfl
theorem dX12_laysBlocks_73 : decode cX12_laysBlocks 73 = .ok (.istore 4, 2) := z_dk tdX12_laysBlocks_34 22 rfl
theorem dX12_laysBlocks_75 : decode cX12_laysBlocks 75 = .ok (.iconst 0, 1) := z_dk tdX12_laysBlocks_34 23 rfl
theorem tdX12_laysBlocks_76 : (([(76, .istore 5, 2), (78, .iconst 0, 1), (79, .istore 6, 2), (81, .iconst 0, 1), (82, .istore 7, 2), (84, .iload_n 3, 1), (85, .iload 4, 2), (87, .iadd, 1), (88, .iload_n 2, 1), (89, .if_icmp .gt 67, 3), (92, .aload_n 0, 1), (93, .iload_n 3, 1), (94, .iload 4, 2), (96, .iadd, 1), (97, .invokevirtual 288, 3), (100, .aload_n 0, 1), (101, .iload_n 3, 1), (102, .invokevirtual 288, 3), (105, .if_icmp .ne 51, 3), (108, .iload 5, 2), (110, .aload_n 0, 1), (111, .iload_n 3, 1), (112, .iload 4, 2), (114, .iadd, 1)] : List (Nat × Instr × Nat)).all fun e => decide (decode cX12_laysBlocks e.1 = .ok e.2)) = true := by decide +kernel
theorem dX12_laysBlocks_76 : decode cX12_laysBlocks 76 = .ok (.istore 5, 2) := z_dk tdX12_laysBlocks_76 0 rfl
theorem dX12_laysBlocks_78 : decode cX12_laysBlocks 78 = .ok (.iconst 0, 1) := z_dk tdX12_laysBlocks_76 1 rfl
theorem dX12_laysBlocks_79 : decode cX12_laysBlocks 79 = .ok (.istore 6, 2) := z_dk tdX12_laysBlocks_76 2 rfl
theorem dX12_laysBlocks_81 : decode cX12_laysBlocks 81 = .ok (.iconst 0, 1) := z_dk tdX12_laysBlocks_76 3 rfl
theorem dX12_laysBlocks_82 : decode cX12_laysBlocks 82 = .ok (.istore 7, 2) := z_dk tdX12_laysBlocks_76 4 rfl
theorem dX12_laysBlocks_84 : decode cX12_laysBlocks 84 = .ok (.iload_n 3, 1) := z_dk tdX12_laysBlocks_76 5 rfl
theorem dX12_laysBlocks_85 : decode cX12_laysBlocks 85 = .ok (.iload 4, 2) := z_dk tdX12_laysBlocks_76 6 rfl
theorem dX12_laysBlocks_87 : decode cX12_laysBlocks 87 = .ok (.iadd, 1) := z_dk tdX12_laysBlocks_76 7 rfl
theorem dX12_laysBlocks_88 : decode cX12_laysBlocks 88 = .ok (.iload_n 2, 1) := z_dk tdX12_laysBlocks_76 8 rfl
theorem dX12_laysBlocks_89 : decode cX12_laysBlocks 89 = .ok (.if_icmp .gt 67, 3) := z_dk tdX12_laysBlocks_76 9 rfl
theorem dX12_laysBlocks_92 : decode cX12_laysBlocks 92 = .ok (.aload_n 0, 1) := z_dk tdX12_laysBlocks_76 10 rfl
theorem dX12_laysBlocks_93 : decode cX12_laysBlocks 93 = .ok (.iload_n 3, 1) := z_dk tdX12_laysBlocks_76 11 rfl
theorem dX12_laysBlocks_94 : decode cX12_laysBlocks 94 = .ok (.iload 4, 2) := z_dk tdX12_laysBlocks_76 12 rfl
theorem dX12_laysBlocks_96 : decode cX12_laysBlocks 96 = .ok (.iadd, 1) := z_dk tdX12_laysBlocks_76 13 rfl
theorem dX12_laysBlocks_97 : decode cX12_laysBlocks 97 = .ok (.invokevirtual 288, 3) := z_dk tdX12_laysBlocks_76 14 rfl
theorem dX12_laysBlocks_100 : decode cX12_laysBlocks 100 = .ok (.aload_n 0, 1) := z_dk tdX12_laysBlocks_76 15 rfl
theorem dX12_laysBlocks_101 : decode cX12_laysBlocks 101 = .ok (.iload_n 3, 1) := z_dk tdX12_laysBlocks_76 16 rfl
theorem dX12_laysBlocks_102 : decode cX12_laysBlocks 102 = .ok (.invokevirtual 288, 3) := z_dk tdX12_laysBlocks_76 17 rfl
theorem dX12_laysBlocks_105 : decode cX12_laysBlocks 105 = .ok (.if_icmp .ne 51, 3) := z_dk tdX12_laysBlocks_76 18 rfl
theorem dX12_laysBlocks_108 : decode cX12_laysBlocks 108 = .ok (.iload 5, 2) := z_dk tdX12_laysBlocks_76 19 rfl
theorem dX12_laysBlocks_110 : decode cX12_laysBlocks 110 = .ok (.aload_n 0, 1) := z_dk tdX12_laysBlocks_76 20 rfl
theorem dX12_laysBlocks_111 : decode cX12_laysBlocks 111 = .ok (.iload_n 3, 1) := z_dk tdX12_laysBlocks_76 21 rfl
theorem dX12_laysBlocks_112 : decode cX12_laysBlocks 112 = .ok (.iload 4, 2) := z_dk tdX12_laysBlocks_76 22 rfl
theorem dX12_laysBlocks_114 : decode cX12_laysBlocks 114 = .ok (.iadd, 1) := z_dk tdX12_laysBlocks_76 23 rfl
theorem tdX12_laysBlocks_115 : (([(115, .iconst 0, 1), (116, .invokevirtual 291, 3), (119, .iadd, 1), (120, .istore 5, 2), (122, .iload 6, 2), (124, .aload_n 0, 1), (125, .iload_n 3, 1), (126, .iload 4, 2), (128, .iadd, 1), (129, .iconst 1, 1), (130, .invokevirtual 291, 3), (133, .iadd, 1), (134, .istore 6, 2), (136, .iload 7, 2), (138, .aload_n 0, 1), (139, .getfield 66, 3), (142, .iload_n 3, 1), (143, .iload 4, 2), (145, .iadd, 1), (146, .iaload, 1), (147, .iadd, 1), (148, .istore 7, 2), (150, .iinc 4 1, 3), (153, .goto (-69), 3)] : List (Nat × Instr × Nat)).all fun e => decide (decode cX12_laysBlocks e.1 = .ok e.2)) = true := by decide +kernel
theorem dX12_laysBlocks_115 : decode cX12_laysBlocks 115 = .ok (.iconst 0, 1) := z_dk tdX12_laysBlocks_115 0 rfl
theorem dX12_laysBlocks_116 : decode cX12_laysBlocks 116 = .ok (.invokevirtual 291, 3) := z_dk tdX12_laysBlocks_115 1 rfl
theorem dX12_laysBlocks_119 : decode cX12_laysBlocks 119 = .ok (.iadd, 1) := z_dk tdX12_laysBlocks_115 2 rfl
theorem dX12_laysBlocks_120 : decode cX12_laysBlocks 120 = .ok (.istore 5, 2) := z_dk tdX12_laysBlocks_115 3 rfl
theorem dX12_laysBlocks_122 : decode cX12_laysBlocks 122 = .ok (.iload 6, 2) := z_dk tdX12_laysBlocks_115 4 rfl
theorem dX12_laysBlocks_124 : decode cX12_laysBlocks 124 = .ok (.aload_n 0, 1) := z_dk tdX12_laysBlocks_115 5 rfl
theorem dX12_laysBlocks_125 : decode cX12_laysBlocks 125 = .ok (.iload_n 3, 1) := z_dk tdX12_laysBlocks_115 6 rfl
theorem dX12_laysBlocks_126 : decode cX12_laysBlocks 126 = .ok (.iload 4, 2) := z_dk tdX12_laysBlocks_115 7 rfl
theorem dX12_laysBlocks_128 : decode cX12_laysBlocks 128 = .ok (.iadd, 1) := z_dk tdX12_laysBlocks_115 8 rfl
theorem dX12_laysBlocks_129 : decode cX12_laysBlocks 129 = .ok (.iconst 1, 1) := z_dk tdX12_laysBlocks_115 9 rfl
theorem dX12_laysBlocks_130 : decode cX12_laysBlocks 130 = .ok (.invokevirtual 291, 3) := z_dk tdX12_laysBlocks_115 10 rfl
theorem dX12_laysBlocks_133 : decode cX12_laysBlocks 133 = .ok (.iadd, 1) := z_dk tdX12_laysBlocks_115 11 rfl
theorem dX12_laysBlocks_134 : decode cX12_laysBlocks 134 = .ok (.istore 6, 2) := z_dk tdX12_laysBlocks_115 12 rfl
theorem dX12_laysBlocks_136 : decode cX12_laysBlocks 136 = .ok (.iload 7, 2) := z_dk tdX12_laysBlocks_115 13 rfl
theorem dX12_laysBlocks_138 : decode cX12_laysBlocks 138 = .ok (.aload_n 0, 1) := z_dk tdX12_laysBlocks_115 14 rfl
theorem dX12_laysBlocks_139 : decode cX12_laysBlocks 139 = .ok (.getfield 66, 3) := z_dk tdX12_laysBlocks_115 15 rfl
theorem dX12_laysBlocks_142 : decode cX12_laysBlocks 142 = .ok (.iload_n 3, 1) := z_dk tdX12_laysBlocks_115 16 rfl
theorem dX12_laysBlocks_143 : decode cX12_laysBlocks 143 = .ok (.iload 4, 2) := z_dk tdX12_laysBlocks_115 17 rfl
theorem dX12_laysBlocks_145 : decode cX12_laysBlocks 145 = .ok (.iadd, 1) := z_dk tdX12_laysBlocks_115 18 rfl
theorem dX12_laysBlocks_146 : decode cX12_laysBlocks 146 = .ok (.iaload, 1) := z_dk tdX12_laysBlocks_115 19 rfl
theorem dX12_laysBlocks_147 : decode cX12_laysBlocks 147 = .ok (.iadd, 1) := z_dk tdX12_laysBlocks_115 20 rfl
theorem dX12_laysBlocks_148 : decode cX12_laysBlocks 148 = .ok (.istore 7, 2) := z_dk tdX12_laysBlocks_115 21 rfl
theorem dX12_laysBlocks_150 : decode cX12_laysBlocks 150 = .ok (.iinc 4 1, 3) := z_dk tdX12_laysBlocks_115 22 rfl
theorem dX12_laysBlocks_153 : decode cX12_laysBlocks 153 = .ok (.goto (-69), 3) := z_dk tdX12_laysBlocks_115 23 rfl
theorem tdX12_laysBlocks_156 : (([(156, .aload_n 0, 1), (157, .getfield 81, 3), (160, .iload_n 3, 1), (161, .iload 4, 2), (163, .iastore, 1), (164, .aload_n 0, 1), (165, .getfield 93, 3), (168, .iload_n 3, 1), (169, .iload 7, 2), (171, .iastore, 1), (172, .aload_n 0, 1), (173, .getfield 90, 3), (176, .iload_n 3, 1), (177, .iconst 0, 1), (178, .bipush 6, 2), (180, .iload 5, 2), (182, .iload 6, 2), (184, .invokestatic 256, 3), (187, .imul, 1), (188, .iload 7, 2), (190, .isub, 1), (191, .invokestatic 256, 3), (194, .iastore, 1), (195, .aload_n 0, 1)] : List (Nat × Instr × Nat)).all fun e => decide (decode cX12_laysBlocks e.1 = .ok e.2)) = true := by decide +kernel
theorem dX12_laysBlocks_156 : decode cX12_laysBlocks 156 = .ok (.aload_n 0, 1) := z_dk tdX12_laysBlocks_156 0 rfl
theorem dX12_laysBlocks_157 : decode cX12_laysBlocks 157 = .ok (.getfield 81, 3) := z_dk tdX12_laysBlocks_156 1 rfl
theorem dX12_laysBlocks_160 : decode cX12_laysBlocks 160 = .ok (.iload_n 3, 1) := z_dk tdX12_laysBlocks_156 2 rfl
theorem dX12_laysBlocks_161 : decode cX12_laysBlocks 161 = .ok (.iload 4, 2) := z_dk tdX12_laysBlocks_156 3 rfl
theorem dX12_laysBlocks_163 : decode cX12_laysBlocks 163 = .ok (.iastore, 1) := z_dk tdX12_laysBlocks_156 4 rfl
theorem dX12_laysBlocks_164 : decode cX12_laysBlocks 164 = .ok (.aload_n 0, 1) := z_dk tdX12_laysBlocks_156 5 rfl
theorem dX12_laysBlocks_165 : decode cX12_laysBlocks 165 = .ok (.getfield 93, 3) := z_dk tdX12_laysBlocks_156 6 rfl
theorem dX12_laysBlocks_168 : decode cX12_laysBlocks 168 = .ok (.iload_n 3, 1) := z_dk tdX12_laysBlocks_156 7 rfl
theorem dX12_laysBlocks_169 : decode cX12_laysBlocks 169 = .ok (.iload 7, 2) := z_dk tdX12_laysBlocks_156 8 rfl
theorem dX12_laysBlocks_171 : decode cX12_laysBlocks 171 = .ok (.iastore, 1) := z_dk tdX12_laysBlocks_156 9 rfl
theorem dX12_laysBlocks_172 : decode cX12_laysBlocks 172 = .ok (.aload_n 0, 1) := z_dk tdX12_laysBlocks_156 10 rfl
theorem dX12_laysBlocks_173 : decode cX12_laysBlocks 173 = .ok (.getfield 90, 3) := z_dk tdX12_laysBlocks_156 11 rfl
theorem dX12_laysBlocks_176 : decode cX12_laysBlocks 176 = .ok (.iload_n 3, 1) := z_dk tdX12_laysBlocks_156 12 rfl
theorem dX12_laysBlocks_177 : decode cX12_laysBlocks 177 = .ok (.iconst 0, 1) := z_dk tdX12_laysBlocks_156 13 rfl
theorem dX12_laysBlocks_178 : decode cX12_laysBlocks 178 = .ok (.bipush 6, 2) := z_dk tdX12_laysBlocks_156 14 rfl
theorem dX12_laysBlocks_180 : decode cX12_laysBlocks 180 = .ok (.iload 5, 2) := z_dk tdX12_laysBlocks_156 15 rfl
theorem dX12_laysBlocks_182 : decode cX12_laysBlocks 182 = .ok (.iload 6, 2) := z_dk tdX12_laysBlocks_156 16 rfl
theorem dX12_laysBlocks_184 : decode cX12_laysBlocks 184 = .ok (.invokestatic 256, 3) := z_dk tdX12_laysBlocks_156 17 rfl
theorem dX12_laysBlocks_187 : decode cX12_laysBlocks 187 = .ok (.imul, 1) := z_dk tdX12_laysBlocks_156 18 rfl
theorem dX12_laysBlocks_188 : decode cX12_laysBlocks 188 = .ok (.iload 7, 2) := z_dk tdX12_laysBlocks_156 19 rfl
theorem dX12_laysBlocks_190 : decode cX12_laysBlocks 190 = .ok (.isub, 1) := z_dk tdX12_laysBlocks_156 20 rfl
theorem dX12_laysBlocks_191 : decode cX12_laysBlocks 191 = .ok (.invokestatic 256, 3) := z_dk tdX12_laysBlocks_156 21 rfl
theorem dX12_laysBlocks_194 : decode cX12_laysBlocks 194 = .ok (.iastore, 1) := z_dk tdX12_laysBlocks_156 22 rfl
theorem dX12_laysBlocks_195 : decode cX12_laysBlocks 195 = .ok (.aload_n 0, 1) := z_dk tdX12_laysBlocks_156 23 rfl
theorem tdX12_laysBlocks_196 : (([(196, .getfield 84, 3), (199, .iload_n 3, 1), (200, .aload_n 0, 1), (201, .getfield 90, 3), (204, .iload_n 3, 1), (205, .iaload, 1), (206, .iconst 2, 1), (207, .idiv, 1), (208, .iastore, 1), (209, .aload_n 0, 1), (210, .getfield 87, 3), (213, .iload_n 3, 1), (214, .iload 4, 2), (216, .iadd, 1), (217, .iconst 1, 1), (218, .isub, 1), (219, .aload_n 0, 1), (220, .getfield 90, 3), (223, .iload_n 3, 1), (224, .iaload, 1), (225, .aload_n 0, 1), (226, .getfield 90, 3), (229, .iload_n 3, 1), (230, .iaload, 1)] : List (Nat × Instr × Nat)).all fun e => decide (decode cX12_laysBlocks e.1 = .ok e.2)) = true := by decide +kernel
theorem dX12_laysBlocks_196 : decode cX12_laysBlocks 196 = .ok (.getfield 84, 3) := z_dk tdX12_laysBlocks_196 0 rfl
theorem dX12_laysBlocks_199 : decode cX12_laysBlocks 199 = .ok (.iload_n 3, 1) := z_dk tdX12_laysBlocks_196 1 rfl
theorem dX12_laysBlocks_200 : decode cX12_laysBlocks 200 = .ok (.aload_n 0, 1) := z_dk tdX12_laysBlocks_196 2 rfl
theorem dX12_laysBlocks_201 : decode cX12_laysBlocks 201 = .ok (.getfield 90, 3) := z_dk tdX12_laysBlocks_196 3 rfl
theorem dX12_laysBlocks_204 : decode cX12_laysBlocks 204 = .ok (.iload_n 3, 1) := z_dk tdX12_laysBlocks_196 4 rfl
theorem dX12_laysBlocks_205 : decode cX12_laysBlocks 205 = .ok (.iaload, 1) := z_dk tdX12_laysBlocks_196 5 rfl
theorem dX12_laysBlocks_206 : decode cX12_laysBlocks 206 = .ok (.iconst 2, 1) := z_dk tdX12_laysBlocks_196 6 rfl
theorem dX12_laysBlocks_207 : decode cX12_laysBlocks 207 = .ok (.idiv, 1) := z_dk tdX12_laysBlocks_196 7 rfl
theorem dX12_laysBlocks_208 : decode cX12_laysBlocks 208 = .ok (.iastore, 1) := z_dk tdX12_laysBlocks_196 8 rfl
theorem dX12_laysBlocks_209 : decode cX12_laysBlocks 209 = .ok (.aload_n 0, 1) := z_dk tdX12_laysBlocks_196 9 rfl
theorem dX12_laysBlocks_210 : decode cX12_laysBlocks 210 = .ok (.getfield 87, 3) := z_dk tdX12_laysBlocks_196 10 rfl
theorem dX12_laysBlocks_213 : decode cX12_laysBlocks 213 = .ok (.iload_n 3, 1) := z_dk tdX12_laysBlocks_196 11 rfl
theorem dX12_laysBlocks_214 : decode cX12_laysBlocks 214 = .ok (.iload 4, 2) := z_dk tdX12_laysBlocks_196 12 rfl
theorem dX12_laysBlocks_216 : decode cX12_laysBlocks 216 = .ok (.iadd, 1) := z_dk tdX12_laysBlocks_196 13 rfl
theorem dX12_laysBlocks_217 : decode cX12_laysBlocks 217 = .ok (.iconst 1, 1) := z_dk tdX12_laysBlocks_196 14 rfl
theorem dX12_laysBlocks_218 : decode cX12_laysBlocks 218 = .ok (.isub, 1) := z_dk tdX12_laysBlocks_196 15 rfl
theorem dX12_laysBlocks_219 : decode cX12_laysBlocks 219 = .ok (.aload_n 0, 1) := z_dk tdX12_laysBlocks_196 16 rfl
theorem dX12_laysBlocks_220 : decode cX12_laysBlocks 220 = .ok (.getfield 90, 3) := z_dk tdX12_laysBlocks_196 17 rfl
theorem dX12_laysBlocks_223 : decode cX12_laysBlocks 223 = .ok (.iload_n 3, 1) := z_dk tdX12_laysBlocks_196 18 rfl
theorem dX12_laysBlocks_224 : decode cX12_laysBlocks 224 = .ok (.iaload, 1) := z_dk tdX12_laysBlocks_196 19 rfl
theorem dX12_laysBlocks_225 : decode cX12_laysBlocks 225 = .ok (.aload_n 0, 1) := z_dk tdX12_laysBlocks_196 20 rfl
theorem dX12_laysBlocks_226 : decode cX12_laysBlocks 226 = .ok (.getfield 90, 3) := z_dk tdX12_laysBlocks_196 21 rfl
theorem dX12_laysBlocks_229 : decode cX12_laysBlocks 229 = .ok (.iload_n 3, 1) := z_dk tdX12_laysBlocks_196 22 rfl
theorem dX12_laysBlocks_230 : decode cX12_laysBlocks 230 = .ok (.iaload, 1) := z_dk tdX12_laysBlocks_196 23 rfl
theorem tdX12_laysBlocks_231 : (([(231, .iconst 2, 1), (232, .idiv, 1), (233, .isub, 1), (234, .iastore, 1), (235, .iload_n 3, 1), (236, .iload 4, 2), (238, .iadd, 1), (239, .istore_n 3, 1), (240, .goto (-190), 3), (243, .return_, 1)] : List (Nat × Instr × Nat)).all fun e => decide (decode cX12_laysBlocks e.1 = .ok e.2)) = true := by decide +kernel
theorem dX12_laysBlocks_231 : decode cX12_laysBlocks 231 = .ok (.iconst 2, 1) := z_dk tdX12_laysBlocks_231 0 rfl
theorem dX12_laysBlocks_232 : decode cX12_laysBlocks 232 = .ok (.idiv, 1) := z_dk tdX12_laysBlocks_231 1 rfl
theorem dX12_laysBlocks_233 : decode cX12_laysBlocks 233 = .ok (.isub, 1) := z_dk tdX12_laysBlocks_231 2 rfl
theorem dX12_laysBlocks_234 : decode cX12_laysBlocks 234 = .ok (.iastore, 1) := z_dk tdX12_laysBlocks_231 3 rfl
theorem dX12_laysBlocks_235 : decode cX12_laysBlocks 235 = .ok (.iload_n 3, 1) := z_dk tdX12_laysBlocks_231 4 rfl
theorem dX12_laysBlocks_236 : decode cX12_laysBlocks 236 = .ok (.iload 4, 2) := z_dk tdX12_laysBlocks_231 5 rfl
theorem dX12_laysBlocks_238 : decode cX12_laysBlocks 238 = .ok (.iadd, 1) := z_dk tdX12_laysBlocks_231 6 rfl
theorem dX12_laysBlocks_239 : decode cX12_laysBlocks 239 = .ok (.istore_n 3, 1) := z_dk tdX12_laysBlocks_231 7 rfl
theorem dX12_laysBlocks_240 : decode cX12_laysBlocks 240 = .ok (.goto (-190), 3) := z_dk tdX12_laysBlocks_231 8 rfl
theorem dX12_laysBlocks_243 : decode cX12_laysBlocks 243 = .ok (.return_, 1) := z_dk tdX12_laysBlocks_231 9 rfl
theorem tdX12_lends_0 : (([(0, .aload_n 0, 1), (1, .getfield 54, 3), (4, .iload_n 1, 1), (5, .iaload, 1), (6, .ifCond .eq 23, 3), (9, .aload_n 0, 1), (10, .getfield 54, 3), (13, .iload_n 1, 1), (14, .iaload, 1), (15, .iconst 1, 1), (16, .if_icmp .eq 13, 3), (19, .aload_n 0, 1), (20, .getfield 54, 3), (23, .iload_n 1, 1), (24, .iaload, 1), (25, .iconst 2, 1), (26, .if_icmp .ne 10, 3), (29, .aload_n 0, 1), (30, .getfield 20, 3), (33, .iconst 2, 1), (34, .iaload, 1), (35, .ireturn, 1), (36, .aload_n 0, 1), (37, .getfield 54, 3)] : List (Nat × Instr × Nat)).all fun e => decide (decode cX12_lends e.1 = .ok e.2)) = true := by decide +kernel
theorem dX12_lends_0 : decode cX12_lends 0 = .ok (.aload_n 0, 1) := z_dk tdX12_lends_0 0 rfl
theorem dX12_lends_1 : decode cX12_lends 1 = .ok (.getfield 54, 3) := z_dk tdX12_lends_0 1 rfl
theorem dX12_lends_4 : decode cX12_lends 4 = .ok (.iload_n 1, 1) := z_dk tdX12_lends_0 2 rfl
theorem dX12_lends_5 : decode cX12_lends 5 = .ok (.iaload, 1) := z_dk tdX12_lends_0 3 rfl
theorem dX12_lends_6 : decode cX12_lends 6 = .ok (.ifCond .eq 23, 3) := z_dk tdX12_lends_0 4 rfl
theorem dX12_lends_9 : decode cX12_lends 9 = .ok (.aload_n 0, 1) := z_dk tdX12_lends_0 5 rfl
theorem dX12_lends_10 : decode cX12_lends 10 = .ok (.getfield 54, 3) := z_dk tdX12_lends_0 6 rfl
theorem dX12_lends_13 : decode cX12_lends 13 = .ok (.iload_n 1, 1) := z_dk tdX12_lends_0 7 rfl
theorem dX12_lends_14 : decode cX12_lends 14 = .ok (.iaload, 1) := z_dk tdX12_lends_0 8 rfl
theorem dX12_lends_15 : decode cX12_lends 15 = .ok (.iconst 1, 1) := z_dk tdX12_lends_0 9 rfl
theorem dX12_lends_16 : decode cX12_lends 16 = .ok (.if_icmp .eq 13, 3) := z_dk tdX12_lends_0 10 rfl
theorem dX12_lends_19 : decode cX12_lends 19 = .ok (.aload_n 0, 1) := z_dk tdX12_lends_0 11 rfl
theorem dX12_lends_20 : decode cX12_lends 20 = .ok (.getfield 54, 3) := z_dk tdX12_lends_0 12 rfl
theorem dX12_lends_23 : decode cX12_lends 23 = .ok (.iload_n 1, 1) := z_dk tdX12_lends_0 13 rfl
theorem dX12_lends_24 : decode cX12_lends 24 = .ok (.iaload, 1) := z_dk tdX12_lends_0 14 rfl
theorem dX12_lends_25 : decode cX12_lends 25 = .ok (.iconst 2, 1) := z_dk tdX12_lends_0 15 rfl
theorem dX12_lends_26 : decode cX12_lends 26 = .ok (.if_icmp .ne 10, 3) := z_dk tdX12_lends_0 16 rfl
theorem dX12_lends_29 : decode cX12_lends 29 = .ok (.aload_n 0, 1) := z_dk tdX12_lends_0 17 rfl
theorem dX12_lends_30 : decode cX12_lends 30 = .ok (.getfield 20, 3) := z_dk tdX12_lends_0 18 rfl
theorem dX12_lends_33 : decode cX12_lends 33 = .ok (.iconst 2, 1) := z_dk tdX12_lends_0 19 rfl
theorem dX12_lends_34 : decode cX12_lends 34 = .ok (.iaload, 1) := z_dk tdX12_lends_0 20 rfl
theorem dX12_lends_35 : decode cX12_lends 35 = .ok (.ireturn, 1) := z_dk tdX12_lends_0 21 rfl
theorem dX12_lends_36 : decode cX12_lends 36 = .ok (.aload_n 0, 1) := z_dk tdX12_lends_0 22 rfl
theorem dX12_lends_37 : decode cX12_lends 37 = .ok (.getfield 54, 3) := z_dk tdX12_lends_0 23 rfl
theorem tdX12_lends_40 : (([(40, .iload_n 1, 1), (41, .iaload, 1), (42, .bipush 6, 2), (44, .if_icmp .ne 10, 3), (47, .aload_n 0, 1), (48, .getfield 66, 3), (51, .iload_n 1, 1), (52, .iaload, 1), (53, .ireturn, 1), (54, .iload_n 2, 1), (55, .ifCond .eq 12, 3), (58, .aload_n 0, 1), (59, .getfield 72, 3), (62, .iload_n 1, 1), (63, .iaload, 1), (64, .goto 9, 3), (67, .aload_n 0, 1), (68, .getfield 69, 3), (71, .iload_n 1, 1), (72, .iaload, 1), (73, .ireturn, 1)] : List (Nat × Instr × Nat)).all fun e => decide (decode cX12_lends e.1 = .ok e.2)) = true := by decide +kernel
theorem dX12_lends_40 : decode cX12_lends 40 = .ok (.iload_n 1, 1) := z_dk tdX12_lends_40 0 rfl
theorem dX12_lends_41 : decode cX12_lends 41 = .ok (.iaload, 1) := z_dk tdX12_lends_40 1 rfl
theorem dX12_lends_42 : decode cX12_lends 42 = .ok (.bipush 6, 2) := z_dk tdX12_lends_40 2 rfl
theorem dX12_lends_44 : decode cX12_lends 44 = .ok (.if_icmp .ne 10, 3) := z_dk tdX12_lends_40 3 rfl
theorem dX12_lends_47 : decode cX12_lends 47 = .ok (.aload_n 0, 1) := z_dk tdX12_lends_40 4 rfl
theorem dX12_lends_48 : decode cX12_lends 48 = .ok (.getfield 66, 3) := z_dk tdX12_lends_40 5 rfl
theorem dX12_lends_51 : decode cX12_lends 51 = .ok (.iload_n 1, 1) := z_dk tdX12_lends_40 6 rfl
theorem dX12_lends_52 : decode cX12_lends 52 = .ok (.iaload, 1) := z_dk tdX12_lends_40 7 rfl
theorem dX12_lends_53 : decode cX12_lends 53 = .ok (.ireturn, 1) := z_dk tdX12_lends_40 8 rfl
theorem dX12_lends_54 : decode cX12_lends 54 = .ok (.iload_n 2, 1) := z_dk tdX12_lends_40 9 rfl
theorem dX12_lends_55 : decode cX12_lends 55 = .ok (.ifCond .eq 12, 3) := z_dk tdX12_lends_40 10 rfl
theorem dX12_lends_58 : decode cX12_lends 58 = .ok (.aload_n 0, 1) := z_dk tdX12_lends_40 11 rfl
theorem dX12_lends_59 : decode cX12_lends 59 = .ok (.getfield 72, 3) := z_dk tdX12_lends_40 12 rfl
theorem dX12_lends_62 : decode cX12_lends 62 = .ok (.iload_n 1, 1) := z_dk tdX12_lends_40 13 rfl
theorem dX12_lends_63 : decode cX12_lends 63 = .ok (.iaload, 1) := z_dk tdX12_lends_40 14 rfl
theorem dX12_lends_64 : decode cX12_lends 64 = .ok (.goto 9, 3) := z_dk tdX12_lends_40 15 rfl
theorem dX12_lends_67 : decode cX12_lends 67 = .ok (.aload_n 0, 1) := z_dk tdX12_lends_40 16 rfl
theorem dX12_lends_68 : decode cX12_lends 68 = .ok (.getfield 69, 3) := z_dk tdX12_lends_40 17 rfl
theorem dX12_lends_71 : decode cX12_lends 71 = .ok (.iload_n 1, 1) := z_dk tdX12_lends_40 18 rfl
theorem dX12_lends_72 : decode cX12_lends 72 = .ok (.iaload, 1) := z_dk tdX12_lends_40 19 rfl
theorem dX12_lends_73 : decode cX12_lends 73 = .ok (.ireturn, 1) := z_dk tdX12_lends_40 20 rfl
theorem tdX12_mayAhead_0 : (([(0, .iload_n 1, 1), (1, .iload_n 2, 1), (2, .if_icmp .ne 5, 3), (5, .iconst 0, 1), (6, .ireturn, 1), (7, .aload_n 0, 1), (8, .iload_n 1, 1), (9, .iconst 1, 1), (10, .isub, 1), (11, .iconst 1, 1), (12, .invokevirtual 294, 3), (15, .istore 4, 2), (17, .iload_n 1, 1), (18, .iconst 2, 1), (19, .isub, 1), (20, .iload_n 2, 1), (21, .if_icmp .lt 34, 3), (24, .aload_n 0, 1), (25, .getfield 54, 3), (28, .iload_n 1, 1), (29, .iconst 1, 1), (30, .isub, 1), (31, .iaload, 1), (32, .bipush 7, 2)] : List (Nat × Instr × Nat)).all fun e => decide (decode cX12_mayAhead e.1 = .ok e.2)) = true := by decide +kernel
theorem dX12_mayAhead_0 : decode cX12_mayAhead 0 = .ok (.iload_n 1, 1) := z_dk tdX12_mayAhead_0 0 rfl
theorem dX12_mayAhead_1 : decode cX12_mayAhead 1 = .ok (.iload_n 2, 1) := z_dk tdX12_mayAhead_0 1 rfl
theorem dX12_mayAhead_2 : decode cX12_mayAhead 2 = .ok (.if_icmp .ne 5, 3) := z_dk tdX12_mayAhead_0 2 rfl
theorem dX12_mayAhead_5 : decode cX12_mayAhead 5 = .ok (.iconst 0, 1) := z_dk tdX12_mayAhead_0 3 rfl
theorem dX12_mayAhead_6 : decode cX12_mayAhead 6 = .ok (.ireturn, 1) := z_dk tdX12_mayAhead_0 4 rfl
theorem dX12_mayAhead_7 : decode cX12_mayAhead 7 = .ok (.aload_n 0, 1) := z_dk tdX12_mayAhead_0 5 rfl
theorem dX12_mayAhead_8 : decode cX12_mayAhead 8 = .ok (.iload_n 1, 1) := z_dk tdX12_mayAhead_0 6 rfl
theorem dX12_mayAhead_9 : decode cX12_mayAhead 9 = .ok (.iconst 1, 1) := z_dk tdX12_mayAhead_0 7 rfl
theorem dX12_mayAhead_10 : decode cX12_mayAhead 10 = .ok (.isub, 1) := z_dk tdX12_mayAhead_0 8 rfl
theorem dX12_mayAhead_11 : decode cX12_mayAhead 11 = .ok (.iconst 1, 1) := z_dk tdX12_mayAhead_0 9 rfl
theorem dX12_mayAhead_12 : decode cX12_mayAhead 12 = .ok (.invokevirtual 294, 3) := z_dk tdX12_mayAhead_0 10 rfl
theorem dX12_mayAhead_15 : decode cX12_mayAhead 15 = .ok (.istore 4, 2) := z_dk tdX12_mayAhead_0 11 rfl
theorem dX12_mayAhead_17 : decode cX12_mayAhead 17 = .ok (.iload_n 1, 1) := z_dk tdX12_mayAhead_0 12 rfl
theorem dX12_mayAhead_18 : decode cX12_mayAhead 18 = .ok (.iconst 2, 1) := z_dk tdX12_mayAhead_0 13 rfl
theorem dX12_mayAhead_19 : decode cX12_mayAhead 19 = .ok (.isub, 1) := z_dk tdX12_mayAhead_0 14 rfl
theorem dX12_mayAhead_20 : decode cX12_mayAhead 20 = .ok (.iload_n 2, 1) := z_dk tdX12_mayAhead_0 15 rfl
theorem dX12_mayAhead_21 : decode cX12_mayAhead 21 = .ok (.if_icmp .lt 34, 3) := z_dk tdX12_mayAhead_0 16 rfl
theorem dX12_mayAhead_24 : decode cX12_mayAhead 24 = .ok (.aload_n 0, 1) := z_dk tdX12_mayAhead_0 17 rfl
theorem dX12_mayAhead_25 : decode cX12_mayAhead 25 = .ok (.getfield 54, 3) := z_dk tdX12_mayAhead_0 18 rfl
theorem dX12_mayAhead_28 : decode cX12_mayAhead 28 = .ok (.iload_n 1, 1) := z_dk tdX12_mayAhead_0 19 rfl
theorem dX12_mayAhead_29 : decode cX12_mayAhead 29 = .ok (.iconst 1, 1) := z_dk tdX12_mayAhead_0 20 rfl
theorem dX12_mayAhead_30 : decode cX12_mayAhead 30 = .ok (.isub, 1) := z_dk tdX12_mayAhead_0 21 rfl
theorem dX12_mayAhead_31 : decode cX12_mayAhead 31 = .ok (.iaload, 1) := z_dk tdX12_mayAhead_0 22 rfl
theorem dX12_mayAhead_32 : decode cX12_mayAhead 32 = .ok (.bipush 7, 2) := z_dk tdX12_mayAhead_0 23 rfl
theorem tdX12_mayAhead_34 : (([(34, .if_icmp .eq 21, 3), (37, .aload_n 0, 1), (38, .getfield 87, 3), (41, .iload_n 1, 1), (42, .iconst 2, 1), (43, .isub, 1), (44, .iaload, 1), (45, .ifCond .le 10, 3), (48, .iload 4, 2), (50, .iconst 2, 1), (51, .idiv, 1), (52, .goto 5, 3), (55, .iload 4, 2), (57, .ireturn, 1)] : List (Nat × Instr × Nat)).all fun e => decide (decode cX12_mayAhead e.1 = .ok e.2)) = true := by decide +kernel
theorem dX12_mayAhead_34 : decode cX12_mayAhead 34 = .ok (.if_icmp .eq 21, 3) := z_dk tdX12_mayAhead_34 0 rfl
theorem dX12_mayAhead_37 : decode cX12_mayAhead 37 = .ok (.aload_n 0, 1) := z_dk tdX12_mayAhead_34 1 rfl
theorem dX12_mayAhead_38 : decode cX12_mayAhead 38 = .ok (.getfield 87, 3) := z_dk tdX12_mayAhead_34 2 rfl
theorem dX12_mayAhead_41 : decode cX12_mayAhead 41 = .ok (.iload_n 1, 1) := z_dk tdX12_mayAhead_34 3 rfl
theorem dX12_mayAhead_42 : decode cX12_mayAhead 42 = .ok (.iconst 2, 1) := z_dk tdX12_mayAhead_34 4 rfl
theorem dX12_mayAhead_43 : decode cX12_mayAhead 43 = .ok (.isub, 1) := z_dk tdX12_mayAhead_34 5 rfl
theorem dX12_mayAhead_44 : decode cX12_mayAhead 44 = .ok (.iaload, 1) := z_dk tdX12_mayAhead_34 6 rfl
theorem dX12_mayAhead_45 : decode cX12_mayAhead 45 = .ok (.ifCond .le 10, 3) := z_dk tdX12_mayAhead_34 7 rfl
theorem dX12_mayAhead_48 : decode cX12_mayAhead 48 = .ok (.iload 4, 2) := z_dk tdX12_mayAhead_34 8 rfl
theorem dX12_mayAhead_50 : decode cX12_mayAhead 50 = .ok (.iconst 2, 1) := z_dk tdX12_mayAhead_34 9 rfl
theorem dX12_mayAhead_51 : decode cX12_mayAhead 51 = .ok (.idiv, 1) := z_dk tdX12_mayAhead_34 10 rfl
theorem dX12_mayAhead_52 : decode cX12_mayAhead 52 = .ok (.goto 5, 3) := z_dk tdX12_mayAhead_34 11 rfl
theorem dX12_mayAhead_55 : decode cX12_mayAhead 55 = .ok (.iload 4, 2) := z_dk tdX12_mayAhead_34 12 rfl
theorem dX12_mayAhead_57 : decode cX12_mayAhead 57 = .ok (.ireturn, 1) := z_dk tdX12_mayAhead_34 13 rfl
theorem tdX12_mayBehind_0 : (([(0, .iload_n 1, 1), (1, .iload_n 3, 1), (2, .if_icmp .ne 5, 3), (5, .iconst 0, 1), (6, .ireturn, 1), (7, .aload_n 0, 1), (8, .iload_n 1, 1), (9, .iconst 1, 1), (10, .iadd, 1), (11, .iconst 0, 1), (12, .invokevirtual 294, 3), (15, .istore 4, 2), (17, .iload_n 1, 1), (18, .iconst 2, 1), (19, .iadd, 1), (20, .iload_n 3, 1), (21, .if_icmp .gt 34, 3), (24, .aload_n 0, 1), (25, .getfield 54, 3), (28, .iload_n 1, 1), (29, .iconst 1, 1), (30, .iadd, 1), (31, .iaload, 1), (32, .bipush 7, 2)] : List (Nat × Instr × Nat)).all fun e => decide (decode cX12_mayBehind e.1 = .ok e.2)) = true := by decide +kernel
theorem dX12_mayBehind_0 : decode cX12_mayBehind 0 = .ok (.iload_n 1, 1) := z_dk tdX12_mayBehind_0 0 rfl
theorem dX12_mayBehind_1 : decode cX12_mayBehind 1 = .ok (.iload_n 3, 1) := z_dk tdX12_mayBehind_0 1 rfl
theorem dX12_mayBehind_2 : decode cX12_mayBehind 2 = .ok (.if_icmp .ne 5, 3) := z_dk tdX12_mayBehind_0 2 rfl
theorem dX12_mayBehind_5 : decode cX12_mayBehind 5 = .ok (.iconst 0, 1) := z_dk tdX12_mayBehind_0 3 rfl
theorem dX12_mayBehind_6 : decode cX12_mayBehind 6 = .ok (.ireturn, 1) := z_dk tdX12_mayBehind_0 4 rfl
theorem dX12_mayBehind_7 : decode cX12_mayBehind 7 = .ok (.aload_n 0, 1) := z_dk tdX12_mayBehind_0 5 rfl
theorem dX12_mayBehind_8 : decode cX12_mayBehind 8 = .ok (.iload_n 1, 1) := z_dk tdX12_mayBehind_0 6 rfl
theorem dX12_mayBehind_9 : decode cX12_mayBehind 9 = .ok (.iconst 1, 1) := z_dk tdX12_mayBehind_0 7 rfl
theorem dX12_mayBehind_10 : decode cX12_mayBehind 10 = .ok (.iadd, 1) := z_dk tdX12_mayBehind_0 8 rfl
theorem dX12_mayBehind_11 : decode cX12_mayBehind 11 = .ok (.iconst 0, 1) := z_dk tdX12_mayBehind_0 9 rfl
theorem dX12_mayBehind_12 : decode cX12_mayBehind 12 = .ok (.invokevirtual 294, 3) := z_dk tdX12_mayBehind_0 10 rfl
theorem dX12_mayBehind_15 : decode cX12_mayBehind 15 = .ok (.istore 4, 2) := z_dk tdX12_mayBehind_0 11 rfl
theorem dX12_mayBehind_17 : decode cX12_mayBehind 17 = .ok (.iload_n 1, 1) := z_dk tdX12_mayBehind_0 12 rfl
theorem dX12_mayBehind_18 : decode cX12_mayBehind 18 = .ok (.iconst 2, 1) := z_dk tdX12_mayBehind_0 13 rfl
theorem dX12_mayBehind_19 : decode cX12_mayBehind 19 = .ok (.iadd, 1) := z_dk tdX12_mayBehind_0 14 rfl
theorem dX12_mayBehind_20 : decode cX12_mayBehind 20 = .ok (.iload_n 3, 1) := z_dk tdX12_mayBehind_0 15 rfl
theorem dX12_mayBehind_21 : decode cX12_mayBehind 21 = .ok (.if_icmp .gt 34, 3) := z_dk tdX12_mayBehind_0 16 rfl
theorem dX12_mayBehind_24 : decode cX12_mayBehind 24 = .ok (.aload_n 0, 1) := z_dk tdX12_mayBehind_0 17 rfl
theorem dX12_mayBehind_25 : decode cX12_mayBehind 25 = .ok (.getfield 54, 3) := z_dk tdX12_mayBehind_0 18 rfl
theorem dX12_mayBehind_28 : decode cX12_mayBehind 28 = .ok (.iload_n 1, 1) := z_dk tdX12_mayBehind_0 19 rfl
theorem dX12_mayBehind_29 : decode cX12_mayBehind 29 = .ok (.iconst 1, 1) := z_dk tdX12_mayBehind_0 20 rfl
theorem dX12_mayBehind_30 : decode cX12_mayBehind 30 = .ok (.iadd, 1) := z_dk tdX12_mayBehind_0 21 rfl
theorem dX12_mayBehind_31 : decode cX12_mayBehind 31 = .ok (.iaload, 1) := z_dk tdX12_mayBehind_0 22 rfl
theorem dX12_mayBehind_32 : decode cX12_mayBehind 32 = .ok (.bipush 7, 2) := z_dk tdX12_mayBehind_0 23 rfl
theorem tdX12_mayBehind_34 : (([(34, .if_icmp .eq 21, 3), (37, .aload_n 0, 1), (38, .getfield 84, 3), (41, .iload_n 1, 1), (42, .iconst 2, 1), (43, .iadd, 1), (44, .iaload, 1), (45, .ifCond .le 10, 3), (48, .iload 4, 2), (50, .iconst 2, 1), (51, .idiv, 1), (52, .goto 5, 3), (55, .iload 4, 2), (57, .ireturn, 1)] : List (Nat × Instr × Nat)).all fun e => decide (decode cX12_mayBehind e.1 = .ok e.2)) = true := by decide +kernel
theorem dX12_mayBehind_34 : decode cX12_mayBehind 34 = .ok (.if_icmp .eq 21, 3) := z_dk tdX12_mayBehind_34 0 rfl
theorem dX12_mayBehind_37 : decode cX12_mayBehind 37 = .ok (.aload_n 0, 1) := z_dk tdX12_mayBehind_34 1 rfl
theorem dX12_mayBehind_38 : decode cX12_mayBehind 38 = .ok (.getfield 84, 3) := z_dk tdX12_mayBehind_34 2 rfl
theorem dX12_mayBehind_41 : decode cX12_mayBehind 41 = .ok (.iload_n 1, 1) := z_dk tdX12_mayBehind_34 3 rfl
theorem dX12_mayBehind_42 : decode cX12_mayBehind 42 = .ok (.iconst 2, 1) := z_dk tdX12_mayBehind_34 4 rfl
theorem dX12_mayBehind_43 : decode cX12_mayBehind 43 = .ok (.iadd, 1) := z_dk tdX12_mayBehind_34 5 rfl
theorem dX12_mayBehind_44 : decode cX12_mayBehind 44 = .ok (.iaload, 1) := z_dk tdX12_mayBehind_34 6 rfl
theorem dX12_mayBehind_45 : decode cX12_mayBehind 45 = .ok (.ifCond .le 10, 3) := z_dk tdX12_mayBehind_34 7 rfl
theorem dX12_mayBehind_48 : decode cX12_mayBehind 48 = .ok (.iload 4, 2) := z_dk tdX12_mayBehind_34 8 rfl
theorem dX12_mayBehind_50 : decode cX12_mayBehind 50 = .ok (.iconst 2, 1) := z_dk tdX12_mayBehind_34 9 rfl
theorem dX12_mayBehind_51 : decode cX12_mayBehind 51 = .ok (.idiv, 1) := z_dk tdX12_mayBehind_34 10 rfl
theorem dX12_mayBehind_52 : decode cX12_mayBehind 52 = .ok (.goto 5, 3) := z_dk tdX12_mayBehind_34 11 rfl
theorem dX12_mayBehind_55 : decode cX12_mayBehind 55 = .ok (.iload 4, 2) := z_dk tdX12_mayBehind_34 12 rfl
theorem dX12_mayBehind_57 : decode cX12_mayBehind 57 = .ok (.ireturn, 1) := z_dk tdX12_mayBehind_34 13 rfl
theorem tdX12_lays_0 : (([(0, .aload_n 0, 1), (1, .iload_n 1, 1), (2, .iload_n 2, 1), (3, .invokevirtual 298, 3), (6, .aload_n 0, 1), (7, .iload_n 1, 1), (8, .iload_n 2, 1), (9, .invokevirtual 301, 3), (12, .iconst 0, 1), (13, .istore_n 3, 1), (14, .iload_n 1, 1), (15, .istore 4, 2), (17, .iload 4, 2), (19, .iload_n 2, 1), (20, .if_icmp .gt 125, 3), (23, .aload_n 0, 1), (24, .getfield 84, 3), (27, .iload 4, 2), (29, .iaload, 1), (30, .ifCond .le 30, 3), (33, .aload_n 0, 1), (34, .getfield 75, 3), (37, .iload 4, 2), (39, .iconst 0, 1)] : List (Nat × Instr × Nat)).all fun e => decide (decode cX12_lays e.1 = .ok e.2)) = true := by decide +kernel
theorem dX12_lays_0 : decode cX12_lays 0 = .ok (.aload_n 0, 1) := z_dk tdX12_lays_0 0 rfl
theorem dX12_lays_1 : decode cX12_lays 1 = .ok (.iload_n 1, 1) := z_dk tdX12_lays_0 1 rfl
theorem dX12_lays_2 : decode cX12_lays 2 = .ok (.iload_n 2, 1) := z_dk tdX12_lays_0 2 rfl
theorem dX12_lays_3 : decode cX12_lays 3 = .ok (.invokevirtual 298, 3) := z_dk tdX12_lays_0 3 rfl
theorem dX12_lays_6 : decode cX12_lays 6 = .ok (.aload_n 0, 1) := z_dk tdX12_lays_0 4 rfl
theorem dX12_lays_7 : decode cX12_lays 7 = .ok (.iload_n 1, 1) := z_dk tdX12_lays_0 5 rfl
theorem dX12_lays_8 : decode cX12_lays 8 = .ok (.iload_n 2, 1) := z_dk tdX12_lays_0 6 rfl
theorem dX12_lays_9 : decode cX12_lays 9 = .ok (.invokevirtual 301, 3) := z_dk tdX12_lays_0 7 rfl
theorem dX12_lays_12 : decode cX12_lays 12 = .ok (.iconst 0, 1) := z_dk tdX12_lays_0 8 rfl
theorem dX12_lays_13 : decode cX12_lays 13 = .ok (.istore_n 3, 1) := z_dk tdX12_lays_0 9 rfl
theorem dX12_lays_14 : decode cX12_lays 14 = .ok (.iload_n 1, 1) := z_dk tdX12_lays_0 10 rfl
theorem dX12_lays_15 : decode cX12_lays 15 = .ok (.istore 4, 2) := z_dk tdX12_lays_0 11 rfl
theorem dX12_lays_17 : decode cX12_lays 17 = .ok (.iload 4, 2) := z_dk tdX12_lays_0 12 rfl
theorem dX12_lays_19 : decode cX12_lays 19 = .ok (.iload_n 2, 1) := z_dk tdX12_lays_0 13 rfl
theorem dX12_lays_20 : decode cX12_lays 20 = .ok (.if_icmp .gt 125, 3) := z_dk tdX12_lays_0 14 rfl
theorem dX12_lays_23 : decode cX12_lays 23 = .ok (.aload_n 0, 1) := z_dk tdX12_lays_0 15 rfl
theorem dX12_lays_24 : decode cX12_lays 24 = .ok (.getfield 84, 3) := z_dk tdX12_lays_0 16 rfl
theorem dX12_lays_27 : decode cX12_lays 27 = .ok (.iload 4, 2) := z_dk tdX12_lays_0 17 rfl
theorem dX12_lays_29 : decode cX12_lays 29 = .ok (.iaload, 1) := z_dk tdX12_lays_0 18 rfl
theorem dX12_lays_30 : decode cX12_lays 30 = .ok (.ifCond .le 30, 3) := z_dk tdX12_lays_0 19 rfl
theorem dX12_lays_33 : decode cX12_lays 33 = .ok (.aload_n 0, 1) := z_dk tdX12_lays_0 20 rfl
theorem dX12_lays_34 : decode cX12_lays 34 = .ok (.getfield 75, 3) := z_dk tdX12_lays_0 21 rfl
theorem dX12_lays_37 : decode cX12_lays 37 = .ok (.iload 4, 2) := z_dk tdX12_lays_0 22 rfl
theorem dX12_lays_39 : decode cX12_lays 39 = .ok (.iconst 0, 1) := z_dk tdX12_lays_0 23 rfl
theorem tdX12_lays_40 : (([(40, .aload_n 0, 1), (41, .getfield 84, 3), (44, .iload 4, 2), (46, .iaload, 1), (47, .aload_n 0, 1), (48, .iload 4, 2), (50, .iload_n 1, 1), (51, .iload_n 2, 1), (52, .invokevirtual 304, 3), (55, .isub, 1), (56, .invokestatic 256, 3), (59, .iastore, 1), (60, .aload_n 0, 1), (61, .getfield 87, 3), (64, .iload 4, 2), (66, .iaload, 1), (67, .ifCond .le 30, 3), (70, .aload_n 0, 1), (71, .getfield 78, 3), (74, .iload 4, 2), (76, .iconst 0, 1), (77, .aload_n 0, 1), (78, .getfield 87, 3), (81, .iload 4, 2)] : List (Nat × Instr × Nat)).all fun e => decide (decode cX12_lays e.1 = .ok e.2)) = true := by decide +kernel
theorem dX12_lays_40 : decode cX12_lays 40 = .ok (.aload_n 0, 1) := z_dk tdX12_lays_40 0 rfl
theorem dX12_lays_41 : decode cX12_lays 41 = .ok (.getfield 84, 3) := z_dk tdX12_lays_40 1 rfl
theorem dX12_lays_44 : decode cX12_lays 44 = .ok (.iload 4, 2) := z_dk tdX12_lays_40 2 rfl
theorem dX12_lays_46 : decode cX12_lays 46 = .ok (.iaload, 1) := z_dk tdX12_lays_40 3 rfl
theorem dX12_lays_47 : decode cX12_lays 47 = .ok (.aload_n 0, 1) := z_dk tdX12_lays_40 4 rfl
theorem dX12_lays_48 : decode cX12_lays 48 = .ok (.iload 4, 2) := z_dk tdX12_lays_40 5 rfl
theorem dX12_lays_50 : decode cX12_lays 50 = .ok (.iload_n 1, 1) := z_dk tdX12_lays_40 6 rfl
theorem dX12_lays_51 : decode cX12_lays 51 = .ok (.iload_n 2, 1) := z_dk tdX12_lays_40 7 rfl
theorem dX12_lays_52 : decode cX12_lays 52 = .ok (.invokevirtual 304, 3) := z_dk tdX12_lays_40 8 rfl
theorem dX12_lays_55 : decode cX12_lays 55 = .ok (.isub, 1) := z_dk tdX12_lays_40 9 rfl
theorem dX12_lays_56 : decode cX12_lays 56 = .ok (.invokestatic 256, 3) := z_dk tdX12_lays_40 10 rfl
theorem dX12_lays_59 : decode cX12_lays 59 = .ok (.iastore, 1) := z_dk tdX12_lays_40 11 rfl
theorem dX12_lays_60 : decode cX12_lays 60 = .ok (.aload_n 0, 1) := z_dk tdX12_lays_40 12 rfl
theorem dX12_lays_61 : decode cX12_lays 61 = .ok (.getfield 87, 3) := z_dk tdX12_lays_40 13 rfl
theorem dX12_lays_64 : decode cX12_lays 64 = .ok (.iload 4, 2) := z_dk tdX12_lays_40 14 rfl
theorem dX12_lays_66 : decode cX12_lays 66 = .ok (.iaload, 1) := z_dk tdX12_lays_40 15 rfl
theorem dX12_lays_67 : decode cX12_lays 67 = .ok (.ifCond .le 30, 3) := z_dk tdX12_lays_40 16 rfl
theorem dX12_lays_70 : decode cX12_lays 70 = .ok (.aload_n 0, 1) := z_dk tdX12_lays_40 17 rfl
theorem dX12_lays_71 : decode cX12_lays 71 = .ok (.getfield 78, 3) := z_dk tdX12_lays_40 18 rfl
theorem dX12_lays_74 : decode cX12_lays 74 = .ok (.iload 4, 2) := z_dk tdX12_lays_40 19 rfl
theorem dX12_lays_76 : decode cX12_lays 76 = .ok (.iconst 0, 1) := z_dk tdX12_lays_40 20 rfl
theorem dX12_lays_77 : decode cX12_lays 77 = .ok (.aload_n 0, 1) := z_dk tdX12_lays_40 21 rfl
theorem dX12_lays_78 : decode cX12_lays 78 = .ok (.getfield 87, 3) := z_dk tdX12_lays_40 22 rfl
theorem dX12_lays_81 : decode cX12_lays 81 = .ok (.iload 4, 2) := z_dk tdX12_lays_40 23 rfl
theorem tdX12_lays_83 : (([(83, .iaload, 1), (84, .aload_n 0, 1), (85, .iload 4, 2), (87, .iload_n 1, 1), (88, .iload_n 2, 1), (89, .invokevirtual 308, 3), (92, .isub, 1), (93, .invokestatic 256, 3), (96, .iastore, 1), (97, .iload_n 3, 1), (98, .aload_n 0, 1), (99, .getfield 66, 3), (102, .iload 4, 2), (104, .iaload, 1), (105, .aload_n 0, 1), (106, .getfield 69, 3), (109, .iload 4, 2), (111, .iaload, 1), (112, .iadd, 1), (113, .aload_n 0, 1), (114, .getfield 72, 3), (117, .iload 4, 2), (119, .iaload, 1), (120, .iadd, 1)] : List (Nat × Instr × Nat)).all fun e => decide (decode cX12_lays e.1 = .ok e.2)) = true := by decide +kernel
theorem dX12_lays_83 : decode cX12_lays 83 = .ok (.iaload, 1) := z_dk tdX12_lays_83 0 rfl
theorem dX12_lays_84 : decode cX12_lays 84 = .ok (.aload_n 0, 1) := z_dk tdX12_lays_83 1 rfl
theorem dX12_lays_85 : decode cX12_lays 85 = .ok (.iload 4, 2) := z_dk tdX12_lays_83 2 rfl
theorem dX12_lays_87 : decode cX12_lays 87 = .ok (.iload_n 1, 1) := z_dk tdX12_lays_83 3 rfl
theorem dX12_lays_88 : decode cX12_lays 88 = .ok (.iload_n 2, 1) := z_dk tdX12_lays_83 4 rfl
theorem dX12_lays_89 : decode cX12_lays 89 = .ok (.invokevirtual 308, 3) := z_dk tdX12_lays_83 5 rfl
theorem dX12_lays_92 : decode cX12_lays 92 = .ok (.isub, 1) := z_dk tdX12_lays_83 6 rfl
theorem dX12_lays_93 : decode cX12_lays 93 = .ok (.invokestatic 256, 3) := z_dk tdX12_lays_83 7 rfl
theorem dX12_lays_96 : decode cX12_lays 96 = .ok (.iastore, 1) := z_dk tdX12_lays_83 8 rfl
theorem dX12_lays_97 : decode cX12_lays 97 = .ok (.iload_n 3, 1) := z_dk tdX12_lays_83 9 rfl
theorem dX12_lays_98 : decode cX12_lays 98 = .ok (.aload_n 0, 1) := z_dk tdX12_lays_83 10 rfl
theorem dX12_lays_99 : decode cX12_lays 99 = .ok (.getfield 66, 3) := z_dk tdX12_lays_83 11 rfl
theorem dX12_lays_102 : decode cX12_lays 102 = .ok (.iload 4, 2) := z_dk tdX12_lays_83 12 rfl
theorem dX12_lays_104 : decode cX12_lays 104 = .ok (.iaload, 1) := z_dk tdX12_lays_83 13 rfl
theorem dX12_lays_105 : decode cX12_lays 105 = .ok (.aload_n 0, 1) := z_dk tdX12_lays_83 14 rfl
theorem dX12_lays_106 : decode cX12_lays 106 = .ok (.getfield 69, 3) := z_dk tdX12_lays_83 15 rfl
theorem dX12_lays_109 : decode cX12_lays 109 = .ok (.iload 4, 2) := z_dk tdX12_lays_83 16 rfl
theorem dX12_lays_111 : decode cX12_lays 111 = .ok (.iaload, 1) := z_dk tdX12_lays_83 17 rfl
theorem dX12_lays_112 : decode cX12_lays 112 = .ok (.iadd, 1) := z_dk tdX12_lays_83 18 rfl
theorem dX12_lays_113 : decode cX12_lays 113 = .ok (.aload_n 0, 1) := z_dk tdX12_lays_83 19 rfl
theorem dX12_lays_114 : decode cX12_lays 114 = .ok (.getfield 72, 3) := z_dk tdX12_lays_83 20 rfl
theorem dX12_lays_117 : decode cX12_lays 117 = .ok (.iload 4, 2) := z_dk tdX12_lays_83 21 rfl
theorem dX12_lays_119 : decode cX12_lays 119 = .ok (.iaload, 1) := z_dk tdX12_lays_83 22 rfl
theorem dX12_lays_120 : decode cX12_lays 120 = .ok (.iadd, 1) := z_dk tdX12_lays_83 23 rfl
theorem tdX12_lays_121 : (([(121, .aload_n 0, 1), (122, .getfield 75, 3), (125, .iload 4, 2), (127, .iaload, 1), (128, .iadd, 1), (129, .aload_n 0, 1), (130, .getfield 78, 3), (133, .iload 4, 2), (135, .iaload, 1), (136, .iadd, 1), (137, .iadd, 1), (138, .istore_n 3, 1), (139, .iinc 4 1, 3), (142, .goto (-125), 3), (145, .iload_n 3, 1), (146, .ireturn, 1)] : List (Nat × Instr × Nat)).all fun e => decide (decode cX12_lays e.1 = .ok e.2)) = true := by decide +kernel
theorem dX12_lays_121 : decode cX12_lays 121 = .ok (.aload_n 0, 1) := z_dk tdX12_lays_121 0 rfl
theorem dX12_lays_122 : decode cX12_lays 122 = .ok (.getfield 75, 3) := z_dk tdX12_lays_121 1 rfl
theorem dX12_lays_125 : decode cX12_lays 125 = .ok (.iload 4, 2) := z_dk tdX12_lays_121 2 rfl
theorem dX12_lays_127 : decode cX12_lays 127 = .ok (.iaload, 1) := z_dk tdX12_lays_121 3 rfl
theorem dX12_lays_128 : decode cX12_lays 128 = .ok (.iadd, 1) := z_dk tdX12_lays_121 4 rfl
theorem dX12_lays_129 : decode cX12_lays 129 = .ok (.aload_n 0, 1) := z_dk tdX12_lays_121 5 rfl
theorem dX12_lays_130 : decode cX12_lays 130 = .ok (.getfield 78, 3) := z_dk tdX12_lays_121 6 rfl
theorem dX12_lays_133 : decode cX12_lays 133 = .ok (.iload 4, 2) := z_dk tdX12_lays_121 7 rfl
theorem dX12_lays_135 : decode cX12_lays 135 = .ok (.iaload, 1) := z_dk tdX12_lays_121 8 rfl
theorem dX12_lays_136 : decode cX12_lays 136 = .ok (.iadd, 1) := z_dk tdX12_lays_121 9 rfl
theorem dX12_lays_137 : decode cX12_lays 137 = .ok (.iadd, 1) := z_dk tdX12_lays_121 10 rfl
theorem dX12_lays_138 : decode cX12_lays 138 = .ok (.istore_n 3, 1) := z_dk tdX12_lays_121 11 rfl
theorem dX12_lays_139 : decode cX12_lays 139 = .ok (.iinc 4 1, 3) := z_dk tdX12_lays_121 12 rfl
theorem dX12_lays_142 : decode cX12_lays 142 = .ok (.goto (-125), 3) := z_dk tdX12_lays_121 13 rfl
theorem dX12_lays_145 : decode cX12_lays 145 = .ok (.iload_n 3, 1) := z_dk tdX12_lays_121 14 rfl
theorem dX12_lays_146 : decode cX12_lays 146 = .ok (.ireturn, 1) := z_dk tdX12_lays_121 15 rfl
theorem tdX12_laysPairs_0 : (([(0, .iconst 0, 1), (1, .istore_n 1, 1), (2, .aload_n 0, 1), (3, .iconst 0, 1), (4, .putfield 311, 3), (7, .aload_n 0, 1), (8, .iconst 0, 1), (9, .putfield 314, 3), (12, .iconst 0, 1), (13, .istore_n 2, 1), (14, .iload_n 2, 1), (15, .aload_n 0, 1), (16, .getfield 242, 3), (19, .if_icmp .ge 108, 3), (22, .aload_n 0, 1), (23, .getfield 99, 3), (26, .iload_n 2, 1), (27, .iconst (-1), 1), (28, .iastore, 1), (29, .aload_n 0, 1), (30, .getfield 105, 3), (33, .iload_n 2, 1), (34, .iconst 0, 1), (35, .bastore, 1)] : List (Nat × Instr × Nat)).all fun e => decide (decode cX12_laysPairs e.1 = .ok e.2)) = true := by decide +kernel
theorem dX12_laysPairs_0 : decode cX12_laysPairs 0 = .ok (.iconst 0, 1) := z_dk tdX12_laysPairs_0 0 rfl
theorem dX12_laysPairs_1 : decode cX12_laysPairs 1 = .ok (.istore_n 1, 1) := z_dk tdX12_laysPairs_0 1 rfl
theorem dX12_laysPairs_2 : decode cX12_laysPairs 2 = .ok (.aload_n 0, 1) := z_dk tdX12_laysPairs_0 2 rfl
theorem dX12_laysPairs_3 : decode cX12_laysPairs 3 = .ok (.iconst 0, 1) := z_dk tdX12_laysPairs_0 3 rfl
theorem dX12_laysPairs_4 : decode cX12_laysPairs 4 = .ok (.putfield 311, 3) := z_dk tdX12_laysPairs_0 4 rfl
theorem dX12_laysPairs_7 : decode cX12_laysPairs 7 = .ok (.aload_n 0, 1) := z_dk tdX12_laysPairs_0 5 rfl
theorem dX12_laysPairs_8 : decode cX12_laysPairs 8 = .ok (.iconst 0, 1) := z_dk tdX12_laysPairs_0 6 rfl
theorem dX12_laysPairs_9 : decode cX12_laysPairs 9 = .ok (.putfield 314, 3) := z_dk tdX12_laysPairs_0 7 rfl
theorem dX12_laysPairs_12 : decode cX12_laysPairs 12 = .ok (.iconst 0, 1) := z_dk tdX12_laysPairs_0 8 rfl
theorem dX12_laysPairs_13 : decode cX12_laysPairs 13 = .ok (.istore_n 2, 1) := z_dk tdX12_laysPairs_0 9 rfl
theorem dX12_laysPairs_14 : decode cX12_laysPairs 14 = .ok (.iload_n 2, 1) := z_dk tdX12_laysPairs_0 10 rfl
theorem dX12_laysPairs_15 : decode cX12_laysPairs 15 = .ok (.aload_n 0, 1) := z_dk tdX12_laysPairs_0 11 rfl
theorem dX12_laysPairs_16 : decode cX12_laysPairs 16 = .ok (.getfield 242, 3) := z_dk tdX12_laysPairs_0 12 rfl
theorem dX12_laysPairs_19 : decode cX12_laysPairs 19 = .ok (.if_icmp .ge 108, 3) := z_dk tdX12_laysPairs_0 13 rfl
theorem dX12_laysPairs_22 : decode cX12_laysPairs 22 = .ok (.aload_n 0, 1) := z_dk tdX12_laysPairs_0 14 rfl
theorem dX12_laysPairs_23 : decode cX12_laysPairs 23 = .ok (.getfield 99, 3) := z_dk tdX12_laysPairs_0 15 rfl
theorem dX12_laysPairs_26 : decode cX12_laysPairs 26 = .ok (.iload_n 2, 1) := z_dk tdX12_laysPairs_0 16 rfl
theorem dX12_laysPairs_27 : decode cX12_laysPairs 27 = .ok (.iconst (-1), 1) := z_dk tdX12_laysPairs_0 17 rfl
theorem dX12_laysPairs_28 : decode cX12_laysPairs 28 = .ok (.iastore, 1) := z_dk tdX12_laysPairs_0 18 rfl
theorem dX12_laysPairs_29 : decode cX12_laysPairs 29 = .ok (.aload_n 0, 1) := z_dk tdX12_laysPairs_0 19 rfl
theorem dX12_laysPairs_30 : decode cX12_laysPairs 30 = .ok (.getfield 105, 3) := z_dk tdX12_laysPairs_0 20 rfl
theorem dX12_laysPairs_33 : decode cX12_laysPairs 33 = .ok (.iload_n 2, 1) := z_dk tdX12_laysPairs_0 21 rfl
theorem dX12_laysPairs_34 : decode cX12_laysPairs 34 = .ok (.iconst 0, 1) := z_dk tdX12_laysPairs_0 22 rfl
theorem dX12_laysPairs_35 : decode cX12_laysPairs 35 = .ok (.bastore, 1) := z_dk tdX12_laysPairs_0 23 rfl
theorem tdX12_laysPairs_36 : (([(36, .aload_n 0, 1), (37, .getfield 54, 3), (40, .iload_n 2, 1), (41, .iaload, 1), (42, .iconst 4, 1), (43, .if_icmp .ne 13, 3), (46, .aload_n 0, 1), (47, .getfield 102, 3), (50, .iload_n 1, 1), (51, .iload_n 2, 1), (52, .iastore, 1), (53, .iinc 1 1, 3), (56, .aload_n 0, 1), (57, .getfield 54, 3), (60, .iload_n 2, 1), (61, .iaload, 1), (62, .iconst 5, 1), (63, .if_icmp .ne 58, 3), (66, .iload_n 1, 1), (67, .ifCond .ne 6, 3), (70, .goto 51, 3), (73, .iinc 1 (-1), 3), (76, .aload_n 0, 1), (77, .getfield 99, 3)] : List (Nat × Instr × Nat)).all fun e => decide (decode cX12_laysPairs e.1 = .ok e.2)) = true := by decide +kernel
theorem dX12_laysPairs_36 : decode cX12_laysPairs 36 = .ok (.aload_n 0, 1) := z_dk tdX12_laysPairs_36 0 rfl
theorem dX12_laysPairs_37 : decode cX12_laysPairs 37 = .ok (.getfield 54, 3) := z_dk tdX12_laysPairs_36 1 rfl
theorem dX12_laysPairs_40 : decode cX12_laysPairs 40 = .ok (.iload_n 2, 1) := z_dk tdX12_laysPairs_36 2 rfl
theorem dX12_laysPairs_41 : decode cX12_laysPairs 41 = .ok (.iaload, 1) := z_dk tdX12_laysPairs_36 3 rfl
theorem dX12_laysPairs_42 : decode cX12_laysPairs 42 = .ok (.iconst 4, 1) := z_dk tdX12_laysPairs_36 4 rfl
theorem dX12_laysPairs_43 : decode cX12_laysPairs 43 = .ok (.if_icmp .ne 13, 3) := z_dk tdX12_laysPairs_36 5 rfl
theorem dX12_laysPairs_46 : decode cX12_laysPairs 46 = .ok (.aload_n 0, 1) := z_dk tdX12_laysPairs_36 6 rfl
theorem dX12_laysPairs_47 : decode cX12_laysPairs 47 = .ok (.getfield 102, 3) := z_dk tdX12_laysPairs_36 7 rfl
theorem dX12_laysPairs_50 : decode cX12_laysPairs 50 = .ok (.iload_n 1, 1) := z_dk tdX12_laysPairs_36 8 rfl
theorem dX12_laysPairs_51 : decode cX12_laysPairs 51 = .ok (.iload_n 2, 1) := z_dk tdX12_laysPairs_36 9 rfl
theorem dX12_laysPairs_52 : decode cX12_laysPairs 52 = .ok (.iastore, 1) := z_dk tdX12_laysPairs_36 10 rfl
theorem dX12_laysPairs_53 : decode cX12_laysPairs 53 = .ok (.iinc 1 1, 3) := z_dk tdX12_laysPairs_36 11 rfl
theorem dX12_laysPairs_56 : decode cX12_laysPairs 56 = .ok (.aload_n 0, 1) := z_dk tdX12_laysPairs_36 12 rfl
theorem dX12_laysPairs_57 : decode cX12_laysPairs 57 = .ok (.getfield 54, 3) := z_dk tdX12_laysPairs_36 13 rfl
theorem dX12_laysPairs_60 : decode cX12_laysPairs 60 = .ok (.iload_n 2, 1) := z_dk tdX12_laysPairs_36 14 rfl
theorem dX12_laysPairs_61 : decode cX12_laysPairs 61 = .ok (.iaload, 1) := z_dk tdX12_laysPairs_36 15 rfl
theorem dX12_laysPairs_62 : decode cX12_laysPairs 62 = .ok (.iconst 5, 1) := z_dk tdX12_laysPairs_36 16 rfl
theorem dX12_laysPairs_63 : decode cX12_laysPairs 63 = .ok (.if_icmp .ne 58, 3) := z_dk tdX12_laysPairs_36 17 rfl
theorem dX12_laysPairs_66 : decode cX12_laysPairs 66 = .ok (.iload_n 1, 1) := z_dk tdX12_laysPairs_36 18 rfl
theorem dX12_laysPairs_67 : decode cX12_laysPairs 67 = .ok (.ifCond .ne 6, 3) := z_dk tdX12_laysPairs_36 19 rfl
theorem dX12_laysPairs_70 : decode cX12_laysPairs 70 = .ok (.goto 51, 3) := z_dk tdX12_laysPairs_36 20 rfl
theorem dX12_laysPairs_73 : decode cX12_laysPairs 73 = .ok (.iinc 1 (-1), 3) := z_dk tdX12_laysPairs_36 21 rfl
theorem dX12_laysPairs_76 : decode cX12_laysPairs 76 = .ok (.aload_n 0, 1) := z_dk tdX12_laysPairs_36 22 rfl
theorem dX12_laysPairs_77 : decode cX12_laysPairs 77 = .ok (.getfield 99, 3) := z_dk tdX12_laysPairs_36 23 rfl
theorem tdX12_laysPairs_80 : (([(80, .iload_n 2, 1), (81, .aload_n 0, 1), (82, .getfield 102, 3), (85, .iload_n 1, 1), (86, .iaload, 1), (87, .iastore, 1), (88, .aload_n 0, 1), (89, .getfield 99, 3), (92, .aload_n 0, 1), (93, .getfield 102, 3), (96, .iload_n 1, 1), (97, .iaload, 1), (98, .iload_n 2, 1), (99, .iastore, 1), (100, .aload_n 0, 1), (101, .dup, 1), (102, .getfield 311, 3), (105, .iconst 1, 1), (106, .iadd, 1), (107, .putfield 311, 3), (110, .aload_n 0, 1), (111, .aload_n 0, 1), (112, .getfield 102, 3), (115, .iload_n 1, 1)] : List (Nat × Instr × Nat)).all fun e => decide (decode cX12_laysPairs e.1 = .ok e.2)) = true := by decide +kernel
theorem dX12_laysPairs_80 : decode cX12_laysPairs 80 = .ok (.iload_n 2, 1) := z_dk tdX12_laysPairs_80 0 rfl
theorem dX12_laysPairs_81 : decode cX12_laysPairs 81 = .ok (.aload_n 0, 1) := z_dk tdX12_laysPairs_80 1 rfl
theorem dX12_laysPairs_82 : decode cX12_laysPairs 82 = .ok (.getfield 102, 3) := z_dk tdX12_laysPairs_80 2 rfl
theorem dX12_laysPairs_85 : decode cX12_laysPairs 85 = .ok (.iload_n 1, 1) := z_dk tdX12_laysPairs_80 3 rfl
theorem dX12_laysPairs_86 : decode cX12_laysPairs 86 = .ok (.iaload, 1) := z_dk tdX12_laysPairs_80 4 rfl
theorem dX12_laysPairs_87 : decode cX12_laysPairs 87 = .ok (.iastore, 1) := z_dk tdX12_laysPairs_80 5 rfl
theorem dX12_laysPairs_88 : decode cX12_laysPairs 88 = .ok (.aload_n 0, 1) := z_dk tdX12_laysPairs_80 6 rfl
theorem dX12_laysPairs_89 : decode cX12_laysPairs 89 = .ok (.getfield 99, 3) := z_dk tdX12_laysPairs_80 7 rfl
theorem dX12_laysPairs_92 : decode cX12_laysPairs 92 = .ok (.aload_n 0, 1) := z_dk tdX12_laysPairs_80 8 rfl
theorem dX12_laysPairs_93 : decode cX12_laysPairs 93 = .ok (.getfield 102, 3) := z_dk tdX12_laysPairs_80 9 rfl
theorem dX12_laysPairs_96 : decode cX12_laysPairs 96 = .ok (.iload_n 1, 1) := z_dk tdX12_laysPairs_80 10 rfl
theorem dX12_laysPairs_97 : decode cX12_laysPairs 97 = .ok (.iaload, 1) := z_dk tdX12_laysPairs_80 11 rfl
theorem dX12_laysPairs_98 : decode cX12_laysPairs 98 = .ok (.iload_n 2, 1) := z_dk tdX12_laysPairs_80 12 rfl
theorem dX12_laysPairs_99 : decode cX12_laysPairs 99 = .ok (.iastore, 1) := z_dk tdX12_laysPairs_80 13 rfl
theorem dX12_laysPairs_100 : decode cX12_laysPairs 100 = .ok (.aload_n 0, 1) := z_dk tdX12_laysPairs_80 14 rfl
theorem dX12_laysPairs_101 : decode cX12_laysPairs 101 = .ok (.dup, 1) := z_dk tdX12_laysPairs_80 15 rfl
theorem dX12_laysPairs_102 : decode cX12_laysPairs 102 = .ok (.getfield 311, 3) := z_dk tdX12_laysPairs_80 16 rfl
theorem dX12_laysPairs_105 : decode cX12_laysPairs 105 = .ok (.iconst 1, 1) := z_dk tdX12_laysPairs_80 17 rfl
theorem dX12_laysPairs_106 : decode cX12_laysPairs 106 = .ok (.iadd, 1) := z_dk tdX12_laysPairs_80 18 rfl
theorem dX12_laysPairs_107 : decode cX12_laysPairs 107 = .ok (.putfield 311, 3) := z_dk tdX12_laysPairs_80 19 rfl
theorem dX12_laysPairs_110 : decode cX12_laysPairs 110 = .ok (.aload_n 0, 1) := z_dk tdX12_laysPairs_80 20 rfl
theorem dX12_laysPairs_111 : decode cX12_laysPairs 111 = .ok (.aload_n 0, 1) := z_dk tdX12_laysPairs_80 21 rfl
theorem dX12_laysPairs_112 : decode cX12_laysPairs 112 = .ok (.getfield 102, 3) := z_dk tdX12_laysPairs_80 22 rfl
theorem dX12_laysPairs_115 : decode cX12_laysPairs 115 = .ok (.iload_n 1, 1) := z_dk tdX12_laysPairs_80 23 rfl
theorem tdX12_laysPairs_116 : (([(116, .iaload, 1), (117, .iload_n 2, 1), (118, .invokevirtual 317, 3), (121, .iinc 2 1, 3), (124, .goto (-110), 3), (127, .return_, 1)] : List (Nat × Instr × Nat)).all fun e => decide (decode cX12_laysPairs e.1 = .ok e.2)) = true := by decide +kernel
theorem dX12_laysPairs_116 : decode cX12_laysPairs 116 = .ok (.iaload, 1) := z_dk tdX12_laysPairs_116 0 rfl
theorem dX12_laysPairs_117 : decode cX12_laysPairs 117 = .ok (.iload_n 2, 1) := z_dk tdX12_laysPairs_116 1 rfl
theorem dX12_laysPairs_118 : decode cX12_laysPairs 118 = .ok (.invokevirtual 317, 3) := z_dk tdX12_laysPairs_116 2 rfl
theorem dX12_laysPairs_121 : decode cX12_laysPairs 121 = .ok (.iinc 2 1, 3) := z_dk tdX12_laysPairs_116 3 rfl
theorem dX12_laysPairs_124 : decode cX12_laysPairs 124 = .ok (.goto (-110), 3) := z_dk tdX12_laysPairs_116 4 rfl
theorem dX12_laysPairs_127 : decode cX12_laysPairs 127 = .ok (.return_, 1) := z_dk tdX12_laysPairs_116 5 rfl
theorem tdX12_ties_0 : (([(0, .iconst 0, 1), (1, .istore_n 3, 1), (2, .iload_n 1, 1), (3, .istore 4, 2), (5, .iload 4, 2), (7, .iload_n 2, 1), (8, .if_icmp .gt 18, 3), (11, .iload_n 3, 1), (12, .aload_n 0, 1), (13, .iload 4, 2), (15, .invokevirtual 279, 3), (18, .iadd, 1), (19, .istore_n 3, 1), (20, .iinc 4 1, 3), (23, .goto (-18), 3), (26, .aload_n 0, 1), (27, .getfield 20, 3), (30, .bipush 7, 2), (32, .iaload, 1), (33, .ifCond .eq 14, 3), (36, .iload_n 3, 1), (37, .aload_n 0, 1), (38, .getfield 20, 3), (41, .bipush 7, 2)] : List (Nat × Instr × Nat)).all fun e => decide (decode cX12_ties e.1 = .ok e.2)) = true := by decide +kernel
theorem dX12_ties_0 : decode cX12_ties 0 = .ok (.iconst 0, 1) := z_dk tdX12_ties_0 0 rfl
theorem dX12_ties_1 : decode cX12_ties 1 = .ok (.istore_n 3, 1) := z_dk tdX12_ties_0 1 rfl
theorem dX12_ties_2 : decode cX12_ties 2 = .ok (.iload_n 1, 1) := z_dk tdX12_ties_0 2 rfl
theorem dX12_ties_3 : decode cX12_ties 3 = .ok (.istore 4, 2) := z_dk tdX12_ties_0 3 rfl
theorem dX12_ties_5 : decode cX12_ties 5 = .ok (.iload 4, 2) := z_dk tdX12_ties_0 4 rfl
theorem dX12_ties_7 : decode cX12_ties 7 = .ok (.iload_n 2, 1) := z_dk tdX12_ties_0 5 rfl
theorem dX12_ties_8 : decode cX12_ties 8 = .ok (.if_icmp .gt 18, 3) := z_dk tdX12_ties_0 6 rfl
theorem dX12_ties_11 : decode cX12_ties 11 = .ok (.iload_n 3, 1) := z_dk tdX12_ties_0 7 rfl
theorem dX12_ties_12 : decode cX12_ties 12 = .ok (.aload_n 0, 1) := z_dk tdX12_ties_0 8 rfl
theorem dX12_ties_13 : decode cX12_ties 13 = .ok (.iload 4, 2) := z_dk tdX12_ties_0 9 rfl
theorem dX12_ties_15 : decode cX12_ties 15 = .ok (.invokevirtual 279, 3) := z_dk tdX12_ties_0 10 rfl
theorem dX12_ties_18 : decode cX12_ties 18 = .ok (.iadd, 1) := z_dk tdX12_ties_0 11 rfl
theorem dX12_ties_19 : decode cX12_ties 19 = .ok (.istore_n 3, 1) := z_dk tdX12_ties_0 12 rfl
theorem dX12_ties_20 : decode cX12_ties 20 = .ok (.iinc 4 1, 3) := z_dk tdX12_ties_0 13 rfl
theorem dX12_ties_23 : decode cX12_ties 23 = .ok (.goto (-18), 3) := z_dk tdX12_ties_0 14 rfl
theorem dX12_ties_26 : decode cX12_ties 26 = .ok (.aload_n 0, 1) := z_dk tdX12_ties_0 15 rfl
theorem dX12_ties_27 : decode cX12_ties 27 = .ok (.getfield 20, 3) := z_dk tdX12_ties_0 16 rfl
theorem dX12_ties_30 : decode cX12_ties 30 = .ok (.bipush 7, 2) := z_dk tdX12_ties_0 17 rfl
theorem dX12_ties_32 : decode cX12_ties 32 = .ok (.iaload, 1) := z_dk tdX12_ties_0 18 rfl
theorem dX12_ties_33 : decode cX12_ties 33 = .ok (.ifCond .eq 14, 3) := z_dk tdX12_ties_0 19 rfl
theorem dX12_ties_36 : decode cX12_ties 36 = .ok (.iload_n 3, 1) := z_dk tdX12_ties_0 20 rfl
theorem dX12_ties_37 : decode cX12_ties 37 = .ok (.aload_n 0, 1) := z_dk tdX12_ties_0 21 rfl
theorem dX12_ties_38 : decode cX12_ties 38 = .ok (.getfield 20, 3) := z_dk tdX12_ties_0 22 rfl
theorem dX12_ties_41 : decode cX12_ties 41 = .ok (.bipush 7, 2) := z_dk tdX12_ties_0 23 rfl
theorem tdX12_ties_43 : (([(43, .iaload, 1), (44, .if_icmp .le 4, 3), (47, .return_, 1), (48, .aload_n 0, 1), (49, .dup, 1), (50, .getfield 314, 3), (53, .iconst 1, 1), (54, .iadd, 1), (55, .putfield 314, 3), (58, .iload_n 1, 1), (59, .istore 4, 2), (61, .iload 4, 2), (63, .iload_n 2, 1), (64, .if_icmp .ge 17, 3), (67, .aload_n 0, 1), (68, .getfield 105, 3), (71, .iload 4, 2), (73, .iconst 1, 1), (74, .bastore, 1), (75, .iinc 4 1, 3), (78, .goto (-17), 3), (81, .return_, 1)] : List (Nat × Instr × Nat)).all fun e => decide (decode cX12_ties e.1 = .ok e.2)) = true := by decide +kernel
theorem dX12_ties_43 : decode cX12_ties 43 = .ok (.iaload, 1) := z_dk tdX12_ties_43 0 rfl
theorem dX12_ties_44 : decode cX12_ties 44 = .ok (.if_icmp .le 4, 3) := z_dk tdX12_ties_43 1 rfl
theorem dX12_ties_47 : decode cX12_ties 47 = .ok (.return_, 1) := z_dk tdX12_ties_43 2 rfl
theorem dX12_ties_48 : decode cX12_ties 48 = .ok (.aload_n 0, 1) := z_dk tdX12_ties_43 3 rfl
theorem dX12_ties_49 : decode cX12_ties 49 = .ok (.dup, 1) := z_dk tdX12_ties_43 4 rfl
theorem dX12_ties_50 : decode cX12_ties 50 = .ok (.getfield 314, 3) := z_dk tdX12_ties_43 5 rfl
theorem dX12_ties_53 : decode cX12_ties 53 = .ok (.iconst 1, 1) := z_dk tdX12_ties_43 6 rfl
theorem dX12_ties_54 : decode cX12_ties 54 = .ok (.iadd, 1) := z_dk tdX12_ties_43 7 rfl
theorem dX12_ties_55 : decode cX12_ties 55 = .ok (.putfield 314, 3) := z_dk tdX12_ties_43 8 rfl
theorem dX12_ties_58 : decode cX12_ties 58 = .ok (.iload_n 1, 1) := z_dk tdX12_ties_43 9 rfl
theorem dX12_ties_59 : decode cX12_ties 59 = .ok (.istore 4, 2) := z_dk tdX12_ties_43 10 rfl
theorem dX12_ties_61 : decode cX12_ties 61 = .ok (.iload 4, 2) := z_dk tdX12_ties_43 11 rfl
theorem dX12_ties_63 : decode cX12_ties 63 = .ok (.iload_n 2, 1) := z_dk tdX12_ties_43 12 rfl
theorem dX12_ties_64 : decode cX12_ties 64 = .ok (.if_icmp .ge 17, 3) := z_dk tdX12_ties_43 13 rfl
theorem dX12_ties_67 : decode cX12_ties 67 = .ok (.aload_n 0, 1) := z_dk tdX12_ties_43 14 rfl
theorem dX12_ties_68 : decode cX12_ties 68 = .ok (.getfield 105, 3) := z_dk tdX12_ties_43 15 rfl
theorem dX12_ties_71 : decode cX12_ties 71 = .ok (.iload 4, 2) := z_dk tdX12_ties_43 16 rfl
theorem dX12_ties_73 : decode cX12_ties 73 = .ok (.iconst 1, 1) := z_dk tdX12_ties_43 17 rfl
theorem dX12_ties_74 : decode cX12_ties 74 = .ok (.bastore, 1) := z_dk tdX12_ties_43 18 rfl
theorem dX12_ties_75 : decode cX12_ties 75 = .ok (.iinc 4 1, 3) := z_dk tdX12_ties_43 19 rfl
theorem dX12_ties_78 : decode cX12_ties 78 = .ok (.goto (-17), 3) := z_dk tdX12_ties_43 20 rfl
theorem dX12_ties_81 : decode cX12_ties 81 = .ok (.return_, 1) := z_dk tdX12_ties_43 21 rfl
theorem tdX12_freshens_0 : (([(0, .aload_n 0, 1), (1, .getfield 263, 3), (4, .ifCond .eq 4, 3), (7, .return_, 1), (8, .iconst 0, 1), (9, .istore_n 1, 1), (10, .iload_n 1, 1), (11, .aload_n 0, 1), (12, .getfield 242, 3), (15, .if_icmp .ge 34, 3), (18, .iload_n 1, 1), (19, .istore_n 2, 1), (20, .iload_n 2, 1), (21, .aload_n 0, 1), (22, .getfield 242, 3), (25, .if_icmp .ge 18, 3), (28, .aload_n 0, 1), (29, .getfield 96, 3), (32, .iload_n 1, 1), (33, .aaload, 1), (34, .iload_n 2, 1), (35, .iconst (-1), 1), (36, .iastore, 1), (37, .iinc 2 1, 3)] : List (Nat × Instr × Nat)).all fun e => decide (decode cX12_freshens e.1 = .ok e.2)) = true := by decide +kernel
theorem dX12_freshens_0 : decode cX12_freshens 0 = .ok (.aload_n 0, 1) := z_dk tdX12_freshens_0 0 rfl
theorem dX12_freshens_1 : decode cX12_freshens 1 = .ok (.getfield 263, 3) := z_dk tdX12_freshens_0 1 rfl
theorem dX12_freshens_4 : decode cX12_freshens 4 = .ok (.ifCond .eq 4, 3) := z_dk tdX12_freshens_0 2 rfl
theorem dX12_freshens_7 : decode cX12_freshens 7 = .ok (.return_, 1) := z_dk tdX12_freshens_0 3 rfl
theorem dX12_freshens_8 : decode cX12_freshens 8 = .ok (.iconst 0, 1) := z_dk tdX12_freshens_0 4 rfl
theorem dX12_freshens_9 : decode cX12_freshens 9 = .ok (.istore_n 1, 1) := z_dk tdX12_freshens_0 5 rfl
theorem dX12_freshens_10 : decode cX12_freshens 10 = .ok (.iload_n 1, 1) := z_dk tdX12_freshens_0 6 rfl
theorem dX12_freshens_11 : decode cX12_freshens 11 = .ok (.aload_n 0, 1) := z_dk tdX12_freshens_0 7 rfl
theorem dX12_freshens_12 : decode cX12_freshens 12 = .ok (.getfield 242, 3) := z_dk tdX12_freshens_0 8 rfl
theorem dX12_freshens_15 : decode cX12_freshens 15 = .ok (.if_icmp .ge 34, 3) := z_dk tdX12_freshens_0 9 rfl
theorem dX12_freshens_18 : decode cX12_freshens 18 = .ok (.iload_n 1, 1) := z_dk tdX12_freshens_0 10 rfl
theorem dX12_freshens_19 : decode cX12_freshens 19 = .ok (.istore_n 2, 1) := z_dk tdX12_freshens_0 11 rfl
theorem dX12_freshens_20 : decode cX12_freshens 20 = .ok (.iload_n 2, 1) := z_dk tdX12_freshens_0 12 rfl
theorem dX12_freshens_21 : decode cX12_freshens 21 = .ok (.aload_n 0, 1) := z_dk tdX12_freshens_0 13 rfl
theorem dX12_freshens_22 : decode cX12_freshens 22 = .ok (.getfield 242, 3) := z_dk tdX12_freshens_0 14 rfl
theorem dX12_freshens_25 : decode cX12_freshens 25 = .ok (.if_icmp .ge 18, 3) := z_dk tdX12_freshens_0 15 rfl
theorem dX12_freshens_28 : decode cX12_freshens 28 = .ok (.aload_n 0, 1) := z_dk tdX12_freshens_0 16 rfl
theorem dX12_freshens_29 : decode cX12_freshens 29 = .ok (.getfield 96, 3) := z_dk tdX12_freshens_0 17 rfl
theorem dX12_freshens_32 : decode cX12_freshens 32 = .ok (.iload_n 1, 1) := z_dk tdX12_freshens_0 18 rfl
theorem dX12_freshens_33 : decode cX12_freshens 33 = .ok (.aaload, 1) := z_dk tdX12_freshens_0 19 rfl
theorem dX12_freshens_34 : decode cX12_freshens 34 = .ok (.iload_n 2, 1) := z_dk tdX12_freshens_0 20 rfl
theorem dX12_freshens_35 : decode cX12_freshens 35 = .ok (.iconst (-1), 1) := z_dk tdX12_freshens_0 21 rfl
theorem dX12_freshens_36 : decode cX12_freshens 36 = .ok (.iastore, 1) := z_dk tdX12_freshens_0 22 rfl
theorem dX12_freshens_37 : decode cX12_freshens 37 = .ok (.iinc 2 1, 3) := z_dk tdX12_freshens_0 23 rfl
theorem tdX12_freshens_40 : (([(40, .goto (-20), 3), (43, .iinc 1 1, 3), (46, .goto (-36), 3), (49, .aload_n 0, 1), (50, .invokevirtual 320, 3), (53, .aload_n 0, 1), (54, .iconst 1, 1), (55, .putfield 263, 3), (58, .aload_n 0, 1), (59, .iconst 0, 1), (60, .putfield 323, 3), (63, .return_, 1)] : List (Nat × Instr × Nat)).all fun e => decide (decode cX12_freshens e.1 = .ok e.2)) = true := by decide +kernel
theorem dX12_freshens_40 : decode cX12_freshens 40 = .ok (.goto (-20), 3) := z_dk tdX12_freshens_40 0 rfl
theorem dX12_freshens_43 : decode cX12_freshens 43 = .ok (.iinc 1 1, 3) := z_dk tdX12_freshens_40 1 rfl
theorem dX12_freshens_46 : decode cX12_freshens 46 = .ok (.goto (-36), 3) := z_dk tdX12_freshens_40 2 rfl
theorem dX12_freshens_49 : decode cX12_freshens 49 = .ok (.aload_n 0, 1) := z_dk tdX12_freshens_40 3 rfl
theorem dX12_freshens_50 : decode cX12_freshens 50 = .ok (.invokevirtual 320, 3) := z_dk tdX12_freshens_40 4 rfl
theorem dX12_freshens_53 : decode cX12_freshens 53 = .ok (.aload_n 0, 1) := z_dk tdX12_freshens_40 5 rfl
theorem dX12_freshens_54 : decode cX12_freshens 54 = .ok (.iconst 1, 1) := z_dk tdX12_freshens_40 6 rfl
theorem dX12_freshens_55 : decode cX12_freshens 55 = .ok (.putfield 263, 3) := z_dk tdX12_freshens_40 7 rfl
theorem dX12_freshens_58 : decode cX12_freshens 58 = .ok (.aload_n 0, 1) := z_dk tdX12_freshens_40 8 rfl
theorem dX12_freshens_59 : decode cX12_freshens 59 = .ok (.iconst 0, 1) := z_dk tdX12_freshens_40 9 rfl
theorem dX12_freshens_60 : decode cX12_freshens 60 = .ok (.putfield 323, 3) := z_dk tdX12_freshens_40 10 rfl
theorem dX12_freshens_63 : decode cX12_freshens 63 = .ok (.return_, 1) := z_dk tdX12_freshens_40 11 rfl
theorem tdX12_longAs_0 : (([(0, .aload_n 0, 1), (1, .invokevirtual 326, 3), (4, .aload_n 0, 1), (5, .getfield 96, 3), (8, .iload_n 1, 1), (9, .aaload, 1), (10, .iload_n 2, 1), (11, .iaload, 1), (12, .iconst (-1), 1), (13, .if_icmp .ne 17, 3), (16, .aload_n 0, 1), (17, .getfield 96, 3), (20, .iload_n 1, 1), (21, .aaload, 1), (22, .iload_n 2, 1), (23, .aload_n 0, 1), (24, .iload_n 1, 1), (25, .iload_n 2, 1), (26, .invokevirtual 329, 3), (29, .iastore, 1), (30, .aload_n 0, 1), (31, .getfield 96, 3), (34, .iload_n 1, 1), (35, .aaload, 1)] : List (Nat × Instr × Nat)).all fun e => decide (decode cX12_longAs e.1 = .ok e.2)) = true := by decide +kernel
theorem dX12_longAs_0 : decode cX12_longAs 0 = .ok (.aload_n 0, 1) := z_dk tdX12_longAs_0 0 rfl
theorem dX12_longAs_1 : decode cX12_longAs 1 = .ok (.invokevirtual 326, 3) := z_dk tdX12_longAs_0 1 rfl
theorem dX12_longAs_4 : decode cX12_longAs 4 = .ok (.aload_n 0, 1) := z_dk tdX12_longAs_0 2 rfl
theorem dX12_longAs_5 : decode cX12_longAs 5 = .ok (.getfield 96, 3) := z_dk tdX12_longAs_0 3 rfl
theorem dX12_longAs_8 : decode cX12_longAs 8 = .ok (.iload_n 1, 1) := z_dk tdX12_longAs_0 4 rfl
theorem dX12_longAs_9 : decode cX12_longAs 9 = .ok (.aaload, 1) := z_dk tdX12_longAs_0 5 rfl
theorem dX12_longAs_10 : decode cX12_longAs 10 = .ok (.iload_n 2, 1) := z_dk tdX12_longAs_0 6 rfl
theorem dX12_longAs_11 : decode cX12_longAs 11 = .ok (.iaload, 1) := z_dk tdX12_longAs_0 7 rfl
theorem dX12_longAs_12 : decode cX12_longAs 12 = .ok (.iconst (-1), 1) := z_dk tdX12_longAs_0 8 rfl
theorem dX12_longAs_13 : decode cX12_longAs 13 = .ok (.if_icmp .ne 17, 3) := z_dk tdX12_longAs_0 9 rfl
theorem dX12_longAs_16 : decode cX12_longAs 16 = .ok (.aload_n 0, 1) := z_dk tdX12_longAs_0 10 rfl
theorem dX12_longAs_17 : decode cX12_longAs 17 = .ok (.getfield 96, 3) := z_dk tdX12_longAs_0 11 rfl
theorem dX12_longAs_20 : decode cX12_longAs 20 = .ok (.iload_n 1, 1) := z_dk tdX12_longAs_0 12 rfl
theorem dX12_longAs_21 : decode cX12_longAs 21 = .ok (.aaload, 1) := z_dk tdX12_longAs_0 13 rfl
theorem dX12_longAs_22 : decode cX12_longAs 22 = .ok (.iload_n 2, 1) := z_dk tdX12_longAs_0 14 rfl
theorem dX12_longAs_23 : decode cX12_longAs 23 = .ok (.aload_n 0, 1) := z_dk tdX12_longAs_0 15 rfl
theorem dX12_longAs_24 : decode cX12_longAs 24 = .ok (.iload_n 1, 1) := z_dk tdX12_longAs_0 16 rfl
theorem dX12_longAs_25 : decode cX12_longAs 25 = .ok (.iload_n 2, 1) := z_dk tdX12_longAs_0 17 rfl
theorem dX12_longAs_26 : decode cX12_longAs 26 = .ok (.invokevirtual 329, 3) := z_dk tdX12_longAs_0 18 rfl
theorem dX12_longAs_29 : decode cX12_longAs 29 = .ok (.iastore, 1) := z_dk tdX12_longAs_0 19 rfl
theorem dX12_longAs_30 : decode cX12_longAs 30 = .ok (.aload_n 0, 1) := z_dk tdX12_longAs_0 20 rfl
theorem dX12_longAs_31 : decode cX12_longAs 31 = .ok (.getfield 96, 3) := z_dk tdX12_longAs_0 21 rfl
theorem dX12_longAs_34 : decode cX12_longAs 34 = .ok (.iload_n 1, 1) := z_dk tdX12_longAs_0 22 rfl
theorem dX12_longAs_35 : decode cX12_longAs 35 = .ok (.aaload, 1) := z_dk tdX12_longAs_0 23 rfl
theorem tdX12_longAs_36 : (([(36, .iload_n 2, 1), (37, .iaload, 1), (38, .ireturn, 1)] : List (Nat × Instr × Nat)).all fun e => decide (decode cX12_longAs e.1 = .ok e.2)) = true := by decide +kernel
theorem dX12_longAs_36 : decode cX12_longAs 36 = .ok (.iload_n 2, 1) := z_dk tdX12_longAs_36 0 rfl
theorem dX12_longAs_37 : decode cX12_longAs 37 = .ok (.iaload, 1) := z_dk tdX12_longAs_36 1 rfl
theorem dX12_longAs_38 : decode cX12_longAs 38 = .ok (.ireturn, 1) := z_dk tdX12_longAs_36 2 rfl
theorem tdX12_mayEnd_0 : (([(0, .aload_n 0, 1), (1, .invokevirtual 326, 3), (4, .iload_n 1, 1), (5, .iconst 1, 1), (6, .iadd, 1), (7, .aload_n 0, 1), (8, .getfield 242, 3), (11, .if_icmp .ge 36, 3), (14, .aload_n 0, 1), (15, .getfield 54, 3), (18, .iload_n 1, 1), (19, .iaload, 1), (20, .iconst 4, 1), (21, .if_icmp .eq 26, 3), (24, .aload_n 0, 1), (25, .iload_n 1, 1), (26, .iconst 1, 1), (27, .iadd, 1), (28, .invokevirtual 282, 3), (31, .ifCond .ne 16, 3), (34, .aload_n 0, 1), (35, .getfield 105, 3), (38, .iload_n 1, 1), (39, .baload, 1)] : List (Nat × Instr × Nat)).all fun e => decide (decode cX12_mayEnd e.1 = .ok e.2)) = true := by decide +kernel
theorem dX12_mayEnd_0 : decode cX12_mayEnd 0 = .ok (.aload_n 0, 1) := z_dk tdX12_mayEnd_0 0 rfl
theorem dX12_mayEnd_1 : decode cX12_mayEnd 1 = .ok (.invokevirtual 326, 3) := z_dk tdX12_mayEnd_0 1 rfl
theorem dX12_mayEnd_4 : decode cX12_mayEnd 4 = .ok (.iload_n 1, 1) := z_dk tdX12_mayEnd_0 2 rfl
theorem dX12_mayEnd_5 : decode cX12_mayEnd 5 = .ok (.iconst 1, 1) := z_dk tdX12_mayEnd_0 3 rfl
theorem dX12_mayEnd_6 : decode cX12_mayEnd 6 = .ok (.iadd, 1) := z_dk tdX12_mayEnd_0 4 rfl
theorem dX12_mayEnd_7 : decode cX12_mayEnd 7 = .ok (.aload_n 0, 1) := z_dk tdX12_mayEnd_0 5 rfl
theorem dX12_mayEnd_8 : decode cX12_mayEnd 8 = .ok (.getfield 242, 3) := z_dk tdX12_mayEnd_0 6 rfl
theorem dX12_mayEnd_11 : decode cX12_mayEnd 11 = .ok (.if_icmp .ge 36, 3) := z_dk tdX12_mayEnd_0 7 rfl
theorem dX12_mayEnd_14 : decode cX12_mayEnd 14 = .ok (.aload_n 0, 1) := z_dk tdX12_mayEnd_0 8 rfl
theorem dX12_mayEnd_15 : decode cX12_mayEnd 15 = .ok (.getfield 54, 3) := z_dk tdX12_mayEnd_0 9 rfl
theorem dX12_mayEnd_18 : decode cX12_mayEnd 18 = .ok (.iload_n 1, 1) := z_dk tdX12_mayEnd_0 10 rfl
theorem dX12_mayEnd_19 : decode cX12_mayEnd 19 = .ok (.iaload, 1) := z_dk tdX12_mayEnd_0 11 rfl
theorem dX12_mayEnd_20 : decode cX12_mayEnd 20 = .ok (.iconst 4, 1) := z_dk tdX12_mayEnd_0 12 rfl
theorem dX12_mayEnd_21 : decode cX12_mayEnd 21 = .ok (.if_icmp .eq 26, 3) := z_dk tdX12_mayEnd_0 13 rfl
theorem dX12_mayEnd_24 : decode cX12_mayEnd 24 = .ok (.aload_n 0, 1) := z_dk tdX12_mayEnd_0 14 rfl
theorem dX12_mayEnd_25 : decode cX12_mayEnd 25 = .ok (.iload_n 1, 1) := z_dk tdX12_mayEnd_0 15 rfl
theorem dX12_mayEnd_26 : decode cX12_mayEnd 26 = .ok (.iconst 1, 1) := z_dk tdX12_mayEnd_0 16 rfl
theorem dX12_mayEnd_27 : decode cX12_mayEnd 27 = .ok (.iadd, 1) := z_dk tdX12_mayEnd_0 17 rfl
theorem dX12_mayEnd_28 : decode cX12_mayEnd 28 = .ok (.invokevirtual 282, 3) := z_dk tdX12_mayEnd_0 18 rfl
theorem dX12_mayEnd_31 : decode cX12_mayEnd 31 = .ok (.ifCond .ne 16, 3) := z_dk tdX12_mayEnd_0 19 rfl
theorem dX12_mayEnd_34 : decode cX12_mayEnd 34 = .ok (.aload_n 0, 1) := z_dk tdX12_mayEnd_0 20 rfl
theorem dX12_mayEnd_35 : decode cX12_mayEnd 35 = .ok (.getfield 105, 3) := z_dk tdX12_mayEnd_0 21 rfl
theorem dX12_mayEnd_38 : decode cX12_mayEnd 38 = .ok (.iload_n 1, 1) := z_dk tdX12_mayEnd_0 22 rfl
theorem dX12_mayEnd_39 : decode cX12_mayEnd 39 = .ok (.baload, 1) := z_dk tdX12_mayEnd_0 23 rfl
theorem tdX12_mayEnd_40 : (([(40, .ifCond .ne 7, 3), (43, .iconst 1, 1), (44, .goto 4, 3), (47, .iconst 0, 1), (48, .ireturn, 1)] : List (Nat × Instr × Nat)).all fun e => decide (decode cX12_mayEnd e.1 = .ok e.2)) = true := by decide +kernel
theorem dX12_mayEnd_40 : decode cX12_mayEnd 40 = .ok (.ifCond .ne 7, 3) := z_dk tdX12_mayEnd_40 0 rfl
theorem dX12_mayEnd_43 : decode cX12_mayEnd 43 = .ok (.iconst 1, 1) := z_dk tdX12_mayEnd_40 1 rfl
theorem dX12_mayEnd_44 : decode cX12_mayEnd 44 = .ok (.goto 4, 3) := z_dk tdX12_mayEnd_40 2 rfl
theorem dX12_mayEnd_47 : decode cX12_mayEnd 47 = .ok (.iconst 0, 1) := z_dk tdX12_mayEnd_40 3 rfl
theorem dX12_mayEnd_48 : decode cX12_mayEnd 48 = .ok (.ireturn, 1) := z_dk tdX12_mayEnd_40 4 rfl
theorem tdX12_comes_0 : (([(0, .iconst (-1), 1), (1, .istore_n 3, 1), (2, .iconst (-1), 1), (3, .istore 4, 2), (5, .iload_n 1, 1), (6, .istore 5, 2), (8, .iload 5, 2), (10, .aload_n 0, 1), (11, .getfield 242, 3), (14, .if_icmp .ge 50, 3), (17, .aload_n 0, 1), (18, .iload_n 1, 1), (19, .iload 5, 2), (21, .invokevirtual 332, 3), (24, .iload_n 2, 1), (25, .if_icmp .le 6, 3), (28, .goto 30, 3), (31, .iload 5, 2), (33, .istore 4, 2), (35, .iload 5, 2), (37, .aload_n 0, 1), (38, .getfield 242, 3), (41, .iconst 1, 1), (42, .isub, 1)] : List (Nat × Instr × Nat)).all fun e => decide (decode cX12_comes e.1 = .ok e.2)) = true := by decide +kernel
theorem dX12_comes_0 : decode cX12_comes 0 = .ok (.iconst (-1), 1) := z_dk tdX12_comes_0 0 rfl
theorem dX12_comes_1 : decode cX12_comes 1 = .ok (.istore_n 3, 1) := z_dk tdX12_comes_0 1 rfl
theorem dX12_comes_2 : decode cX12_comes 2 = .ok (.iconst (-1), 1) := z_dk tdX12_comes_0 2 rfl
theorem dX12_comes_3 : decode cX12_comes 3 = .ok (.istore 4, 2) := z_dk tdX12_comes_0 3 rfl
theorem dX12_comes_5 : decode cX12_comes 5 = .ok (.iload_n 1, 1) := z_dk tdX12_comes_0 4 rfl
theorem dX12_comes_6 : decode cX12_comes 6 = .ok (.istore 5, 2) := z_dk tdX12_comes_0 5 rfl
theorem dX12_comes_8 : decode cX12_comes 8 = .ok (.iload 5, 2) := z_dk tdX12_comes_0 6 rfl
theorem dX12_comes_10 : decode cX12_comes 10 = .ok (.aload_n 0, 1) := z_dk tdX12_comes_0 7 rfl
theorem dX12_comes_11 : decode cX12_comes 11 = .ok (.getfield 242, 3) := z_dk tdX12_comes_0 8 rfl
theorem dX12_comes_14 : decode cX12_comes 14 = .ok (.if_icmp .ge 50, 3) := z_dk tdX12_comes_0 9 rfl
theorem dX12_comes_17 : decode cX12_comes 17 = .ok (.aload_n 0, 1) := z_dk tdX12_comes_0 10 rfl
theorem dX12_comes_18 : decode cX12_comes 18 = .ok (.iload_n 1, 1) := z_dk tdX12_comes_0 11 rfl
theorem dX12_comes_19 : decode cX12_comes 19 = .ok (.iload 5, 2) := z_dk tdX12_comes_0 12 rfl
theorem dX12_comes_21 : decode cX12_comes 21 = .ok (.invokevirtual 332, 3) := z_dk tdX12_comes_0 13 rfl
theorem dX12_comes_24 : decode cX12_comes 24 = .ok (.iload_n 2, 1) := z_dk tdX12_comes_0 14 rfl
theorem dX12_comes_25 : decode cX12_comes 25 = .ok (.if_icmp .le 6, 3) := z_dk tdX12_comes_0 15 rfl
theorem dX12_comes_28 : decode cX12_comes 28 = .ok (.goto 30, 3) := z_dk tdX12_comes_0 16 rfl
theorem dX12_comes_31 : decode cX12_comes 31 = .ok (.iload 5, 2) := z_dk tdX12_comes_0 17 rfl
theorem dX12_comes_33 : decode cX12_comes 33 = .ok (.istore 4, 2) := z_dk tdX12_comes_0 18 rfl
theorem dX12_comes_35 : decode cX12_comes 35 = .ok (.iload 5, 2) := z_dk tdX12_comes_0 19 rfl
theorem dX12_comes_37 : decode cX12_comes 37 = .ok (.aload_n 0, 1) := z_dk tdX12_comes_0 20 rfl
theorem dX12_comes_38 : decode cX12_comes 38 = .ok (.getfield 242, 3) := z_dk tdX12_comes_0 21 rfl
theorem dX12_comes_41 : decode cX12_comes 41 = .ok (.iconst 1, 1) := z_dk tdX12_comes_0 22 rfl
theorem dX12_comes_42 : decode cX12_comes 42 = .ok (.isub, 1) := z_dk tdX12_comes_0 23 rfl
theorem tdX12_comes_43 : (([(43, .if_icmp .eq 12, 3), (46, .aload_n 0, 1), (47, .iload 5, 2), (49, .invokevirtual 335, 3), (52, .ifCond .eq 6, 3), (55, .iload 5, 2), (57, .istore_n 3, 1), (58, .iinc 5 1, 3), (61, .goto (-53), 3), (64, .iload_n 3, 1), (65, .iconst (-1), 1), (66, .if_icmp .eq 7, 3), (69, .iload_n 3, 1), (70, .goto 15, 3), (73, .iload 4, 2), (75, .iconst (-1), 1), (76, .if_icmp .eq 8, 3), (79, .iload 4, 2), (81, .goto 4, 3), (84, .iload_n 1, 1), (85, .ireturn, 1)] : List (Nat × Instr × Nat)).all fun e => decide (decode cX12_comes e.1 = .ok e.2)) = true := by decide +kernel
theorem dX12_comes_43 : decode cX12_comes 43 = .ok (.if_icmp .eq 12, 3) := z_dk tdX12_comes_43 0 rfl
theorem dX12_comes_46 : decode cX12_comes 46 = .ok (.aload_n 0, 1) := z_dk tdX12_comes_43 1 rfl
theorem dX12_comes_47 : decode cX12_comes 47 = .ok (.iload 5, 2) := z_dk tdX12_comes_43 2 rfl
theorem dX12_comes_49 : decode cX12_comes 49 = .ok (.invokevirtual 335, 3) := z_dk tdX12_comes_43 3 rfl
theorem dX12_comes_52 : decode cX12_comes 52 = .ok (.ifCond .eq 6, 3) := z_dk tdX12_comes_43 4 rfl
theorem dX12_comes_55 : decode cX12_comes 55 = .ok (.iload 5, 2) := z_dk tdX12_comes_43 5 rfl
theorem dX12_comes_57 : decode cX12_comes 57 = .ok (.istore_n 3, 1) := z_dk tdX12_comes_43 6 rfl
theorem dX12_comes_58 : decode cX12_comes 58 = .ok (.iinc 5 1, 3) := z_dk tdX12_comes_43 7 rfl
theorem dX12_comes_61 : decode cX12_comes 61 = .ok (.goto (-53), 3) := z_dk tdX12_comes_43 8 rfl
theorem dX12_comes_64 : decode cX12_comes 64 = .ok (.iload_n 3, 1) := z_dk tdX12_comes_43 9 rfl
theorem dX12_comes_65 : decode cX12_comes 65 = .ok (.iconst (-1), 1) := z_dk tdX12_comes_43 10 rfl
theorem dX12_comes_66 : decode cX12_comes 66 = .ok (.if_icmp .eq 7, 3) := z_dk tdX12_comes_43 11 rfl
theorem dX12_comes_69 : decode cX12_comes 69 = .ok (.iload_n 3, 1) := z_dk tdX12_comes_43 12 rfl
theorem dX12_comes_70 : decode cX12_comes 70 = .ok (.goto 15, 3) := z_dk tdX12_comes_43 13 rfl
theorem dX12_comes_73 : decode cX12_comes 73 = .ok (.iload 4, 2) := z_dk tdX12_comes_43 14 rfl
theorem dX12_comes_75 : decode cX12_comes 75 = .ok (.iconst (-1), 1) := z_dk tdX12_comes_43 15 rfl
theorem dX12_comes_76 : decode cX12_comes 76 = .ok (.if_icmp .eq 8, 3) := z_dk tdX12_comes_43 16 rfl
theorem dX12_comes_79 : decode cX12_comes 79 = .ok (.iload 4, 2) := z_dk tdX12_comes_43 17 rfl
theorem dX12_comes_81 : decode cX12_comes 81 = .ok (.goto 4, 3) := z_dk tdX12_comes_43 18 rfl
theorem dX12_comes_84 : decode cX12_comes 84 = .ok (.iload_n 1, 1) := z_dk tdX12_comes_43 19 rfl
theorem dX12_comes_85 : decode cX12_comes 85 = .ok (.ireturn, 1) := z_dk tdX12_comes_43 20 rfl
theorem tdX12_cost_0 : (([(0, .aload_n 0, 1), (1, .iload_n 1, 1), (2, .iload_n 2, 1), (3, .invokevirtual 332, 3), (6, .istore 4, 2), (8, .iload 4, 2), (10, .iload_n 3, 1), (11, .if_icmp .le 13, 3), (14, .ldc2_w 338, 3), (17, .iload 4, 2), (19, .iload_n 3, 1), (20, .isub, 1), (21, .i2l, 1), (22, .lmul, 1), (23, .lreturn, 1), (24, .iload_n 2, 1), (25, .aload_n 0, 1), (26, .getfield 242, 3), (29, .iconst 1, 1), (30, .isub, 1), (31, .if_icmp .ne 7, 3), (34, .lconst 0, 1), (35, .goto 14, 3), (38, .iload_n 3, 1)] : List (Nat × Instr × Nat)).all fun e => decide (decode cX12_cost e.1 = .ok e.2)) = true := by decide +kernel
theorem dX12_cost_0 : decode cX12_cost 0 = .ok (.aload_n 0, 1) := z_dk tdX12_cost_0 0 rfl
theorem dX12_cost_1 : decode cX12_cost 1 = .ok (.iload_n 1, 1) := z_dk tdX12_cost_0 1 rfl
theorem dX12_cost_2 : decode cX12_cost 2 = .ok (.iload_n 2, 1) := z_dk tdX12_cost_0 2 rfl
theorem dX12_cost_3 : decode cX12_cost 3 = .ok (.invokevirtual 332, 3) := z_dk tdX12_cost_0 3 rfl
theorem dX12_cost_6 : decode cX12_cost 6 = .ok (.istore 4, 2) := z_dk tdX12_cost_0 4 rfl
theorem dX12_cost_8 : decode cX12_cost 8 = .ok (.iload 4, 2) := z_dk tdX12_cost_0 5 rfl
theorem dX12_cost_10 : decode cX12_cost 10 = .ok (.iload_n 3, 1) := z_dk tdX12_cost_0 6 rfl
theorem dX12_cost_11 : decode cX12_cost 11 = .ok (.if_icmp .le 13, 3) := z_dk tdX12_cost_0 7 rfl
theorem dX12_cost_14 : decode cX12_cost 14 = .ok (.ldc2_w 338, 3) := z_dk tdX12_cost_0 8 rfl
theorem dX12_cost_17 : decode cX12_cost 17 = .ok (.iload 4, 2) := z_dk tdX12_cost_0 9 rfl
theorem dX12_cost_19 : decode cX12_cost 19 = .ok (.iload_n 3, 1) := z_dk tdX12_cost_0 10 rfl
theorem dX12_cost_20 : decode cX12_cost 20 = .ok (.isub, 1) := z_dk tdX12_cost_0 11 rfl
theorem dX12_cost_21 : decode cX12_cost 21 = .ok (.i2l, 1) := z_dk tdX12_cost_0 12 rfl
theorem dX12_cost_22 : decode cX12_cost 22 = .ok (.lmul, 1) := z_dk tdX12_cost_0 13 rfl
theorem dX12_cost_23 : decode cX12_cost 23 = .ok (.lreturn, 1) := z_dk tdX12_cost_0 14 rfl
theorem dX12_cost_24 : decode cX12_cost 24 = .ok (.iload_n 2, 1) := z_dk tdX12_cost_0 15 rfl
theorem dX12_cost_25 : decode cX12_cost 25 = .ok (.aload_n 0, 1) := z_dk tdX12_cost_0 16 rfl
theorem dX12_cost_26 : decode cX12_cost 26 = .ok (.getfield 242, 3) := z_dk tdX12_cost_0 17 rfl
theorem dX12_cost_29 : decode cX12_cost 29 = .ok (.iconst 1, 1) := z_dk tdX12_cost_0 18 rfl
theorem dX12_cost_30 : decode cX12_cost 30 = .ok (.isub, 1) := z_dk tdX12_cost_0 19 rfl
theorem dX12_cost_31 : decode cX12_cost 31 = .ok (.if_icmp .ne 7, 3) := z_dk tdX12_cost_0 20 rfl
theorem dX12_cost_34 : decode cX12_cost 34 = .ok (.lconst 0, 1) := z_dk tdX12_cost_0 21 rfl
theorem dX12_cost_35 : decode cX12_cost 35 = .ok (.goto 14, 3) := z_dk tdX12_cost_0 22 rfl
theorem dX12_cost_38 : decode cX12_cost 38 = .ok (.iload_n 3, 1) := z_dk tdX12_cost_0 23 rfl
theorem tdX12_cost_39 : (([(39, .iload 4, 2), (41, .isub, 1), (42, .i2l, 1), (43, .iload_n 3, 1), (44, .iload 4, 2), (46, .isub, 1), (47, .i2l, 1), (48, .lmul, 1), (49, .lreturn, 1)] : List (Nat × Instr × Nat)).all fun e => decide (decode cX12_cost e.1 = .ok e.2)) = true := by decide +kernel
theorem dX12_cost_39 : decode cX12_cost 39 = .ok (.iload 4, 2) := z_dk tdX12_cost_39 0 rfl
theorem dX12_cost_41 : decode cX12_cost 41 = .ok (.isub, 1) := z_dk tdX12_cost_39 1 rfl
theorem dX12_cost_42 : decode cX12_cost 42 = .ok (.i2l, 1) := z_dk tdX12_cost_39 2 rfl
theorem dX12_cost_43 : decode cX12_cost 43 = .ok (.iload_n 3, 1) := z_dk tdX12_cost_39 3 rfl
theorem dX12_cost_44 : decode cX12_cost 44 = .ok (.iload 4, 2) := z_dk tdX12_cost_39 4 rfl
theorem dX12_cost_46 : decode cX12_cost 46 = .ok (.isub, 1) := z_dk tdX12_cost_39 5 rfl
theorem dX12_cost_47 : decode cX12_cost 47 = .ok (.i2l, 1) := z_dk tdX12_cost_39 6 rfl
theorem dX12_cost_48 : decode cX12_cost 48 = .ok (.lmul, 1) := z_dk tdX12_cost_39 7 rfl
theorem dX12_cost_49 : decode cX12_cost 49 = .ok (.lreturn, 1) := z_dk tdX12_cost_39 8 rfl
theorem tdX12_laysBest_0 : (([(0, .aload_n 0, 1), (1, .getfield 112, 3), (4, .aload_n 0, 1), (5, .getfield 242, 3), (8, .lconst 0, 1), (9, .lastore, 1), (10, .aload_n 0, 1), (11, .getfield 242, 3), (14, .iconst 1, 1), (15, .isub, 1), (16, .istore_n 2, 1), (17, .iload_n 2, 1), (18, .ifCond .lt 116, 3), (21, .aload_n 0, 1), (22, .getfield 112, 3), (25, .iload_n 2, 1), (26, .ldc2_w 340, 3), (29, .lastore, 1), (30, .iload_n 2, 1), (31, .istore_n 3, 1), (32, .iload_n 3, 1), (33, .aload_n 0, 1), (34, .getfield 242, 3), (37, .if_icmp .ge 91, 3)] : List (Nat × Instr × Nat)).all fun e => decide (decode cX12_laysBest e.1 = .ok e.2)) = true := by decide +kernel
theorem dX12_laysBest_0 : decode cX12_laysBest 0 = .ok (.aload_n 0, 1) := z_dk tdX12_laysBest_0 0 rfl
theorem dX12_laysBest_1 : decode cX12_laysBest 1 = .ok (.getfield 112, 3) := z_dk tdX12_laysBest_0 1 rfl
theorem dX12_laysBest_4 : decode cX12_laysBest 4 = .ok (.aload_n 0, 1) := z_dk tdX12_laysBest_0 2 rfl
theorem dX12_laysBest_5 : decode cX12_laysBest 5 = .ok (.getfield 242, 3) := z_dk tdX12_laysBest_0 3 rfl
theorem dX12_laysBest_8 : decode cX12_laysBest 8 = .ok (.lconst 0, 1) := z_dk tdX12_laysBest_0 4 rfl
theorem dX12_laysBest_9 : decode cX12_laysBest 9 = .ok (.lastore, 1) := z_dk tdX12_laysBest_0 5 rfl
theorem dX12_laysBest_10 : decode cX12_laysBest 10 = .ok (.aload_n 0, 1) := z_dk tdX12_laysBest_0 6 rfl
theorem dX12_laysBest_11 : decode cX12_laysBest 11 = .ok (.getfield 242, 3) := z_dk tdX12_laysBest_0 7 rfl
theorem dX12_laysBest_14 : decode cX12_laysBest 14 = .ok (.iconst 1, 1) := z_dk tdX12_laysBest_0 8 rfl
theorem dX12_laysBest_15 : decode cX12_laysBest 15 = .ok (.isub, 1) := z_dk tdX12_laysBest_0 9 rfl
theorem dX12_laysBest_16 : decode cX12_laysBest 16 = .ok (.istore_n 2, 1) := z_dk tdX12_laysBest_0 10 rfl
theorem dX12_laysBest_17 : decode cX12_laysBest 17 = .ok (.iload_n 2, 1) := z_dk tdX12_laysBest_0 11 rfl
theorem dX12_laysBest_18 : decode cX12_laysBest 18 = .ok (.ifCond .lt 116, 3) := z_dk tdX12_laysBest_0 12 rfl
theorem dX12_laysBest_21 : decode cX12_laysBest 21 = .ok (.aload_n 0, 1) := z_dk tdX12_laysBest_0 13 rfl
theorem dX12_laysBest_22 : decode cX12_laysBest 22 = .ok (.getfield 112, 3) := z_dk tdX12_laysBest_0 14 rfl
theorem dX12_laysBest_25 : decode cX12_laysBest 25 = .ok (.iload_n 2, 1) := z_dk tdX12_laysBest_0 15 rfl
theorem dX12_laysBest_26 : decode cX12_laysBest 26 = .ok (.ldc2_w 340, 3) := z_dk tdX12_laysBest_0 16 rfl
theorem dX12_laysBest_29 : decode cX12_laysBest 29 = .ok (.lastore, 1) := z_dk tdX12_laysBest_0 17 rfl
theorem dX12_laysBest_30 : decode cX12_laysBest 30 = .ok (.iload_n 2, 1) := z_dk tdX12_laysBest_0 18 rfl
theorem dX12_laysBest_31 : decode cX12_laysBest 31 = .ok (.istore_n 3, 1) := z_dk tdX12_laysBest_0 19 rfl
theorem dX12_laysBest_32 : decode cX12_laysBest 32 = .ok (.iload_n 3, 1) := z_dk tdX12_laysBest_0 20 rfl
theorem dX12_laysBest_33 : decode cX12_laysBest 33 = .ok (.aload_n 0, 1) := z_dk tdX12_laysBest_0 21 rfl
theorem dX12_laysBest_34 : decode cX12_laysBest 34 = .ok (.getfield 242, 3) := z_dk tdX12_laysBest_0 22 rfl
theorem dX12_laysBest_37 : decode cX12_laysBest 37 = .ok (.if_icmp .ge 91, 3) := z_dk tdX12_laysBest_0 23 rfl
theorem tdX12_laysBest_40 : (([(40, .iload_n 3, 1), (41, .aload_n 0, 1), (42, .getfield 242, 3), (45, .iconst 1, 1), (46, .isub, 1), (47, .if_icmp .ge 14, 3), (50, .aload_n 0, 1), (51, .iload_n 3, 1), (52, .invokevirtual 335, 3), (55, .ifCond .ne 6, 3), (58, .goto 64, 3), (61, .aload_n 0, 1), (62, .iload_n 2, 1), (63, .iload_n 3, 1), (64, .iload_n 1, 1), (65, .invokevirtual 342, 3), (68, .aload_n 0, 1), (69, .getfield 112, 3), (72, .iload_n 3, 1), (73, .iconst 1, 1), (74, .iadd, 1), (75, .laload, 1), (76, .ladd, 1), (77, .lstore 4, 2)] : List (Nat × Instr × Nat)).all fun e => decide (decode cX12_laysBest e.1 = .ok e.2)) = true := by decide +kernel
theorem dX12_laysBest_40 : decode cX12_laysBest 40 = .ok (.iload_n 3, 1) := z_dk tdX12_laysBest_40 0 rfl
theorem dX12_laysBest_41 : decode cX12_laysBest 41 = .ok (.aload_n 0, 1) := z_dk tdX12_laysBest_40 1 rfl
theorem dX12_laysBest_42 : decode cX12_laysBest 42 = .ok (.getfield 242, 3) := z_dk tdX12_laysBest_40 2 rfl
theorem dX12_laysBest_45 : decode cX12_laysBest 45 = .ok (.iconst 1, 1) := z_dk tdX12_laysBest_40 3 rfl
theorem dX12_laysBest_46 : decode cX12_laysBest 46 = .ok (.isub, 1) := z_dk tdX12_laysBest_40 4 rfl
theorem dX12_laysBest_47 : decode cX12_laysBest 47 = .ok (.if_icmp .ge 14, 3) := z_dk tdX12_laysBest_40 5 rfl
theorem dX12_laysBest_50 : decode cX12_laysBest 50 = .ok (.aload_n 0, 1) := z_dk tdX12_laysBest_40 6 rfl
theorem dX12_laysBest_51 : decode cX12_laysBest 51 = .ok (.iload_n 3, 1) := z_dk tdX12_laysBest_40 7 rfl
theorem dX12_laysBest_52 : decode cX12_laysBest 52 = .ok (.invokevirtual 335, 3) := z_dk tdX12_laysBest_40 8 rfl
theorem dX12_laysBest_55 : decode cX12_laysBest 55 = .ok (.ifCond .ne 6, 3) := z_dk tdX12_laysBest_40 9 rfl
theorem dX12_laysBest_58 : decode cX12_laysBest 58 = .ok (.goto 64, 3) := z_dk tdX12_laysBest_40 10 rfl
theorem dX12_laysBest_61 : decode cX12_laysBest 61 = .ok (.aload_n 0, 1) := z_dk tdX12_laysBest_40 11 rfl
theorem dX12_laysBest_62 : decode cX12_laysBest 62 = .ok (.iload_n 2, 1) := z_dk tdX12_laysBest_40 12 rfl
theorem dX12_laysBest_63 : decode cX12_laysBest 63 = .ok (.iload_n 3, 1) := z_dk tdX12_laysBest_40 13 rfl
theorem dX12_laysBest_64 : decode cX12_laysBest 64 = .ok (.iload_n 1, 1) := z_dk tdX12_laysBest_40 14 rfl
theorem dX12_laysBest_65 : decode cX12_laysBest 65 = .ok (.invokevirtual 342, 3) := z_dk tdX12_laysBest_40 15 rfl
theorem dX12_laysBest_68 : decode cX12_laysBest 68 = .ok (.aload_n 0, 1) := z_dk tdX12_laysBest_40 16 rfl
theorem dX12_laysBest_69 : decode cX12_laysBest 69 = .ok (.getfield 112, 3) := z_dk tdX12_laysBest_40 17 rfl
theorem dX12_laysBest_72 : decode cX12_laysBest 72 = .ok (.iload_n 3, 1) := z_dk tdX12_laysBest_40 18 rfl
theorem dX12_laysBest_73 : decode cX12_laysBest 73 = .ok (.iconst 1, 1) := z_dk tdX12_laysBest_40 19 rfl
theorem dX12_laysBest_74 : decode cX12_laysBest 74 = .ok (.iadd, 1) := z_dk tdX12_laysBest_40 20 rfl
theorem dX12_laysBest_75 : decode cX12_laysBest 75 = .ok (.laload, 1) := z_dk tdX12_laysBest_40 21 rfl
theorem dX12_laysBest_76 : decode cX12_laysBest 76 = .ok (.ladd, 1) := z_dk tdX12_laysBest_40 22 rfl
theorem dX12_laysBest_77 : decode cX12_laysBest 77 = .ok (.lstore 4, 2) := z_dk tdX12_laysBest_40 23 rfl
theorem tdX12_laysBest_79 : (([(79, .aload_n 0, 1), (80, .getfield 112, 3), (83, .iload_n 2, 1), (84, .laload, 1), (85, .ldc2_w 340, 3), (88, .lcmp, 1), (89, .ifCond .eq 18, 3), (92, .lload 4, 2), (94, .aload_n 0, 1), (95, .getfield 112, 3), (98, .iload_n 2, 1), (99, .laload, 1), (100, .lcmp, 1), (101, .ifCond .lt 6, 3), (104, .goto 18, 3), (107, .aload_n 0, 1), (108, .getfield 112, 3), (111, .iload_n 2, 1), (112, .lload 4, 2), (114, .lastore, 1), (115, .aload_n 0, 1), (116, .getfield 116, 3), (119, .iload_n 2, 1), (120, .iload_n 3, 1)] : List (Nat × Instr × Nat)).all fun e => decide (decode cX12_laysBest e.1 = .ok e.2)) = true := by decide +kernel
theorem dX12_laysBest_79 : decode cX12_laysBest 79 = .ok (.aload_n 0, 1) := z_dk tdX12_laysBest_79 0 rfl
theorem dX12_laysBest_80 : decode cX12_laysBest 80 = .ok (.getfield 112, 3) := z_dk tdX12_laysBest_79 1 rfl
theorem dX12_laysBest_83 : decode cX12_laysBest 83 = .ok (.iload_n 2, 1) := z_dk tdX12_laysBest_79 2 rfl
theorem dX12_laysBest_84 : decode cX12_laysBest 84 = .ok (.laload, 1) := z_dk tdX12_laysBest_79 3 rfl
theorem dX12_laysBest_85 : decode cX12_laysBest 85 = .ok (.ldc2_w 340, 3) := z_dk tdX12_laysBest_79 4 rfl
theorem dX12_laysBest_88 : decode cX12_laysBest 88 = .ok (.lcmp, 1) := z_dk tdX12_laysBest_79 5 rfl
theorem dX12_laysBest_89 : decode cX12_laysBest 89 = .ok (.ifCond .eq 18, 3) := z_dk tdX12_laysBest_79 6 rfl
theorem dX12_laysBest_92 : decode cX12_laysBest 92 = .ok (.lload 4, 2) := z_dk tdX12_laysBest_79 7 rfl
theorem dX12_laysBest_94 : decode cX12_laysBest 94 = .ok (.aload_n 0, 1) := z_dk tdX12_laysBest_79 8 rfl
theorem dX12_laysBest_95 : decode cX12_laysBest 95 = .ok (.getfield 112, 3) := z_dk tdX12_laysBest_79 9 rfl
theorem dX12_laysBest_98 : decode cX12_laysBest 98 = .ok (.iload_n 2, 1) := z_dk tdX12_laysBest_79 10 rfl
theorem dX12_laysBest_99 : decode cX12_laysBest 99 = .ok (.laload, 1) := z_dk tdX12_laysBest_79 11 rfl
theorem dX12_laysBest_100 : decode cX12_laysBest 100 = .ok (.lcmp, 1) := z_dk tdX12_laysBest_79 12 rfl
theorem dX12_laysBest_101 : decode cX12_laysBest 101 = .ok (.ifCond .lt 6, 3) := z_dk tdX12_laysBest_79 13 rfl
theorem dX12_laysBest_104 : decode cX12_laysBest 104 = .ok (.goto 18, 3) := z_dk tdX12_laysBest_79 14 rfl
theorem dX12_laysBest_107 : decode cX12_laysBest 107 = .ok (.aload_n 0, 1) := z_dk tdX12_laysBest_79 15 rfl
theorem dX12_laysBest_108 : decode cX12_laysBest 108 = .ok (.getfield 112, 3) := z_dk tdX12_laysBest_79 16 rfl
theorem dX12_laysBest_111 : decode cX12_laysBest 111 = .ok (.iload_n 2, 1) := z_dk tdX12_laysBest_79 17 rfl
theorem dX12_laysBest_112 : decode cX12_laysBest 112 = .ok (.lload 4, 2) := z_dk tdX12_laysBest_79 18 rfl
theorem dX12_laysBest_114 : decode cX12_laysBest 114 = .ok (.lastore, 1) := z_dk tdX12_laysBest_79 19 rfl
theorem dX12_laysBest_115 : decode cX12_laysBest 115 = .ok (.aload_n 0, 1) := z_dk tdX12_laysBest_79 20 rfl
theorem dX12_laysBest_116 : decode cX12_laysBest 116 = .ok (.getfield 116, 3) := z_dk tdX12_laysBest_79 21 rfl
theorem dX12_laysBest_119 : decode cX12_laysBest 119 = .ok (.iload_n 2, 1) := z_dk tdX12_laysBest_79 22 rfl
theorem dX12_laysBest_120 : decode cX12_laysBest 120 = .ok (.iload_n 3, 1) := z_dk tdX12_laysBest_79 23 rfl
theorem tdX12_laysBest_121 : (([(121, .iastore, 1), (122, .iinc 3 1, 3), (125, .goto (-93), 3), (128, .iinc 2 (-1), 3), (131, .goto (-114), 3), (134, .return_, 1)] : List (Nat × Instr × Nat)).all fun e => decide (decode cX12_laysBest e.1 = .ok e.2)) = true := by decide +kernel
theorem dX12_laysBest_121 : decode cX12_laysBest 121 = .ok (.iastore, 1) := z_dk tdX12_laysBest_121 0 rfl
theorem dX12_laysBest_122 : decode cX12_laysBest 122 = .ok (.iinc 3 1, 3) := z_dk tdX12_laysBest_121 1 rfl
theorem dX12_laysBest_125 : decode cX12_laysBest 125 = .ok (.goto (-93), 3) := z_dk tdX12_laysBest_121 2 rfl
theorem dX12_laysBest_128 : decode cX12_laysBest 128 = .ok (.iinc 2 (-1), 3) := z_dk tdX12_laysBest_121 3 rfl
theorem dX12_laysBest_131 : decode cX12_laysBest 131 = .ok (.goto (-114), 3) := z_dk tdX12_laysBest_121 4 rfl
theorem dX12_laysBest_134 : decode cX12_laysBest 134 = .ok (.return_, 1) := z_dk tdX12_laysBest_121 5 rfl
theorem tdX12_breaks_0 : (([(0, .iconst 0, 1), (1, .istore_n 3, 1), (2, .iconst 0, 1), (3, .istore 4, 2), (5, .iload_n 2, 1), (6, .iconst 1, 1), (7, .if_icmp .ne 8, 3), (10, .aload_n 0, 1), (11, .iload_n 1, 1), (12, .invokevirtual 346, 3), (15, .iload 4, 2), (17, .aload_n 0, 1), (18, .getfield 242, 3), (21, .if_icmp .ge 43, 3), (24, .aload_n 0, 1), (25, .getfield 109, 3), (28, .iload_n 3, 1), (29, .iload 4, 2), (31, .iastore, 1), (32, .iinc 3 1, 3), (35, .iload_n 2, 1), (36, .iconst 1, 1), (37, .if_icmp .ne 13, 3), (40, .aload_n 0, 1)] : List (Nat × Instr × Nat)).all fun e => decide (decode cX12_breaks e.1 = .ok e.2)) = true := by decide +kernel
theorem dX12_breaks_0 : decode cX12_breaks 0 = .ok (.iconst 0, 1) := z_dk tdX12_breaks_0 0 rfl
theorem dX12_breaks_1 : decode cX12_breaks 1 = .ok (.istore_n 3, 1) := z_dk tdX12_breaks_0 1 rfl
theorem dX12_breaks_2 : decode cX12_breaks 2 = .ok (.iconst 0, 1) := z_dk tdX12_breaks_0 2 rfl
theorem dX12_breaks_3 : decode cX12_breaks 3 = .ok (.istore 4, 2) := z_dk tdX12_breaks_0 3 rfl
theorem dX12_breaks_5 : decode cX12_breaks 5 = .ok (.iload_n 2, 1) := z_dk tdX12_breaks_0 4 rfl
theorem dX12_breaks_6 : decode cX12_breaks 6 = .ok (.iconst 1, 1) := z_dk tdX12_breaks_0 5 rfl
theorem dX12_breaks_7 : decode cX12_breaks 7 = .ok (.if_icmp .ne 8, 3) := z_dk tdX12_breaks_0 6 rfl
theorem dX12_breaks_10 : decode cX12_breaks 10 = .ok (.aload_n 0, 1) := z_dk tdX12_breaks_0 7 rfl
theorem dX12_breaks_11 : decode cX12_breaks 11 = .ok (.iload_n 1, 1) := z_dk tdX12_breaks_0 8 rfl
theorem dX12_breaks_12 : decode cX12_breaks 12 = .ok (.invokevirtual 346, 3) := z_dk tdX12_breaks_0 9 rfl
theorem dX12_breaks_15 : decode cX12_breaks 15 = .ok (.iload 4, 2) := z_dk tdX12_breaks_0 10 rfl
theorem dX12_breaks_17 : decode cX12_breaks 17 = .ok (.aload_n 0, 1) := z_dk tdX12_breaks_0 11 rfl
theorem dX12_breaks_18 : decode cX12_breaks 18 = .ok (.getfield 242, 3) := z_dk tdX12_breaks_0 12 rfl
theorem dX12_breaks_21 : decode cX12_breaks 21 = .ok (.if_icmp .ge 43, 3) := z_dk tdX12_breaks_0 13 rfl
theorem dX12_breaks_24 : decode cX12_breaks 24 = .ok (.aload_n 0, 1) := z_dk tdX12_breaks_0 14 rfl
theorem dX12_breaks_25 : decode cX12_breaks 25 = .ok (.getfield 109, 3) := z_dk tdX12_breaks_0 15 rfl
theorem dX12_breaks_28 : decode cX12_breaks 28 = .ok (.iload_n 3, 1) := z_dk tdX12_breaks_0 16 rfl
theorem dX12_breaks_29 : decode cX12_breaks 29 = .ok (.iload 4, 2) := z_dk tdX12_breaks_0 17 rfl
theorem dX12_breaks_31 : decode cX12_breaks 31 = .ok (.iastore, 1) := z_dk tdX12_breaks_0 18 rfl
theorem dX12_breaks_32 : decode cX12_breaks 32 = .ok (.iinc 3 1, 3) := z_dk tdX12_breaks_0 19 rfl
theorem dX12_breaks_35 : decode cX12_breaks 35 = .ok (.iload_n 2, 1) := z_dk tdX12_breaks_0 20 rfl
theorem dX12_breaks_36 : decode cX12_breaks 36 = .ok (.iconst 1, 1) := z_dk tdX12_breaks_0 21 rfl
theorem dX12_breaks_37 : decode cX12_breaks 37 = .ok (.if_icmp .ne 13, 3) := z_dk tdX12_breaks_0 22 rfl
theorem dX12_breaks_40 : decode cX12_breaks 40 = .ok (.aload_n 0, 1) := z_dk tdX12_breaks_0 23 rfl
theorem tdX12_breaks_41 : (([(41, .getfield 116, 3), (44, .iload 4, 2), (46, .iaload, 1), (47, .goto 10, 3), (50, .aload_n 0, 1), (51, .iload 4, 2), (53, .iload_n 1, 1), (54, .invokevirtual 349, 3), (57, .iconst 1, 1), (58, .iadd, 1), (59, .istore 4, 2), (61, .goto (-46), 3), (64, .aload_n 0, 1), (65, .getfield 109, 3), (68, .iload_n 3, 1), (69, .aload_n 0, 1), (70, .getfield 242, 3), (73, .iastore, 1), (74, .iload_n 3, 1), (75, .ireturn, 1)] : List (Nat × Instr × Nat)).all fun e => decide (decode cX12_breaks e.1 = .ok e.2)) = true := by decide +kernel
theorem dX12_breaks_41 : decode cX12_breaks 41 = .ok (.getfield 116, 3) := z_dk tdX12_breaks_41 0 rfl
theorem dX12_breaks_44 : decode cX12_breaks 44 = .ok (.iload 4, 2) := z_dk tdX12_breaks_41 1 rfl
theorem dX12_breaks_46 : decode cX12_breaks 46 = .ok (.iaload, 1) := z_dk tdX12_breaks_41 2 rfl
theorem dX12_breaks_47 : decode cX12_breaks 47 = .ok (.goto 10, 3) := z_dk tdX12_breaks_41 3 rfl
theorem dX12_breaks_50 : decode cX12_breaks 50 = .ok (.aload_n 0, 1) := z_dk tdX12_breaks_41 4 rfl
theorem dX12_breaks_51 : decode cX12_breaks 51 = .ok (.iload 4, 2) := z_dk tdX12_breaks_41 5 rfl
theorem dX12_breaks_53 : decode cX12_breaks 53 = .ok (.iload_n 1, 1) := z_dk tdX12_breaks_41 6 rfl
theorem dX12_breaks_54 : decode cX12_breaks 54 = .ok (.invokevirtual 349, 3) := z_dk tdX12_breaks_41 7 rfl
theorem dX12_breaks_57 : decode cX12_breaks 57 = .ok (.iconst 1, 1) := z_dk tdX12_breaks_41 8 rfl
theorem dX12_breaks_58 : decode cX12_breaks 58 = .ok (.iadd, 1) := z_dk tdX12_breaks_41 9 rfl
theorem dX12_breaks_59 : decode cX12_breaks 59 = .ok (.istore 4, 2) := z_dk tdX12_breaks_41 10 rfl
theorem dX12_breaks_61 : decode cX12_breaks 61 = .ok (.goto (-46), 3) := z_dk tdX12_breaks_41 11 rfl
theorem dX12_breaks_64 : decode cX12_breaks 64 = .ok (.aload_n 0, 1) := z_dk tdX12_breaks_41 12 rfl
theorem dX12_breaks_65 : decode cX12_breaks 65 = .ok (.getfield 109, 3) := z_dk tdX12_breaks_41 13 rfl
theorem dX12_breaks_68 : decode cX12_breaks 68 = .ok (.iload_n 3, 1) := z_dk tdX12_breaks_41 14 rfl
theorem dX12_breaks_69 : decode cX12_breaks 69 = .ok (.aload_n 0, 1) := z_dk tdX12_breaks_41 15 rfl
theorem dX12_breaks_70 : decode cX12_breaks 70 = .ok (.getfield 242, 3) := z_dk tdX12_breaks_41 16 rfl
theorem dX12_breaks_73 : decode cX12_breaks 73 = .ok (.iastore, 1) := z_dk tdX12_breaks_41 17 rfl
theorem dX12_breaks_74 : decode cX12_breaks 74 = .ok (.iload_n 3, 1) := z_dk tdX12_breaks_41 18 rfl
theorem dX12_breaks_75 : decode cX12_breaks 75 = .ok (.ireturn, 1) := z_dk tdX12_breaks_41 19 rfl
theorem tdX12_isGap_0 : (([(0, .iload_n 1, 1), (1, .iload_n 2, 1), (2, .if_icmp .ge 61, 3), (5, .aload_n 0, 1), (6, .iload_n 1, 1), (7, .invokevirtual 335, 3), (10, .ifCond .eq 53, 3), (13, .aload_n 0, 1), (14, .getfield 66, 3), (17, .iload_n 1, 1), (18, .iaload, 1), (19, .ifCond .le 44, 3), (22, .aload_n 0, 1), (23, .getfield 66, 3), (26, .iload_n 1, 1), (27, .iconst 1, 1), (28, .iadd, 1), (29, .iaload, 1), (30, .ifCond .le 33, 3), (33, .aload_n 0, 1), (34, .getfield 54, 3), (37, .iload_n 1, 1), (38, .iaload, 1), (39, .bipush 7, 2)] : List (Nat × Instr × Nat)).all fun e => decide (decode cX12_isGap e.1 = .ok e.2)) = true := by decide +kernel
theorem dX12_isGap_0 : decode cX12_isGap 0 = .ok (.iload_n 1, 1) := z_dk tdX12_isGap_0 0 rfl
theorem dX12_isGap_1 : decode cX12_isGap 1 = .ok (.iload_n 2, 1) := z_dk tdX12_isGap_0 1 rfl
theorem dX12_isGap_2 : decode cX12_isGap 2 = .ok (.if_icmp .ge 61, 3) := z_dk tdX12_isGap_0 2 rfl
theorem dX12_isGap_5 : decode cX12_isGap 5 = .ok (.aload_n 0, 1) := z_dk tdX12_isGap_0 3 rfl
theorem dX12_isGap_6 : decode cX12_isGap 6 = .ok (.iload_n 1, 1) := z_dk tdX12_isGap_0 4 rfl
theorem dX12_isGap_7 : decode cX12_isGap 7 = .ok (.invokevirtual 335, 3) := z_dk tdX12_isGap_0 5 rfl
theorem dX12_isGap_10 : decode cX12_isGap 10 = .ok (.ifCond .eq 53, 3) := z_dk tdX12_isGap_0 6 rfl
theorem dX12_isGap_13 : decode cX12_isGap 13 = .ok (.aload_n 0, 1) := z_dk tdX12_isGap_0 7 rfl
theorem dX12_isGap_14 : decode cX12_isGap 14 = .ok (.getfield 66, 3) := z_dk tdX12_isGap_0 8 rfl
theorem dX12_isGap_17 : decode cX12_isGap 17 = .ok (.iload_n 1, 1) := z_dk tdX12_isGap_0 9 rfl
theorem dX12_isGap_18 : decode cX12_isGap 18 = .ok (.iaload, 1) := z_dk tdX12_isGap_0 10 rfl
theorem dX12_isGap_19 : decode cX12_isGap 19 = .ok (.ifCond .le 44, 3) := z_dk tdX12_isGap_0 11 rfl
theorem dX12_isGap_22 : decode cX12_isGap 22 = .ok (.aload_n 0, 1) := z_dk tdX12_isGap_0 12 rfl
theorem dX12_isGap_23 : decode cX12_isGap 23 = .ok (.getfield 66, 3) := z_dk tdX12_isGap_0 13 rfl
theorem dX12_isGap_26 : decode cX12_isGap 26 = .ok (.iload_n 1, 1) := z_dk tdX12_isGap_0 14 rfl
theorem dX12_isGap_27 : decode cX12_isGap 27 = .ok (.iconst 1, 1) := z_dk tdX12_isGap_0 15 rfl
theorem dX12_isGap_28 : decode cX12_isGap 28 = .ok (.iadd, 1) := z_dk tdX12_isGap_0 16 rfl
theorem dX12_isGap_29 : decode cX12_isGap 29 = .ok (.iaload, 1) := z_dk tdX12_isGap_0 17 rfl
theorem dX12_isGap_30 : decode cX12_isGap 30 = .ok (.ifCond .le 33, 3) := z_dk tdX12_isGap_0 18 rfl
theorem dX12_isGap_33 : decode cX12_isGap 33 = .ok (.aload_n 0, 1) := z_dk tdX12_isGap_0 19 rfl
theorem dX12_isGap_34 : decode cX12_isGap 34 = .ok (.getfield 54, 3) := z_dk tdX12_isGap_0 20 rfl
theorem dX12_isGap_37 : decode cX12_isGap 37 = .ok (.iload_n 1, 1) := z_dk tdX12_isGap_0 21 rfl
theorem dX12_isGap_38 : decode cX12_isGap 38 = .ok (.iaload, 1) := z_dk tdX12_isGap_0 22 rfl
theorem dX12_isGap_39 : decode cX12_isGap 39 = .ok (.bipush 7, 2) := z_dk tdX12_isGap_0 23 rfl
theorem tdX12_isGap_41 : (([(41, .if_icmp .ne 18, 3), (44, .aload_n 0, 1), (45, .iload_n 1, 1), (46, .invokevirtual 288, 3), (49, .aload_n 0, 1), (50, .iload_n 1, 1), (51, .iconst 1, 1), (52, .iadd, 1), (53, .invokevirtual 288, 3), (56, .if_icmp .eq 7, 3), (59, .iconst 1, 1), (60, .goto 4, 3), (63, .iconst 0, 1), (64, .ireturn, 1)] : List (Nat × Instr × Nat)).all fun e => decide (decode cX12_isGap e.1 = .ok e.2)) = true := by decide +kernel
theorem dX12_isGap_41 : decode cX12_isGap 41 = .ok (.if_icmp .ne 18, 3) := z_dk tdX12_isGap_41 0 rfl
theorem dX12_isGap_44 : decode cX12_isGap 44 = .ok (.aload_n 0, 1) := z_dk tdX12_isGap_41 1 rfl
theorem dX12_isGap_45 : decode cX12_isGap 45 = .ok (.iload_n 1, 1) := z_dk tdX12_isGap_41 2 rfl
theorem dX12_isGap_46 : decode cX12_isGap 46 = .ok (.invokevirtual 288, 3) := z_dk tdX12_isGap_41 3 rfl
theorem dX12_isGap_49 : decode cX12_isGap 49 = .ok (.aload_n 0, 1) := z_dk tdX12_isGap_41 4 rfl
theorem dX12_isGap_50 : decode cX12_isGap 50 = .ok (.iload_n 1, 1) := z_dk tdX12_isGap_41 5 rfl
theorem dX12_isGap_51 : decode cX12_isGap 51 = .ok (.iconst 1, 1) := z_dk tdX12_isGap_41 6 rfl
theorem dX12_isGap_52 : decode cX12_isGap 52 = .ok (.iadd, 1) := z_dk tdX12_isGap_41 7 rfl
theorem dX12_isGap_53 : decode cX12_isGap 53 = .ok (.invokevirtual 288, 3) := z_dk tdX12_isGap_41 8 rfl
theorem dX12_isGap_56 : decode cX12_isGap 56 = .ok (.if_icmp .eq 7, 3) := z_dk tdX12_isGap_41 9 rfl
theorem dX12_isGap_59 : decode cX12_isGap 59 = .ok (.iconst 1, 1) := z_dk tdX12_isGap_41 10 rfl
theorem dX12_isGap_60 : decode cX12_isGap 60 = .ok (.goto 4, 3) := z_dk tdX12_isGap_41 11 rfl
theorem dX12_isGap_63 : decode cX12_isGap 63 = .ok (.iconst 0, 1) := z_dk tdX12_isGap_41 12 rfl
theorem dX12_isGap_64 : decode cX12_isGap 64 = .ok (.ireturn, 1) := z_dk tdX12_isGap_41 13 rfl
theorem tdX12_laysLine_0 : (([(0, .aload_n 0, 1), (1, .getfield 109, 3), (4, .iload_n 1, 1), (5, .iaload, 1), (6, .istore_n 2, 1), (7, .aload_n 0, 1), (8, .getfield 109, 3), (11, .iload_n 1, 1), (12, .iconst 1, 1), (13, .iadd, 1), (14, .iaload, 1), (15, .iconst 1, 1), (16, .isub, 1), (17, .istore_n 3, 1), (18, .aload_n 0, 1), (19, .iload_n 2, 1), (20, .iload_n 3, 1), (21, .invokevirtual 329, 3), (24, .istore 4, 2), (26, .iconst 0, 1), (27, .istore 5, 2), (29, .aload_n 0, 1), (30, .getfield 20, 3), (33, .iconst 0, 1)] : List (Nat × Instr × Nat)).all fun e => decide (decode cX12_laysLine e.1 = .ok e.2)) = true := by decide +kernel
theorem dX12_laysLine_0 : decode cX12_laysLine 0 = .ok (.aload_n 0, 1) := z_dk tdX12_laysLine_0 0 rfl
theorem dX12_laysLine_1 : decode cX12_laysLine 1 = .ok (.getfield 109, 3) := z_dk tdX12_laysLine_0 1 rfl
theorem dX12_laysLine_4 : decode cX12_laysLine 4 = .ok (.iload_n 1, 1) := z_dk tdX12_laysLine_0 2 rfl
theorem dX12_laysLine_5 : decode cX12_laysLine 5 = .ok (.iaload, 1) := z_dk tdX12_laysLine_0 3 rfl
theorem dX12_laysLine_6 : decode cX12_laysLine 6 = .ok (.istore_n 2, 1) := z_dk tdX12_laysLine_0 4 rfl
theorem dX12_laysLine_7 : decode cX12_laysLine 7 = .ok (.aload_n 0, 1) := z_dk tdX12_laysLine_0 5 rfl
theorem dX12_laysLine_8 : decode cX12_laysLine 8 = .ok (.getfield 109, 3) := z_dk tdX12_laysLine_0 6 rfl
theorem dX12_laysLine_11 : decode cX12_laysLine 11 = .ok (.iload_n 1, 1) := z_dk tdX12_laysLine_0 7 rfl
theorem dX12_laysLine_12 : decode cX12_laysLine 12 = .ok (.iconst 1, 1) := z_dk tdX12_laysLine_0 8 rfl
theorem dX12_laysLine_13 : decode cX12_laysLine 13 = .ok (.iadd, 1) := z_dk tdX12_laysLine_0 9 rfl
theorem dX12_laysLine_14 : decode cX12_laysLine 14 = .ok (.iaload, 1) := z_dk tdX12_laysLine_0 10 rfl
theorem dX12_laysLine_15 : decode cX12_laysLine 15 = .ok (.iconst 1, 1) := z_dk tdX12_laysLine_0 11 rfl
theorem dX12_laysLine_16 : decode cX12_laysLine 16 = .ok (.isub, 1) := z_dk tdX12_laysLine_0 12 rfl
theorem dX12_laysLine_17 : decode cX12_laysLine 17 = .ok (.istore_n 3, 1) := z_dk tdX12_laysLine_0 13 rfl
theorem dX12_laysLine_18 : decode cX12_laysLine 18 = .ok (.aload_n 0, 1) := z_dk tdX12_laysLine_0 14 rfl
theorem dX12_laysLine_19 : decode cX12_laysLine 19 = .ok (.iload_n 2, 1) := z_dk tdX12_laysLine_0 15 rfl
theorem dX12_laysLine_20 : decode cX12_laysLine 20 = .ok (.iload_n 3, 1) := z_dk tdX12_laysLine_0 16 rfl
theorem dX12_laysLine_21 : decode cX12_laysLine 21 = .ok (.invokevirtual 329, 3) := z_dk tdX12_laysLine_0 17 rfl
theorem dX12_laysLine_24 : decode cX12_laysLine 24 = .ok (.istore 4, 2) := z_dk tdX12_laysLine_0 18 rfl
theorem dX12_laysLine_26 : decode cX12_laysLine 26 = .ok (.iconst 0, 1) := z_dk tdX12_laysLine_0 19 rfl
theorem dX12_laysLine_27 : decode cX12_laysLine 27 = .ok (.istore 5, 2) := z_dk tdX12_laysLine_0 20 rfl
theorem dX12_laysLine_29 : decode cX12_laysLine 29 = .ok (.aload_n 0, 1) := z_dk tdX12_laysLine_0 21 rfl
theorem dX12_laysLine_30 : decode cX12_laysLine 30 = .ok (.getfield 20, 3) := z_dk tdX12_laysLine_0 22 rfl
theorem dX12_laysLine_33 : decode cX12_laysLine 33 = .ok (.iconst 0, 1) := z_dk tdX12_laysLine_0 23 rfl
theorem tdX12_laysLine_34 : (([(34, .iaload, 1), (35, .iload 4, 2), (37, .isub, 1), (38, .istore 6, 2), (40, .iconst 0, 1), (41, .istore 7, 2), (43, .iload_n 2, 1), (44, .istore 8, 2), (46, .iload 8, 2), (48, .iload_n 3, 1), (49, .if_icmp .gt 29, 3), (52, .iload 5, 2), (54, .aload_n 0, 1), (55, .iload 8, 2), (57, .iload_n 3, 1), (58, .invokevirtual 352, 3), (61, .ifCond .eq 7, 3), (64, .iconst 1, 1), (65, .goto 4, 3), (68, .iconst 0, 1), (69, .iadd, 1), (70, .istore 5, 2), (72, .iinc 8 1, 3), (75, .goto (-29), 3)] : List (Nat × Instr × Nat)).all fun e => decide (decode cX12_laysLine e.1 = .ok e.2)) = true := by decide +kernel
theorem dX12_laysLine_34 : decode cX12_laysLine 34 = .ok (.iaload, 1) := z_dk tdX12_laysLine_34 0 rfl
theorem dX12_laysLine_35 : decode cX12_laysLine 35 = .ok (.iload 4, 2) := z_dk tdX12_laysLine_34 1 rfl
theorem dX12_laysLine_37 : decode cX12_laysLine 37 = .ok (.isub, 1) := z_dk tdX12_laysLine_34 2 rfl
theorem dX12_laysLine_38 : decode cX12_laysLine 38 = .ok (.istore 6, 2) := z_dk tdX12_laysLine_34 3 rfl
theorem dX12_laysLine_40 : decode cX12_laysLine 40 = .ok (.iconst 0, 1) := z_dk tdX12_laysLine_34 4 rfl
theorem dX12_laysLine_41 : decode cX12_laysLine 41 = .ok (.istore 7, 2) := z_dk tdX12_laysLine_34 5 rfl
theorem dX12_laysLine_43 : decode cX12_laysLine 43 = .ok (.iload_n 2, 1) := z_dk tdX12_laysLine_34 6 rfl
theorem dX12_laysLine_44 : decode cX12_laysLine 44 = .ok (.istore 8, 2) := z_dk tdX12_laysLine_34 7 rfl
theorem dX12_laysLine_46 : decode cX12_laysLine 46 = .ok (.iload 8, 2) := z_dk tdX12_laysLine_34 8 rfl
theorem dX12_laysLine_48 : decode cX12_laysLine 48 = .ok (.iload_n 3, 1) := z_dk tdX12_laysLine_34 9 rfl
theorem dX12_laysLine_49 : decode cX12_laysLine 49 = .ok (.if_icmp .gt 29, 3) := z_dk tdX12_laysLine_34 10 rfl
theorem dX12_laysLine_52 : decode cX12_laysLine 52 = .ok (.iload 5, 2) := z_dk tdX12_laysLine_34 11 rfl
theorem dX12_laysLine_54 : decode cX12_laysLine 54 = .ok (.aload_n 0, 1) := z_dk tdX12_laysLine_34 12 rfl
theorem dX12_laysLine_55 : decode cX12_laysLine 55 = .ok (.iload 8, 2) := z_dk tdX12_laysLine_34 13 rfl
theorem dX12_laysLine_57 : decode cX12_laysLine 57 = .ok (.iload_n 3, 1) := z_dk tdX12_laysLine_34 14 rfl
theorem dX12_laysLine_58 : decode cX12_laysLine 58 = .ok (.invokevirtual 352, 3) := z_dk tdX12_laysLine_34 15 rfl
theorem dX12_laysLine_61 : decode cX12_laysLine 61 = .ok (.ifCond .eq 7, 3) := z_dk tdX12_laysLine_34 16 rfl
theorem dX12_laysLine_64 : decode cX12_laysLine 64 = .ok (.iconst 1, 1) := z_dk tdX12_laysLine_34 17 rfl
theorem dX12_laysLine_65 : decode cX12_laysLine 65 = .ok (.goto 4, 3) := z_dk tdX12_laysLine_34 18 rfl
theorem dX12_laysLine_68 : decode cX12_laysLine 68 = .ok (.iconst 0, 1) := z_dk tdX12_laysLine_34 19 rfl
theorem dX12_laysLine_69 : decode cX12_laysLine 69 = .ok (.iadd, 1) := z_dk tdX12_laysLine_34 20 rfl
theorem dX12_laysLine_70 : decode cX12_laysLine 70 = .ok (.istore 5, 2) := z_dk tdX12_laysLine_34 21 rfl
theorem dX12_laysLine_72 : decode cX12_laysLine 72 = .ok (.iinc 8 1, 3) := z_dk tdX12_laysLine_34 22 rfl
theorem dX12_laysLine_75 : decode cX12_laysLine 75 = .ok (.goto (-29), 3) := z_dk tdX12_laysLine_34 23 rfl
theorem tdX12_laysLine_78 : (([(78, .aload_n 0, 1), (79, .getfield 134, 3), (82, .iload_n 1, 1), (83, .iload 4, 2), (85, .iastore, 1), (86, .aload_n 0, 1), (87, .getfield 137, 3), (90, .iload_n 1, 1), (91, .iload 5, 2), (93, .iastore, 1), (94, .aload_n 0, 1), (95, .getfield 140, 3), (98, .iload_n 1, 1), (99, .iconst 0, 1), (100, .iastore, 1), (101, .aload_n 0, 1), (102, .getfield 143, 3), (105, .iload_n 1, 1), (106, .iconst 0, 1), (107, .iastore, 1), (108, .aload_n 0, 1), (109, .getfield 146, 3), (112, .iload_n 1, 1), (113, .aload_n 0, 1)] : List (Nat × Instr × Nat)).all fun e => decide (decode cX12_laysLine e.1 = .ok e.2)) = true := by decide +kernel
theorem dX12_laysLine_78 : decode cX12_laysLine 78 = .ok (.aload_n 0, 1) := z_dk tdX12_laysLine_78 0 rfl
theorem dX12_laysLine_79 : decode cX12_laysLine 79 = .ok (.getfield 134, 3) := z_dk tdX12_laysLine_78 1 rfl
theorem dX12_laysLine_82 : decode cX12_laysLine 82 = .ok (.iload_n 1, 1) := z_dk tdX12_laysLine_78 2 rfl
theorem dX12_laysLine_83 : decode cX12_laysLine 83 = .ok (.iload 4, 2) := z_dk tdX12_laysLine_78 3 rfl
theorem dX12_laysLine_85 : decode cX12_laysLine 85 = .ok (.iastore, 1) := z_dk tdX12_laysLine_78 4 rfl
theorem dX12_laysLine_86 : decode cX12_laysLine 86 = .ok (.aload_n 0, 1) := z_dk tdX12_laysLine_78 5 rfl
theorem dX12_laysLine_87 : decode cX12_laysLine 87 = .ok (.getfield 137, 3) := z_dk tdX12_laysLine_78 6 rfl
theorem dX12_laysLine_90 : decode cX12_laysLine 90 = .ok (.iload_n 1, 1) := z_dk tdX12_laysLine_78 7 rfl
theorem dX12_laysLine_91 : decode cX12_laysLine 91 = .ok (.iload 5, 2) := z_dk tdX12_laysLine_78 8 rfl
theorem dX12_laysLine_93 : decode cX12_laysLine 93 = .ok (.iastore, 1) := z_dk tdX12_laysLine_78 9 rfl
theorem dX12_laysLine_94 : decode cX12_laysLine 94 = .ok (.aload_n 0, 1) := z_dk tdX12_laysLine_78 10 rfl
theorem dX12_laysLine_95 : decode cX12_laysLine 95 = .ok (.getfield 140, 3) := z_dk tdX12_laysLine_78 11 rfl
theorem dX12_laysLine_98 : decode cX12_laysLine 98 = .ok (.iload_n 1, 1) := z_dk tdX12_laysLine_78 12 rfl
theorem dX12_laysLine_99 : decode cX12_laysLine 99 = .ok (.iconst 0, 1) := z_dk tdX12_laysLine_78 13 rfl
theorem dX12_laysLine_100 : decode cX12_laysLine 100 = .ok (.iastore, 1) := z_dk tdX12_laysLine_78 14 rfl
theorem dX12_laysLine_101 : decode cX12_laysLine 101 = .ok (.aload_n 0, 1) := z_dk tdX12_laysLine_78 15 rfl
theorem dX12_laysLine_102 : decode cX12_laysLine 102 = .ok (.getfield 143, 3) := z_dk tdX12_laysLine_78 16 rfl
theorem dX12_laysLine_105 : decode cX12_laysLine 105 = .ok (.iload_n 1, 1) := z_dk tdX12_laysLine_78 17 rfl
theorem dX12_laysLine_106 : decode cX12_laysLine 106 = .ok (.iconst 0, 1) := z_dk tdX12_laysLine_78 18 rfl
theorem dX12_laysLine_107 : decode cX12_laysLine 107 = .ok (.iastore, 1) := z_dk tdX12_laysLine_78 19 rfl
theorem dX12_laysLine_108 : decode cX12_laysLine 108 = .ok (.aload_n 0, 1) := z_dk tdX12_laysLine_78 20 rfl
theorem dX12_laysLine_109 : decode cX12_laysLine 109 = .ok (.getfield 146, 3) := z_dk tdX12_laysLine_78 21 rfl
theorem dX12_laysLine_112 : decode cX12_laysLine 112 = .ok (.iload_n 1, 1) := z_dk tdX12_laysLine_78 22 rfl
theorem dX12_laysLine_113 : decode cX12_laysLine 113 = .ok (.aload_n 0, 1) := z_dk tdX12_laysLine_78 23 rfl
theorem tdX12_laysLine_114 : (([(114, .getfield 285, 3), (117, .ifCond .eq 7, 3), (120, .iconst 1, 1), (121, .goto 4, 3), (124, .iconst 0, 1), (125, .iastore, 1), (126, .aload_n 0, 1), (127, .getfield 20, 3), (130, .iconst 4, 1), (131, .iaload, 1), (132, .iconst 1, 1), (133, .if_icmp .ne 27, 3), (136, .iload 6, 2), (138, .ifCond .lt 22, 3), (141, .iload_n 3, 1), (142, .aload_n 0, 1), (143, .getfield 242, 3), (146, .iconst 1, 1), (147, .isub, 1), (148, .if_icmp .ge 12, 3), (151, .iload 5, 2), (153, .ifCond .le 7, 3), (156, .iconst 1, 1), (157, .goto 4, 3)] : List (Nat × Instr × Nat)).all fun e => decide (decode cX12_laysLine e.1 = .ok e.2)) = true := by decide +kernel
theorem dX12_laysLine_114 : decode cX12_laysLine 114 = .ok (.getfield 285, 3) := z_dk tdX12_laysLine_114 0 rfl
theorem dX12_laysLine_117 : decode cX12_laysLine 117 = .ok (.ifCond .eq 7, 3) := z_dk tdX12_laysLine_114 1 rfl
theorem dX12_laysLine_120 : decode cX12_laysLine 120 = .ok (.iconst 1, 1) := z_dk tdX12_laysLine_114 2 rfl
theorem dX12_laysLine_121 : decode cX12_laysLine 121 = .ok (.goto 4, 3) := z_dk tdX12_laysLine_114 3 rfl
theorem dX12_laysLine_124 : decode cX12_laysLine 124 = .ok (.iconst 0, 1) := z_dk tdX12_laysLine_114 4 rfl
theorem dX12_laysLine_125 : decode cX12_laysLine 125 = .ok (.iastore, 1) := z_dk tdX12_laysLine_114 5 rfl
theorem dX12_laysLine_126 : decode cX12_laysLine 126 = .ok (.aload_n 0, 1) := z_dk tdX12_laysLine_114 6 rfl
theorem dX12_laysLine_127 : decode cX12_laysLine 127 = .ok (.getfield 20, 3) := z_dk tdX12_laysLine_114 7 rfl
theorem dX12_laysLine_130 : decode cX12_laysLine 130 = .ok (.iconst 4, 1) := z_dk tdX12_laysLine_114 8 rfl
theorem dX12_laysLine_131 : decode cX12_laysLine 131 = .ok (.iaload, 1) := z_dk tdX12_laysLine_114 9 rfl
theorem dX12_laysLine_132 : decode cX12_laysLine 132 = .ok (.iconst 1, 1) := z_dk tdX12_laysLine_114 10 rfl
theorem dX12_laysLine_133 : decode cX12_laysLine 133 = .ok (.if_icmp .ne 27, 3) := z_dk tdX12_laysLine_114 11 rfl
theorem dX12_laysLine_136 : decode cX12_laysLine 136 = .ok (.iload 6, 2) := z_dk tdX12_laysLine_114 12 rfl
theorem dX12_laysLine_138 : decode cX12_laysLine 138 = .ok (.ifCond .lt 22, 3) := z_dk tdX12_laysLine_114 13 rfl
theorem dX12_laysLine_141 : decode cX12_laysLine 141 = .ok (.iload_n 3, 1) := z_dk tdX12_laysLine_114 14 rfl
theorem dX12_laysLine_142 : decode cX12_laysLine 142 = .ok (.aload_n 0, 1) := z_dk tdX12_laysLine_114 15 rfl
theorem dX12_laysLine_143 : decode cX12_laysLine 143 = .ok (.getfield 242, 3) := z_dk tdX12_laysLine_114 16 rfl
theorem dX12_laysLine_146 : decode cX12_laysLine 146 = .ok (.iconst 1, 1) := z_dk tdX12_laysLine_114 17 rfl
theorem dX12_laysLine_147 : decode cX12_laysLine 147 = .ok (.isub, 1) := z_dk tdX12_laysLine_114 18 rfl
theorem dX12_laysLine_148 : decode cX12_laysLine 148 = .ok (.if_icmp .ge 12, 3) := z_dk tdX12_laysLine_114 19 rfl
theorem dX12_laysLine_151 : decode cX12_laysLine 151 = .ok (.iload 5, 2) := z_dk tdX12_laysLine_114 20 rfl
theorem dX12_laysLine_153 : decode cX12_laysLine 153 = .ok (.ifCond .le 7, 3) := z_dk tdX12_laysLine_114 21 rfl
theorem dX12_laysLine_156 : decode cX12_laysLine 156 = .ok (.iconst 1, 1) := z_dk tdX12_laysLine_114 22 rfl
theorem dX12_laysLine_157 : decode cX12_laysLine 157 = .ok (.goto 4, 3) := z_dk tdX12_laysLine_114 23 rfl
theorem tdX12_laysLine_160 : (([(160, .iconst 0, 1), (161, .istore 8, 2), (163, .iconst 0, 1), (164, .istore 9, 2), (166, .iload_n 2, 1), (167, .istore 10, 2), (169, .iload 10, 2), (171, .iload_n 3, 1), (172, .if_icmp .gt 270, 3), (175, .aload_n 0, 1), (176, .getfield 81, 3), (179, .iload 10, 2), (181, .iaload, 1), (182, .ifCond .le 10, 3), (185, .aload_n 0, 1), (186, .iload 10, 2), (188, .iload_n 1, 1), (189, .invokevirtual 356, 3), (192, .iload 7, 2), (194, .aload_n 0, 1), (195, .getfield 75, 3), (198, .iload 10, 2), (200, .iaload, 1), (201, .aload_n 0, 1)] : List (Nat × Instr × Nat)).all fun e => decide (decode cX12_laysLine e.1 = .ok e.2)) = true := by decide +kernel
theorem dX12_laysLine_160 : decode cX12_laysLine 160 = .ok (.iconst 0, 1) := z_dk tdX12_laysLine_160 0 rfl
theorem dX12_laysLine_161 : decode cX12_laysLine 161 = .ok (.istore 8, 2) := z_dk tdX12_laysLine_160 1 rfl
theorem dX12_laysLine_163 : decode cX12_laysLine 163 = .ok (.iconst 0, 1) := z_dk tdX12_laysLine_160 2 rfl
theorem dX12_laysLine_164 : decode cX12_laysLine 164 = .ok (.istore 9, 2) := z_dk tdX12_laysLine_160 3 rfl
theorem dX12_laysLine_166 : decode cX12_laysLine 166 = .ok (.iload_n 2, 1) := z_dk tdX12_laysLine_160 4 rfl
theorem dX12_laysLine_167 : decode cX12_laysLine 167 = .ok (.istore 10, 2) := z_dk tdX12_laysLine_160 5 rfl
theorem dX12_laysLine_169 : decode cX12_laysLine 169 = .ok (.iload 10, 2) := z_dk tdX12_laysLine_160 6 rfl
theorem dX12_laysLine_171 : decode cX12_laysLine 171 = .ok (.iload_n 3, 1) := z_dk tdX12_laysLine_160 7 rfl
theorem dX12_laysLine_172 : decode cX12_laysLine 172 = .ok (.if_icmp .gt 270, 3) := z_dk tdX12_laysLine_160 8 rfl
theorem dX12_laysLine_175 : decode cX12_laysLine 175 = .ok (.aload_n 0, 1) := z_dk tdX12_laysLine_160 9 rfl
theorem dX12_laysLine_176 : decode cX12_laysLine 176 = .ok (.getfield 81, 3) := z_dk tdX12_laysLine_160 10 rfl
theorem dX12_laysLine_179 : decode cX12_laysLine 179 = .ok (.iload 10, 2) := z_dk tdX12_laysLine_160 11 rfl
theorem dX12_laysLine_181 : decode cX12_laysLine 181 = .ok (.iaload, 1) := z_dk tdX12_laysLine_160 12 rfl
theorem dX12_laysLine_182 : decode cX12_laysLine 182 = .ok (.ifCond .le 10, 3) := z_dk tdX12_laysLine_160 13 rfl
theorem dX12_laysLine_185 : decode cX12_laysLine 185 = .ok (.aload_n 0, 1) := z_dk tdX12_laysLine_160 14 rfl
theorem dX12_laysLine_186 : decode cX12_laysLine 186 = .ok (.iload 10, 2) := z_dk tdX12_laysLine_160 15 rfl
theorem dX12_laysLine_188 : decode cX12_laysLine 188 = .ok (.iload_n 1, 1) := z_dk tdX12_laysLine_160 16 rfl
theorem dX12_laysLine_189 : decode cX12_laysLine 189 = .ok (.invokevirtual 356, 3) := z_dk tdX12_laysLine_160 17 rfl
theorem dX12_laysLine_192 : decode cX12_laysLine 192 = .ok (.iload 7, 2) := z_dk tdX12_laysLine_160 18 rfl
theorem dX12_laysLine_194 : decode cX12_laysLine 194 = .ok (.aload_n 0, 1) := z_dk tdX12_laysLine_160 19 rfl
theorem dX12_laysLine_195 : decode cX12_laysLine 195 = .ok (.getfield 75, 3) := z_dk tdX12_laysLine_160 20 rfl
theorem dX12_laysLine_198 : decode cX12_laysLine 198 = .ok (.iload 10, 2) := z_dk tdX12_laysLine_160 21 rfl
theorem dX12_laysLine_200 : decode cX12_laysLine 200 = .ok (.iaload, 1) := z_dk tdX12_laysLine_160 22 rfl
theorem dX12_laysLine_201 : decode cX12_laysLine 201 = .ok (.aload_n 0, 1) := z_dk tdX12_laysLine_160 23 rfl
theorem tdX12_laysLine_202 : (([(202, .getfield 69, 3), (205, .iload 10, 2), (207, .iaload, 1), (208, .iadd, 1), (209, .iadd, 1), (210, .istore 7, 2), (212, .aload_n 0, 1), (213, .getfield 119, 3), (216, .iload 10, 2), (218, .iload_n 1, 1), (219, .iastore, 1), (220, .aload_n 0, 1), (221, .getfield 122, 3), (224, .iload 10, 2), (226, .iload 7, 2), (228, .iastore, 1), (229, .aload_n 0, 1), (230, .getfield 128, 3), (233, .iload 10, 2), (235, .aload_n 0, 1), (236, .getfield 69, 3), (239, .iload 10, 2), (241, .iaload, 1), (242, .aload_n 0, 1)] : List (Nat × Instr × Nat)).all fun e => decide (decode cX12_laysLine e.1 = .ok e.2)) = true := by decide +kernel
theorem dX12_laysLine_202 : decode cX12_laysLine 202 = .ok (.getfield 69, 3) := z_dk tdX12_laysLine_202 0 rfl
theorem dX12_laysLine_205 : decode cX12_laysLine 205 = .ok (.iload 10, 2) := z_dk tdX12_laysLine_202 1 rfl
theorem dX12_laysLine_207 : decode cX12_laysLine 207 = .ok (.iaload, 1) := z_dk tdX12_laysLine_202 2 rfl
theorem dX12_laysLine_208 : decode cX12_laysLine 208 = .ok (.iadd, 1) := z_dk tdX12_laysLine_202 3 rfl
theorem dX12_laysLine_209 : decode cX12_laysLine 209 = .ok (.iadd, 1) := z_dk tdX12_laysLine_202 4 rfl
theorem dX12_laysLine_210 : decode cX12_laysLine 210 = .ok (.istore 7, 2) := z_dk tdX12_laysLine_202 5 rfl
theorem dX12_laysLine_212 : decode cX12_laysLine 212 = .ok (.aload_n 0, 1) := z_dk tdX12_laysLine_202 6 rfl
theorem dX12_laysLine_213 : decode cX12_laysLine 213 = .ok (.getfield 119, 3) := z_dk tdX12_laysLine_202 7 rfl
theorem dX12_laysLine_216 : decode cX12_laysLine 216 = .ok (.iload 10, 2) := z_dk tdX12_laysLine_202 8 rfl
theorem dX12_laysLine_218 : decode cX12_laysLine 218 = .ok (.iload_n 1, 1) := z_dk tdX12_laysLine_202 9 rfl
theorem dX12_laysLine_219 : decode cX12_laysLine 219 = .ok (.iastore, 1) := z_dk tdX12_laysLine_202 10 rfl
theorem dX12_laysLine_220 : decode cX12_laysLine 220 = .ok (.aload_n 0, 1) := z_dk tdX12_laysLine_202 11 rfl
theorem dX12_laysLine_221 : decode cX12_laysLine 221 = .ok (.getfield 122, 3) := z_dk tdX12_laysLine_202 12 rfl
theorem dX12_laysLine_224 : decode cX12_laysLine 224 = .ok (.iload 10, 2) := z_dk tdX12_laysLine_202 13 rfl
theorem dX12_laysLine_226 : decode cX12_laysLine 226 = .ok (.iload 7, 2) := z_dk tdX12_laysLine_202 14 rfl
theorem dX12_laysLine_228 : decode cX12_laysLine 228 = .ok (.iastore, 1) := z_dk tdX12_laysLine_202 15 rfl
theorem dX12_laysLine_229 : decode cX12_laysLine 229 = .ok (.aload_n 0, 1) := z_dk tdX12_laysLine_202 16 rfl
theorem dX12_laysLine_230 : decode cX12_laysLine 230 = .ok (.getfield 128, 3) := z_dk tdX12_laysLine_202 17 rfl
theorem dX12_laysLine_233 : decode cX12_laysLine 233 = .ok (.iload 10, 2) := z_dk tdX12_laysLine_202 18 rfl
theorem dX12_laysLine_235 : decode cX12_laysLine 235 = .ok (.aload_n 0, 1) := z_dk tdX12_laysLine_202 19 rfl
theorem dX12_laysLine_236 : decode cX12_laysLine 236 = .ok (.getfield 69, 3) := z_dk tdX12_laysLine_202 20 rfl
theorem dX12_laysLine_239 : decode cX12_laysLine 239 = .ok (.iload 10, 2) := z_dk tdX12_laysLine_202 21 rfl
theorem dX12_laysLine_241 : decode cX12_laysLine 241 = .ok (.iaload, 1) := z_dk tdX12_laysLine_202 22 rfl
theorem dX12_laysLine_242 : decode cX12_laysLine 242 = .ok (.aload_n 0, 1) := z_dk tdX12_laysLine_202 23 rfl
theorem tdX12_laysLine_243 : (([(243, .getfield 72, 3), (246, .iload 10, 2), (248, .iaload, 1), (249, .iadd, 1), (250, .iastore, 1), (251, .aload_n 0, 1), (252, .getfield 131, 3), (255, .iload 10, 2), (257, .aload_n 0, 1), (258, .getfield 66, 3), (261, .iload 10, 2), (263, .iaload, 1), (264, .iastore, 1), (265, .iload 7, 2), (267, .istore 11, 2), (269, .aload_n 0, 1), (270, .getfield 57, 3), (273, .iload 10, 2), (275, .iaload, 1), (276, .istore 12, 2), (278, .iload 12, 2), (280, .aload_n 0, 1), (281, .getfield 57, 3), (284, .iload 10, 2)] : List (Nat × Instr × Nat)).all fun e => decide (decode cX12_laysLine e.1 = .ok e.2)) = true := by decide +kernel
theorem dX12_laysLine_243 : decode cX12_laysLine 243 = .ok (.getfield 72, 3) := z_dk tdX12_laysLine_243 0 rfl
theorem dX12_laysLine_246 : decode cX12_laysLine 246 = .ok (.iload 10, 2) := z_dk tdX12_laysLine_243 1 rfl
theorem dX12_laysLine_248 : decode cX12_laysLine 248 = .ok (.iaload, 1) := z_dk tdX12_laysLine_243 2 rfl
theorem dX12_laysLine_249 : decode cX12_laysLine 249 = .ok (.iadd, 1) := z_dk tdX12_laysLine_243 3 rfl
theorem dX12_laysLine_250 : decode cX12_laysLine 250 = .ok (.iastore, 1) := z_dk tdX12_laysLine_243 4 rfl
theorem dX12_laysLine_251 : decode cX12_laysLine 251 = .ok (.aload_n 0, 1) := z_dk tdX12_laysLine_243 5 rfl
theorem dX12_laysLine_252 : decode cX12_laysLine 252 = .ok (.getfield 131, 3) := z_dk tdX12_laysLine_243 6 rfl
theorem dX12_laysLine_255 : decode cX12_laysLine 255 = .ok (.iload 10, 2) := z_dk tdX12_laysLine_243 7 rfl
theorem dX12_laysLine_257 : decode cX12_laysLine 257 = .ok (.aload_n 0, 1) := z_dk tdX12_laysLine_243 8 rfl
theorem dX12_laysLine_258 : decode cX12_laysLine 258 = .ok (.getfield 66, 3) := z_dk tdX12_laysLine_243 9 rfl
theorem dX12_laysLine_261 : decode cX12_laysLine 261 = .ok (.iload 10, 2) := z_dk tdX12_laysLine_243 10 rfl
theorem dX12_laysLine_263 : decode cX12_laysLine 263 = .ok (.iaload, 1) := z_dk tdX12_laysLine_243 11 rfl
theorem dX12_laysLine_264 : decode cX12_laysLine 264 = .ok (.iastore, 1) := z_dk tdX12_laysLine_243 12 rfl
theorem dX12_laysLine_265 : decode cX12_laysLine 265 = .ok (.iload 7, 2) := z_dk tdX12_laysLine_243 13 rfl
theorem dX12_laysLine_267 : decode cX12_laysLine 267 = .ok (.istore 11, 2) := z_dk tdX12_laysLine_243 14 rfl
theorem dX12_laysLine_269 : decode cX12_laysLine 269 = .ok (.aload_n 0, 1) := z_dk tdX12_laysLine_243 15 rfl
theorem dX12_laysLine_270 : decode cX12_laysLine 270 = .ok (.getfield 57, 3) := z_dk tdX12_laysLine_243 16 rfl
theorem dX12_laysLine_273 : decode cX12_laysLine 273 = .ok (.iload 10, 2) := z_dk tdX12_laysLine_243 17 rfl
theorem dX12_laysLine_275 : decode cX12_laysLine 275 = .ok (.iaload, 1) := z_dk tdX12_laysLine_243 18 rfl
theorem dX12_laysLine_276 : decode cX12_laysLine 276 = .ok (.istore 12, 2) := z_dk tdX12_laysLine_243 19 rfl
theorem dX12_laysLine_278 : decode cX12_laysLine 278 = .ok (.iload 12, 2) := z_dk tdX12_laysLine_243 20 rfl
theorem dX12_laysLine_280 : decode cX12_laysLine 280 = .ok (.aload_n 0, 1) := z_dk tdX12_laysLine_243 21 rfl
theorem dX12_laysLine_281 : decode cX12_laysLine 281 = .ok (.getfield 57, 3) := z_dk tdX12_laysLine_243 22 rfl
theorem dX12_laysLine_284 : decode cX12_laysLine 284 = .ok (.iload 10, 2) := z_dk tdX12_laysLine_243 23 rfl
theorem tdX12_laysLine_286 : (([(286, .iaload, 1), (287, .aload_n 0, 1), (288, .getfield 60, 3), (291, .iload 10, 2), (293, .iaload, 1), (294, .iadd, 1), (295, .if_icmp .ge 42, 3), (298, .aload_n 0, 1), (299, .getfield 125, 3), (302, .iload 12, 2), (304, .iload 11, 2), (306, .iastore, 1), (307, .iload 11, 2), (309, .aload_n 0, 1), (310, .iload 10, 2), (312, .invokevirtual 273, 3), (315, .ifCond .eq 7, 3), (318, .iconst 0, 1), (319, .goto 9, 3), (322, .aload_n 0, 1), (323, .iload 12, 2), (325, .invokevirtual 276, 3), (328, .iadd, 1), (329, .istore 11, 2)] : List (Nat × Instr × Nat)).all fun e => decide (decode cX12_laysLine e.1 = .ok e.2)) = true := by decide +kernel
theorem dX12_laysLine_286 : decode cX12_laysLine 286 = .ok (.iaload, 1) := z_dk tdX12_laysLine_286 0 rfl
theorem dX12_laysLine_287 : decode cX12_laysLine 287 = .ok (.aload_n 0, 1) := z_dk tdX12_laysLine_286 1 rfl
theorem dX12_laysLine_288 : decode cX12_laysLine 288 = .ok (.getfield 60, 3) := z_dk tdX12_laysLine_286 2 rfl
theorem dX12_laysLine_291 : decode cX12_laysLine 291 = .ok (.iload 10, 2) := z_dk tdX12_laysLine_286 3 rfl
theorem dX12_laysLine_293 : decode cX12_laysLine 293 = .ok (.iaload, 1) := z_dk tdX12_laysLine_286 4 rfl
theorem dX12_laysLine_294 : decode cX12_laysLine 294 = .ok (.iadd, 1) := z_dk tdX12_laysLine_286 5 rfl
theorem dX12_laysLine_295 : decode cX12_laysLine 295 = .ok (.if_icmp .ge 42, 3) := z_dk tdX12_laysLine_286 6 rfl
theorem dX12_laysLine_298 : decode cX12_laysLine 298 = .ok (.aload_n 0, 1) := z_dk tdX12_laysLine_286 7 rfl
theorem dX12_laysLine_299 : decode cX12_laysLine 299 = .ok (.getfield 125, 3) := z_dk tdX12_laysLine_286 8 rfl
theorem dX12_laysLine_302 : decode cX12_laysLine 302 = .ok (.iload 12, 2) := z_dk tdX12_laysLine_286 9 rfl
theorem dX12_laysLine_304 : decode cX12_laysLine 304 = .ok (.iload 11, 2) := z_dk tdX12_laysLine_286 10 rfl
theorem dX12_laysLine_306 : decode cX12_laysLine 306 = .ok (.iastore, 1) := z_dk tdX12_laysLine_286 11 rfl
theorem dX12_laysLine_307 : decode cX12_laysLine 307 = .ok (.iload 11, 2) := z_dk tdX12_laysLine_286 12 rfl
theorem dX12_laysLine_309 : decode cX12_laysLine 309 = .ok (.aload_n 0, 1) := z_dk tdX12_laysLine_286 13 rfl
theorem dX12_laysLine_310 : decode cX12_laysLine 310 = .ok (.iload 10, 2) := z_dk tdX12_laysLine_286 14 rfl
theorem dX12_laysLine_312 : decode cX12_laysLine 312 = .ok (.invokevirtual 273, 3) := z_dk tdX12_laysLine_286 15 rfl
theorem dX12_laysLine_315 : decode cX12_laysLine 315 = .ok (.ifCond .eq 7, 3) := z_dk tdX12_laysLine_286 16 rfl
theorem dX12_laysLine_318 : decode cX12_laysLine 318 = .ok (.iconst 0, 1) := z_dk tdX12_laysLine_286 17 rfl
theorem dX12_laysLine_319 : decode cX12_laysLine 319 = .ok (.goto 9, 3) := z_dk tdX12_laysLine_286 18 rfl
theorem dX12_laysLine_322 : decode cX12_laysLine 322 = .ok (.aload_n 0, 1) := z_dk tdX12_laysLine_286 19 rfl
theorem dX12_laysLine_323 : decode cX12_laysLine 323 = .ok (.iload 12, 2) := z_dk tdX12_laysLine_286 20 rfl
theorem dX12_laysLine_325 : decode cX12_laysLine 325 = .ok (.invokevirtual 276, 3) := z_dk tdX12_laysLine_286 21 rfl
theorem dX12_laysLine_328 : decode cX12_laysLine 328 = .ok (.iadd, 1) := z_dk tdX12_laysLine_286 22 rfl
theorem dX12_laysLine_329 : decode cX12_laysLine 329 = .ok (.istore 11, 2) := z_dk tdX12_laysLine_286 23 rfl
theorem tdX12_laysLine_331 : (([(331, .iinc 12 1, 3), (334, .goto (-56), 3), (337, .aload_n 0, 1), (338, .getfield 143, 3), (341, .iload_n 1, 1), (342, .dup2, 1), (343, .iaload, 1), (344, .aload_n 0, 1), (345, .getfield 75, 3), (348, .iload 10, 2), (350, .iaload, 1), (351, .aload_n 0, 1), (352, .getfield 78, 3), (355, .iload 10, 2), (357, .iaload, 1), (358, .iadd, 1), (359, .iadd, 1), (360, .iastore, 1), (361, .iload 7, 2), (363, .aload_n 0, 1), (364, .getfield 66, 3), (367, .iload 10, 2), (369, .iaload, 1), (370, .aload_n 0, 1)] : List (Nat × Instr × Nat)).all fun e => decide (decode cX12_laysLine e.1 = .ok e.2)) = true := by decide +kernel
theorem dX12_laysLine_331 : decode cX12_laysLine 331 = .ok (.iinc 12 1, 3) := z_dk tdX12_laysLine_331 0 rfl
theorem dX12_laysLine_334 : decode cX12_laysLine 334 = .ok (.goto (-56), 3) := z_dk tdX12_laysLine_331 1 rfl
theorem dX12_laysLine_337 : decode cX12_laysLine 337 = .ok (.aload_n 0, 1) := z_dk tdX12_laysLine_331 2 rfl
theorem dX12_laysLine_338 : decode cX12_laysLine 338 = .ok (.getfield 143, 3) := z_dk tdX12_laysLine_331 3 rfl
theorem dX12_laysLine_341 : decode cX12_laysLine 341 = .ok (.iload_n 1, 1) := z_dk tdX12_laysLine_331 4 rfl
theorem dX12_laysLine_342 : decode cX12_laysLine 342 = .ok (.dup2, 1) := z_dk tdX12_laysLine_331 5 rfl
theorem dX12_laysLine_343 : decode cX12_laysLine 343 = .ok (.iaload, 1) := z_dk tdX12_laysLine_331 6 rfl
theorem dX12_laysLine_344 : decode cX12_laysLine 344 = .ok (.aload_n 0, 1) := z_dk tdX12_laysLine_331 7 rfl
theorem dX12_laysLine_345 : decode cX12_laysLine 345 = .ok (.getfield 75, 3) := z_dk tdX12_laysLine_331 8 rfl
theorem dX12_laysLine_348 : decode cX12_laysLine 348 = .ok (.iload 10, 2) := z_dk tdX12_laysLine_331 9 rfl
theorem dX12_laysLine_350 : decode cX12_laysLine 350 = .ok (.iaload, 1) := z_dk tdX12_laysLine_331 10 rfl
theorem dX12_laysLine_351 : decode cX12_laysLine 351 = .ok (.aload_n 0, 1) := z_dk tdX12_laysLine_331 11 rfl
theorem dX12_laysLine_352 : decode cX12_laysLine 352 = .ok (.getfield 78, 3) := z_dk tdX12_laysLine_331 12 rfl
theorem dX12_laysLine_355 : decode cX12_laysLine 355 = .ok (.iload 10, 2) := z_dk tdX12_laysLine_331 13 rfl
theorem dX12_laysLine_357 : decode cX12_laysLine 357 = .ok (.iaload, 1) := z_dk tdX12_laysLine_331 14 rfl
theorem dX12_laysLine_358 : decode cX12_laysLine 358 = .ok (.iadd, 1) := z_dk tdX12_laysLine_331 15 rfl
theorem dX12_laysLine_359 : decode cX12_laysLine 359 = .ok (.iadd, 1) := z_dk tdX12_laysLine_331 16 rfl
theorem dX12_laysLine_360 : decode cX12_laysLine 360 = .ok (.iastore, 1) := z_dk tdX12_laysLine_331 17 rfl
theorem dX12_laysLine_361 : decode cX12_laysLine 361 = .ok (.iload 7, 2) := z_dk tdX12_laysLine_331 18 rfl
theorem dX12_laysLine_363 : decode cX12_laysLine 363 = .ok (.aload_n 0, 1) := z_dk tdX12_laysLine_331 19 rfl
theorem dX12_laysLine_364 : decode cX12_laysLine 364 = .ok (.getfield 66, 3) := z_dk tdX12_laysLine_331 20 rfl
theorem dX12_laysLine_367 : decode cX12_laysLine 367 = .ok (.iload 10, 2) := z_dk tdX12_laysLine_331 21 rfl
theorem dX12_laysLine_369 : decode cX12_laysLine 369 = .ok (.iaload, 1) := z_dk tdX12_laysLine_331 22 rfl
theorem dX12_laysLine_370 : decode cX12_laysLine 370 = .ok (.aload_n 0, 1) := z_dk tdX12_laysLine_331 23 rfl
theorem tdX12_laysLine_371 : (([(371, .getfield 72, 3), (374, .iload 10, 2), (376, .iaload, 1), (377, .iadd, 1), (378, .aload_n 0, 1), (379, .getfield 78, 3), (382, .iload 10, 2), (384, .iaload, 1), (385, .iadd, 1), (386, .iadd, 1), (387, .istore 7, 2), (389, .iload 8, 2), (391, .ifCond .eq 45, 3), (394, .aload_n 0, 1), (395, .iload 10, 2), (397, .iload_n 3, 1), (398, .invokevirtual 352, 3), (401, .ifCond .ne 6, 3), (404, .goto 32, 3), (407, .iload 7, 2), (409, .iload 6, 2), (411, .iload 5, 2), (413, .idiv, 1), (414, .iload 9, 2)] : List (Nat × Instr × Nat)).all fun e => decide (decode cX12_laysLine e.1 = .ok e.2)) = true := by decide +kernel
theorem dX12_laysLine_371 : decode cX12_laysLine 371 = .ok (.getfield 72, 3) := z_dk tdX12_laysLine_371 0 rfl
theorem dX12_laysLine_374 : decode cX12_laysLine 374 = .ok (.iload 10, 2) := z_dk tdX12_laysLine_371 1 rfl
theorem dX12_laysLine_376 : decode cX12_laysLine 376 = .ok (.iaload, 1) := z_dk tdX12_laysLine_371 2 rfl
theorem dX12_laysLine_377 : decode cX12_laysLine 377 = .ok (.iadd, 1) := z_dk tdX12_laysLine_371 3 rfl
theorem dX12_laysLine_378 : decode cX12_laysLine 378 = .ok (.aload_n 0, 1) := z_dk tdX12_laysLine_371 4 rfl
theorem dX12_laysLine_379 : decode cX12_laysLine 379 = .ok (.getfield 78, 3) := z_dk tdX12_laysLine_371 5 rfl
theorem dX12_laysLine_382 : decode cX12_laysLine 382 = .ok (.iload 10, 2) := z_dk tdX12_laysLine_371 6 rfl
theorem dX12_laysLine_384 : decode cX12_laysLine 384 = .ok (.iaload, 1) := z_dk tdX12_laysLine_371 7 rfl
theorem dX12_laysLine_385 : decode cX12_laysLine 385 = .ok (.iadd, 1) := z_dk tdX12_laysLine_371 8 rfl
theorem dX12_laysLine_386 : decode cX12_laysLine 386 = .ok (.iadd, 1) := z_dk tdX12_laysLine_371 9 rfl
theorem dX12_laysLine_387 : decode cX12_laysLine 387 = .ok (.istore 7, 2) := z_dk tdX12_laysLine_371 10 rfl
theorem dX12_laysLine_389 : decode cX12_laysLine 389 = .ok (.iload 8, 2) := z_dk tdX12_laysLine_371 11 rfl
theorem dX12_laysLine_391 : decode cX12_laysLine 391 = .ok (.ifCond .eq 45, 3) := z_dk tdX12_laysLine_371 12 rfl
theorem dX12_laysLine_394 : decode cX12_laysLine 394 = .ok (.aload_n 0, 1) := z_dk tdX12_laysLine_371 13 rfl
theorem dX12_laysLine_395 : decode cX12_laysLine 395 = .ok (.iload 10, 2) := z_dk tdX12_laysLine_371 14 rfl
theorem dX12_laysLine_397 : decode cX12_laysLine 397 = .ok (.iload_n 3, 1) := z_dk tdX12_laysLine_371 15 rfl
theorem dX12_laysLine_398 : decode cX12_laysLine 398 = .ok (.invokevirtual 352, 3) := z_dk tdX12_laysLine_371 16 rfl
theorem dX12_laysLine_401 : decode cX12_laysLine 401 = .ok (.ifCond .ne 6, 3) := z_dk tdX12_laysLine_371 17 rfl
theorem dX12_laysLine_404 : decode cX12_laysLine 404 = .ok (.goto 32, 3) := z_dk tdX12_laysLine_371 18 rfl
theorem dX12_laysLine_407 : decode cX12_laysLine 407 = .ok (.iload 7, 2) := z_dk tdX12_laysLine_371 19 rfl
theorem dX12_laysLine_409 : decode cX12_laysLine 409 = .ok (.iload 6, 2) := z_dk tdX12_laysLine_371 20 rfl
theorem dX12_laysLine_411 : decode cX12_laysLine 411 = .ok (.iload 5, 2) := z_dk tdX12_laysLine_371 21 rfl
theorem dX12_laysLine_413 : decode cX12_laysLine 413 = .ok (.idiv, 1) := z_dk tdX12_laysLine_371 22 rfl
theorem dX12_laysLine_414 : decode cX12_laysLine 414 = .ok (.iload 9, 2) := z_dk tdX12_laysLine_371 23 rfl
theorem tdX12_laysLine_416 : (([(416, .iload 6, 2), (418, .iload 5, 2), (420, .irem, 1), (421, .if_icmp .ge 7, 3), (424, .iconst 1, 1), (425, .goto 4, 3), (428, .iconst 0, 1), (429, .iadd, 1), (430, .iadd, 1), (431, .istore 7, 2), (433, .iinc 9 1, 3), (436, .iinc 10 1, 3), (439, .goto (-270), 3), (442, .return_, 1)] : List (Nat × Instr × Nat)).all fun e => decide (decode cX12_laysLine e.1 = .ok e.2)) = true := by decide +kernel
theorem dX12_laysLine_416 : decode cX12_laysLine 416 = .ok (.iload 6, 2) := z_dk tdX12_laysLine_416 0 rfl
theorem dX12_laysLine_418 : decode cX12_laysLine 418 = .ok (.iload 5, 2) := z_dk tdX12_laysLine_416 1 rfl
theorem dX12_laysLine_420 : decode cX12_laysLine 420 = .ok (.irem, 1) := z_dk tdX12_laysLine_416 2 rfl
theorem dX12_laysLine_421 : decode cX12_laysLine 421 = .ok (.if_icmp .ge 7, 3) := z_dk tdX12_laysLine_416 3 rfl
theorem dX12_laysLine_424 : decode cX12_laysLine 424 = .ok (.iconst 1, 1) := z_dk tdX12_laysLine_416 4 rfl
theorem dX12_laysLine_425 : decode cX12_laysLine 425 = .ok (.goto 4, 3) := z_dk tdX12_laysLine_416 5 rfl
theorem dX12_laysLine_428 : decode cX12_laysLine 428 = .ok (.iconst 0, 1) := z_dk tdX12_laysLine_416 6 rfl
theorem dX12_laysLine_429 : decode cX12_laysLine 429 = .ok (.iadd, 1) := z_dk tdX12_laysLine_416 7 rfl
theorem dX12_laysLine_430 : decode cX12_laysLine 430 = .ok (.iadd, 1) := z_dk tdX12_laysLine_416 8 rfl
theorem dX12_laysLine_431 : decode cX12_laysLine 431 = .ok (.istore 7, 2) := z_dk tdX12_laysLine_416 9 rfl
theorem dX12_laysLine_433 : decode cX12_laysLine 433 = .ok (.iinc 9 1, 3) := z_dk tdX12_laysLine_416 10 rfl
theorem dX12_laysLine_436 : decode cX12_laysLine 436 = .ok (.iinc 10 1, 3) := z_dk tdX12_laysLine_416 11 rfl
theorem dX12_laysLine_439 : decode cX12_laysLine 439 = .ok (.goto (-270), 3) := z_dk tdX12_laysLine_416 12 rfl
theorem dX12_laysLine_442 : decode cX12_laysLine 442 = .ok (.return_, 1) := z_dk tdX12_laysLine_416 13 rfl
theorem tdX12_addsBlock_0 : (([(0, .aload_n 0, 1), (1, .getfield 149, 3), (4, .aload_n 0, 1), (5, .getfield 359, 3), (8, .aaload, 1), (9, .astore_n 3, 1), (10, .iload_n 1, 1), (11, .aload_n 0, 1), (12, .getfield 81, 3), (15, .iload_n 1, 1), (16, .iaload, 1), (17, .iadd, 1), (18, .iconst 1, 1), (19, .isub, 1), (20, .istore 4, 2), (22, .aload_n 3, 1), (23, .iconst 0, 1), (24, .iload_n 1, 1), (25, .iastore, 1), (26, .aload_n 3, 1), (27, .iconst 1, 1), (28, .aload_n 0, 1), (29, .getfield 81, 3), (32, .iload_n 1, 1)] : List (Nat × Instr × Nat)).all fun e => decide (decode cX12_addsBlock e.1 = .ok e.2)) = true := by decide +kernel
theorem dX12_addsBlock_0 : decode cX12_addsBlock 0 = .ok (.aload_n 0, 1) := z_dk tdX12_addsBlock_0 0 rfl
theorem dX12_addsBlock_1 : decode cX12_addsBlock 1 = .ok (.getfield 149, 3) := z_dk tdX12_addsBlock_0 1 rfl
theorem dX12_addsBlock_4 : decode cX12_addsBlock 4 = .ok (.aload_n 0, 1) := z_dk tdX12_addsBlock_0 2 rfl
theorem dX12_addsBlock_5 : decode cX12_addsBlock 5 = .ok (.getfield 359, 3) := z_dk tdX12_addsBlock_0 3 rfl
theorem dX12_addsBlock_8 : decode cX12_addsBlock 8 = .ok (.aaload, 1) := z_dk tdX12_addsBlock_0 4 rfl
theorem dX12_addsBlock_9 : decode cX12_addsBlock 9 = .ok (.astore_n 3, 1) := z_dk tdX12_addsBlock_0 5 rfl
theorem dX12_addsBlock_10 : decode cX12_addsBlock 10 = .ok (.iload_n 1, 1) := z_dk tdX12_addsBlock_0 6 rfl
theorem dX12_addsBlock_11 : decode cX12_addsBlock 11 = .ok (.aload_n 0, 1) := z_dk tdX12_addsBlock_0 7 rfl
theorem dX12_addsBlock_12 : decode cX12_addsBlock 12 = .ok (.getfield 81, 3) := z_dk tdX12_addsBlock_0 8 rfl
theorem dX12_addsBlock_15 : decode cX12_addsBlock 15 = .ok (.iload_n 1, 1) := z_dk tdX12_addsBlock_0 9 rfl
theorem dX12_addsBlock_16 : decode cX12_addsBlock 16 = .ok (.iaload, 1) := z_dk tdX12_addsBlock_0 10 rfl
theorem dX12_addsBlock_17 : decode cX12_addsBlock 17 = .ok (.iadd, 1) := z_dk tdX12_addsBlock_0 11 rfl
theorem dX12_addsBlock_18 : decode cX12_addsBlock 18 = .ok (.iconst 1, 1) := z_dk tdX12_addsBlock_0 12 rfl
theorem dX12_addsBlock_19 : decode cX12_addsBlock 19 = .ok (.isub, 1) := z_dk tdX12_addsBlock_0 13 rfl
theorem dX12_addsBlock_20 : decode cX12_addsBlock 20 = .ok (.istore 4, 2) := z_dk tdX12_addsBlock_0 14 rfl
theorem dX12_addsBlock_22 : decode cX12_addsBlock 22 = .ok (.aload_n 3, 1) := z_dk tdX12_addsBlock_0 15 rfl
theorem dX12_addsBlock_23 : decode cX12_addsBlock 23 = .ok (.iconst 0, 1) := z_dk tdX12_addsBlock_0 16 rfl
theorem dX12_addsBlock_24 : decode cX12_addsBlock 24 = .ok (.iload_n 1, 1) := z_dk tdX12_addsBlock_0 17 rfl
theorem dX12_addsBlock_25 : decode cX12_addsBlock 25 = .ok (.iastore, 1) := z_dk tdX12_addsBlock_0 18 rfl
theorem dX12_addsBlock_26 : decode cX12_addsBlock 26 = .ok (.aload_n 3, 1) := z_dk tdX12_addsBlock_0 19 rfl
theorem dX12_addsBlock_27 : decode cX12_addsBlock 27 = .ok (.iconst 1, 1) := z_dk tdX12_addsBlock_0 20 rfl
theorem dX12_addsBlock_28 : decode cX12_addsBlock 28 = .ok (.aload_n 0, 1) := z_dk tdX12_addsBlock_0 21 rfl
theorem dX12_addsBlock_29 : decode cX12_addsBlock 29 = .ok (.getfield 81, 3) := z_dk tdX12_addsBlock_0 22 rfl
theorem dX12_addsBlock_32 : decode cX12_addsBlock 32 = .ok (.iload_n 1, 1) := z_dk tdX12_addsBlock_0 23 rfl
theorem tdX12_addsBlock_33 : (([(33, .iaload, 1), (34, .iastore, 1), (35, .aload_n 3, 1), (36, .iconst 2, 1), (37, .aload_n 0, 1), (38, .getfield 93, 3), (41, .iload_n 1, 1), (42, .iaload, 1), (43, .iastore, 1), (44, .aload_n 3, 1), (45, .iconst 3, 1), (46, .aload_n 0, 1), (47, .getfield 90, 3), (50, .iload_n 1, 1), (51, .iaload, 1), (52, .iastore, 1), (53, .aload_n 3, 1), (54, .iconst 4, 1), (55, .aload_n 0, 1), (56, .getfield 84, 3), (59, .iload_n 1, 1), (60, .iaload, 1), (61, .aload_n 0, 1), (62, .getfield 75, 3)] : List (Nat × Instr × Nat)).all fun e => decide (decode cX12_addsBlock e.1 = .ok e.2)) = true := by decide +kernel
theorem dX12_addsBlock_33 : decode cX12_addsBlock 33 = .ok (.iaload, 1) := z_dk tdX12_addsBlock_33 0 rfl
theorem dX12_addsBlock_34 : decode cX12_addsBlock 34 = .ok (.iastore, 1) := z_dk tdX12_addsBlock_33 1 rfl
theorem dX12_addsBlock_35 : decode cX12_addsBlock 35 = .ok (.aload_n 3, 1) := z_dk tdX12_addsBlock_33 2 rfl
theorem dX12_addsBlock_36 : decode cX12_addsBlock 36 = .ok (.iconst 2, 1) := z_dk tdX12_addsBlock_33 3 rfl
theorem dX12_addsBlock_37 : decode cX12_addsBlock 37 = .ok (.aload_n 0, 1) := z_dk tdX12_addsBlock_33 4 rfl
theorem dX12_addsBlock_38 : decode cX12_addsBlock 38 = .ok (.getfield 93, 3) := z_dk tdX12_addsBlock_33 5 rfl
theorem dX12_addsBlock_41 : decode cX12_addsBlock 41 = .ok (.iload_n 1, 1) := z_dk tdX12_addsBlock_33 6 rfl
theorem dX12_addsBlock_42 : decode cX12_addsBlock 42 = .ok (.iaload, 1) := z_dk tdX12_addsBlock_33 7 rfl
theorem dX12_addsBlock_43 : decode cX12_addsBlock 43 = .ok (.iastore, 1) := z_dk tdX12_addsBlock_33 8 rfl
theorem dX12_addsBlock_44 : decode cX12_addsBlock 44 = .ok (.aload_n 3, 1) := z_dk tdX12_addsBlock_33 9 rfl
theorem dX12_addsBlock_45 : decode cX12_addsBlock 45 = .ok (.iconst 3, 1) := z_dk tdX12_addsBlock_33 10 rfl
theorem dX12_addsBlock_46 : decode cX12_addsBlock 46 = .ok (.aload_n 0, 1) := z_dk tdX12_addsBlock_33 11 rfl
theorem dX12_addsBlock_47 : decode cX12_addsBlock 47 = .ok (.getfield 90, 3) := z_dk tdX12_addsBlock_33 12 rfl
theorem dX12_addsBlock_50 : decode cX12_addsBlock 50 = .ok (.iload_n 1, 1) := z_dk tdX12_addsBlock_33 13 rfl
theorem dX12_addsBlock_51 : decode cX12_addsBlock 51 = .ok (.iaload, 1) := z_dk tdX12_addsBlock_33 14 rfl
theorem dX12_addsBlock_52 : decode cX12_addsBlock 52 = .ok (.iastore, 1) := z_dk tdX12_addsBlock_33 15 rfl
theorem dX12_addsBlock_53 : decode cX12_addsBlock 53 = .ok (.aload_n 3, 1) := z_dk tdX12_addsBlock_33 16 rfl
theorem dX12_addsBlock_54 : decode cX12_addsBlock 54 = .ok (.iconst 4, 1) := z_dk tdX12_addsBlock_33 17 rfl
theorem dX12_addsBlock_55 : decode cX12_addsBlock 55 = .ok (.aload_n 0, 1) := z_dk tdX12_addsBlock_33 18 rfl
theorem dX12_addsBlock_56 : decode cX12_addsBlock 56 = .ok (.getfield 84, 3) := z_dk tdX12_addsBlock_33 19 rfl
theorem dX12_addsBlock_59 : decode cX12_addsBlock 59 = .ok (.iload_n 1, 1) := z_dk tdX12_addsBlock_33 20 rfl
theorem dX12_addsBlock_60 : decode cX12_addsBlock 60 = .ok (.iaload, 1) := z_dk tdX12_addsBlock_33 21 rfl
theorem dX12_addsBlock_61 : decode cX12_addsBlock 61 = .ok (.aload_n 0, 1) := z_dk tdX12_addsBlock_33 22 rfl
theorem dX12_addsBlock_62 : decode cX12_addsBlock 62 = .ok (.getfield 75, 3) := z_dk tdX12_addsBlock_33 23 rfl
theorem tdX12_addsBlock_65 : (([(65, .iload_n 1, 1), (66, .iaload, 1), (67, .isub, 1), (68, .iastore, 1), (69, .aload_n 3, 1), (70, .iconst 5, 1), (71, .aload_n 0, 1), (72, .getfield 87, 3), (75, .iload 4, 2), (77, .iaload, 1), (78, .aload_n 0, 1), (79, .getfield 78, 3), (82, .iload 4, 2), (84, .iaload, 1), (85, .isub, 1), (86, .iastore, 1), (87, .aload_n 3, 1), (88, .bipush 6, 2), (90, .aload_n 0, 1), (91, .getfield 75, 3), (94, .iload_n 1, 1), (95, .iaload, 1), (96, .iastore, 1), (97, .aload_n 3, 1)] : List (Nat × Instr × Nat)).all fun e => decide (decode cX12_addsBlock e.1 = .ok e.2)) = true := by decide +kernel
theorem dX12_addsBlock_65 : decode cX12_addsBlock 65 = .ok (.iload_n 1, 1) := z_dk tdX12_addsBlock_65 0 rfl
theorem dX12_addsBlock_66 : decode cX12_addsBlock 66 = .ok (.iaload, 1) := z_dk tdX12_addsBlock_65 1 rfl
theorem dX12_addsBlock_67 : decode cX12_addsBlock 67 = .ok (.isub, 1) := z_dk tdX12_addsBlock_65 2 rfl
theorem dX12_addsBlock_68 : decode cX12_addsBlock 68 = .ok (.iastore, 1) := z_dk tdX12_addsBlock_65 3 rfl
theorem dX12_addsBlock_69 : decode cX12_addsBlock 69 = .ok (.aload_n 3, 1) := z_dk tdX12_addsBlock_65 4 rfl
theorem dX12_addsBlock_70 : decode cX12_addsBlock 70 = .ok (.iconst 5, 1) := z_dk tdX12_addsBlock_65 5 rfl
theorem dX12_addsBlock_71 : decode cX12_addsBlock 71 = .ok (.aload_n 0, 1) := z_dk tdX12_addsBlock_65 6 rfl
theorem dX12_addsBlock_72 : decode cX12_addsBlock 72 = .ok (.getfield 87, 3) := z_dk tdX12_addsBlock_65 7 rfl
theorem dX12_addsBlock_75 : decode cX12_addsBlock 75 = .ok (.iload 4, 2) := z_dk tdX12_addsBlock_65 8 rfl
theorem dX12_addsBlock_77 : decode cX12_addsBlock 77 = .ok (.iaload, 1) := z_dk tdX12_addsBlock_65 9 rfl
theorem dX12_addsBlock_78 : decode cX12_addsBlock 78 = .ok (.aload_n 0, 1) := z_dk tdX12_addsBlock_65 10 rfl
theorem dX12_addsBlock_79 : decode cX12_addsBlock 79 = .ok (.getfield 78, 3) := z_dk tdX12_addsBlock_65 11 rfl
theorem dX12_addsBlock_82 : decode cX12_addsBlock 82 = .ok (.iload 4, 2) := z_dk tdX12_addsBlock_65 12 rfl
theorem dX12_addsBlock_84 : decode cX12_addsBlock 84 = .ok (.iaload, 1) := z_dk tdX12_addsBlock_65 13 rfl
theorem dX12_addsBlock_85 : decode cX12_addsBlock 85 = .ok (.isub, 1) := z_dk tdX12_addsBlock_65 14 rfl
theorem dX12_addsBlock_86 : decode cX12_addsBlock 86 = .ok (.iastore, 1) := z_dk tdX12_addsBlock_65 15 rfl
theorem dX12_addsBlock_87 : decode cX12_addsBlock 87 = .ok (.aload_n 3, 1) := z_dk tdX12_addsBlock_65 16 rfl
theorem dX12_addsBlock_88 : decode cX12_addsBlock 88 = .ok (.bipush 6, 2) := z_dk tdX12_addsBlock_65 17 rfl
theorem dX12_addsBlock_90 : decode cX12_addsBlock 90 = .ok (.aload_n 0, 1) := z_dk tdX12_addsBlock_65 18 rfl
theorem dX12_addsBlock_91 : decode cX12_addsBlock 91 = .ok (.getfield 75, 3) := z_dk tdX12_addsBlock_65 19 rfl
theorem dX12_addsBlock_94 : decode cX12_addsBlock 94 = .ok (.iload_n 1, 1) := z_dk tdX12_addsBlock_65 20 rfl
theorem dX12_addsBlock_95 : decode cX12_addsBlock 95 = .ok (.iaload, 1) := z_dk tdX12_addsBlock_65 21 rfl
theorem dX12_addsBlock_96 : decode cX12_addsBlock 96 = .ok (.iastore, 1) := z_dk tdX12_addsBlock_65 22 rfl
theorem dX12_addsBlock_97 : decode cX12_addsBlock 97 = .ok (.aload_n 3, 1) := z_dk tdX12_addsBlock_65 23 rfl
theorem tdX12_addsBlock_98 : (([(98, .bipush 7, 2), (100, .aload_n 0, 1), (101, .getfield 78, 3), (104, .iload 4, 2), (106, .iaload, 1), (107, .iastore, 1), (108, .aload_n 0, 1), (109, .dup, 1), (110, .getfield 359, 3), (113, .iconst 1, 1), (114, .iadd, 1), (115, .putfield 359, 3), (118, .aload_n 0, 1), (119, .getfield 140, 3), (122, .iload_n 2, 1), (123, .dup2, 1), (124, .iaload, 1), (125, .iconst 1, 1), (126, .iadd, 1), (127, .iastore, 1), (128, .return_, 1)] : List (Nat × Instr × Nat)).all fun e => decide (decode cX12_addsBlock e.1 = .ok e.2)) = true := by decide +kernel
theorem dX12_addsBlock_98 : decode cX12_addsBlock 98 = .ok (.bipush 7, 2) := z_dk tdX12_addsBlock_98 0 rfl
theorem dX12_addsBlock_100 : decode cX12_addsBlock 100 = .ok (.aload_n 0, 1) := z_dk tdX12_addsBlock_98 1 rfl
theorem dX12_addsBlock_101 : decode cX12_addsBlock 101 = .ok (.getfield 78, 3) := z_dk tdX12_addsBlock_98 2 rfl
theorem dX12_addsBlock_104 : decode cX12_addsBlock 104 = .ok (.iload 4, 2) := z_dk tdX12_addsBlock_98 3 rfl
theorem dX12_addsBlock_106 : decode cX12_addsBlock 106 = .ok (.iaload, 1) := z_dk tdX12_addsBlock_98 4 rfl
theorem dX12_addsBlock_107 : decode cX12_addsBlock 107 = .ok (.iastore, 1) := z_dk tdX12_addsBlock_98 5 rfl
theorem dX12_addsBlock_108 : decode cX12_addsBlock 108 = .ok (.aload_n 0, 1) := z_dk tdX12_addsBlock_98 6 rfl
theorem dX12_addsBlock_109 : decode cX12_addsBlock 109 = .ok (.dup, 1) := z_dk tdX12_addsBlock_98 7 rfl
theorem dX12_addsBlock_110 : decode cX12_addsBlock 110 = .ok (.getfield 359, 3) := z_dk tdX12_addsBlock_98 8 rfl
theorem dX12_addsBlock_113 : decode cX12_addsBlock 113 = .ok (.iconst 1, 1) := z_dk tdX12_addsBlock_98 9 rfl
theorem dX12_addsBlock_114 : decode cX12_addsBlock 114 = .ok (.iadd, 1) := z_dk tdX12_addsBlock_98 10 rfl
theorem dX12_addsBlock_115 : decode cX12_addsBlock 115 = .ok (.putfield 359, 3) := z_dk tdX12_addsBlock_98 11 rfl
theorem dX12_addsBlock_118 : decode cX12_addsBlock 118 = .ok (.aload_n 0, 1) := z_dk tdX12_addsBlock_98 12 rfl
theorem dX12_addsBlock_119 : decode cX12_addsBlock 119 = .ok (.getfield 140, 3) := z_dk tdX12_addsBlock_98 13 rfl
theorem dX12_addsBlock_122 : decode cX12_addsBlock 122 = .ok (.iload_n 2, 1) := z_dk tdX12_addsBlock_98 14 rfl
theorem dX12_addsBlock_123 : decode cX12_addsBlock 123 = .ok (.dup2, 1) := z_dk tdX12_addsBlock_98 15 rfl
theorem dX12_addsBlock_124 : decode cX12_addsBlock 124 = .ok (.iaload, 1) := z_dk tdX12_addsBlock_98 16 rfl
theorem dX12_addsBlock_125 : decode cX12_addsBlock 125 = .ok (.iconst 1, 1) := z_dk tdX12_addsBlock_98 17 rfl
theorem dX12_addsBlock_126 : decode cX12_addsBlock 126 = .ok (.iadd, 1) := z_dk tdX12_addsBlock_98 18 rfl
theorem dX12_addsBlock_127 : decode cX12_addsBlock 127 = .ok (.iastore, 1) := z_dk tdX12_addsBlock_98 19 rfl
theorem dX12_addsBlock_128 : decode cX12_addsBlock 128 = .ok (.return_, 1) := z_dk tdX12_addsBlock_98 20 rfl
theorem tdX12_laysAll_0 : (([(0, .aload_n 0, 1), (1, .invokevirtual 326, 3), (4, .aload_n 0, 1), (5, .getfield 323, 3), (8, .ifCond .eq 4, 3), (11, .return_, 1), (12, .aload_n 0, 1), (13, .aload_n 0, 1), (14, .aload_n 0, 1), (15, .getfield 20, 3), (18, .iconst 0, 1), (19, .iaload, 1), (20, .aload_n 0, 1), (21, .getfield 20, 3), (24, .iconst 3, 1), (25, .iaload, 1), (26, .invokevirtual 362, 3), (29, .putfield 365, 3), (32, .aload_n 0, 1), (33, .iconst 0, 1), (34, .putfield 359, 3), (37, .iconst 0, 1), (38, .istore_n 1, 1), (39, .iload_n 1, 1)] : List (Nat × Instr × Nat)).all fun e => decide (decode cX12_laysAll e.1 = .ok e.2)) = true := by decide +kernel
theorem dX12_laysAll_0 : decode cX12_laysAll 0 = .ok (.aload_n 0, 1) := z_dk tdX12_laysAll_0 0 rfl
theorem dX12_laysAll_1 : decode cX12_laysAll 1 = .ok (.invokevirtual 326, 3) := z_dk tdX12_laysAll_0 1 rfl
theorem dX12_laysAll_4 : decode cX12_laysAll 4 = .ok (.aload_n 0, 1) := z_dk tdX12_laysAll_0 2 rfl
theorem dX12_laysAll_5 : decode cX12_laysAll 5 = .ok (.getfield 323, 3) := z_dk tdX12_laysAll_0 3 rfl
theorem dX12_laysAll_8 : decode cX12_laysAll 8 = .ok (.ifCond .eq 4, 3) := z_dk tdX12_laysAll_0 4 rfl
theorem dX12_laysAll_11 : decode cX12_laysAll 11 = .ok (.return_, 1) := z_dk tdX12_laysAll_0 5 rfl
theorem dX12_laysAll_12 : decode cX12_laysAll 12 = .ok (.aload_n 0, 1) := z_dk tdX12_laysAll_0 6 rfl
theorem dX12_laysAll_13 : decode cX12_laysAll 13 = .ok (.aload_n 0, 1) := z_dk tdX12_laysAll_0 7 rfl
theorem dX12_laysAll_14 : decode cX12_laysAll 14 = .ok (.aload_n 0, 1) := z_dk tdX12_laysAll_0 8 rfl
theorem dX12_laysAll_15 : decode cX12_laysAll 15 = .ok (.getfield 20, 3) := z_dk tdX12_laysAll_0 9 rfl
theorem dX12_laysAll_18 : decode cX12_laysAll 18 = .ok (.iconst 0, 1) := z_dk tdX12_laysAll_0 10 rfl
theorem dX12_laysAll_19 : decode cX12_laysAll 19 = .ok (.iaload, 1) := z_dk tdX12_laysAll_0 11 rfl
theorem dX12_laysAll_20 : decode cX12_laysAll 20 = .ok (.aload_n 0, 1) := z_dk tdX12_laysAll_0 12 rfl
theorem dX12_laysAll_21 : decode cX12_laysAll 21 = .ok (.getfield 20, 3) := z_dk tdX12_laysAll_0 13 rfl
theorem dX12_laysAll_24 : decode cX12_laysAll 24 = .ok (.iconst 3, 1) := z_dk tdX12_laysAll_0 14 rfl
theorem dX12_laysAll_25 : decode cX12_laysAll 25 = .ok (.iaload, 1) := z_dk tdX12_laysAll_0 15 rfl
theorem dX12_laysAll_26 : decode cX12_laysAll 26 = .ok (.invokevirtual 362, 3) := z_dk tdX12_laysAll_0 16 rfl
theorem dX12_laysAll_29 : decode cX12_laysAll 29 = .ok (.putfield 365, 3) := z_dk tdX12_laysAll_0 17 rfl
theorem dX12_laysAll_32 : decode cX12_laysAll 32 = .ok (.aload_n 0, 1) := z_dk tdX12_laysAll_0 18 rfl
theorem dX12_laysAll_33 : decode cX12_laysAll 33 = .ok (.iconst 0, 1) := z_dk tdX12_laysAll_0 19 rfl
theorem dX12_laysAll_34 : decode cX12_laysAll 34 = .ok (.putfield 359, 3) := z_dk tdX12_laysAll_0 20 rfl
theorem dX12_laysAll_37 : decode cX12_laysAll 37 = .ok (.iconst 0, 1) := z_dk tdX12_laysAll_0 21 rfl
theorem dX12_laysAll_38 : decode cX12_laysAll 38 = .ok (.istore_n 1, 1) := z_dk tdX12_laysAll_0 22 rfl
theorem dX12_laysAll_39 : decode cX12_laysAll 39 = .ok (.iload_n 1, 1) := z_dk tdX12_laysAll_0 23 rfl
theorem tdX12_laysAll_40 : (([(40, .aload_n 0, 1), (41, .getfield 365, 3), (44, .if_icmp .ge 14, 3), (47, .aload_n 0, 1), (48, .iload_n 1, 1), (49, .invokevirtual 368, 3), (52, .iinc 1 1, 3), (55, .goto (-16), 3), (58, .aload_n 0, 1), (59, .iconst 1, 1), (60, .putfield 323, 3), (63, .return_, 1)] : List (Nat × Instr × Nat)).all fun e => decide (decode cX12_laysAll e.1 = .ok e.2)) = true := by decide +kernel
theorem dX12_laysAll_40 : decode cX12_laysAll 40 = .ok (.aload_n 0, 1) := z_dk tdX12_laysAll_40 0 rfl
theorem dX12_laysAll_41 : decode cX12_laysAll 41 = .ok (.getfield 365, 3) := z_dk tdX12_laysAll_40 1 rfl
theorem dX12_laysAll_44 : decode cX12_laysAll 44 = .ok (.if_icmp .ge 14, 3) := z_dk tdX12_laysAll_40 2 rfl
theorem dX12_laysAll_47 : decode cX12_laysAll 47 = .ok (.aload_n 0, 1) := z_dk tdX12_laysAll_40 3 rfl
theorem dX12_laysAll_48 : decode cX12_laysAll 48 = .ok (.iload_n 1, 1) := z_dk tdX12_laysAll_40 4 rfl
theorem dX12_laysAll_49 : decode cX12_laysAll 49 = .ok (.invokevirtual 368, 3) := z_dk tdX12_laysAll_40 5 rfl
theorem dX12_laysAll_52 : decode cX12_laysAll 52 = .ok (.iinc 1 1, 3) := z_dk tdX12_laysAll_40 6 rfl
theorem dX12_laysAll_55 : decode cX12_laysAll 55 = .ok (.goto (-16), 3) := z_dk tdX12_laysAll_40 7 rfl
theorem dX12_laysAll_58 : decode cX12_laysAll 58 = .ok (.aload_n 0, 1) := z_dk tdX12_laysAll_40 8 rfl
theorem dX12_laysAll_59 : decode cX12_laysAll 59 = .ok (.iconst 1, 1) := z_dk tdX12_laysAll_40 9 rfl
theorem dX12_laysAll_60 : decode cX12_laysAll 60 = .ok (.putfield 323, 3) := z_dk tdX12_laysAll_40 10 rfl
theorem dX12_laysAll_63 : decode cX12_laysAll 63 = .ok (.return_, 1) := z_dk tdX12_laysAll_40 11 rfl
theorem tdX12_costs_0 : (([(0, .lconst 0, 1), (1, .lstore_n 1, 1), (2, .iconst 0, 1), (3, .istore_n 3, 1), (4, .iload_n 3, 1), (5, .aload_n 0, 1), (6, .getfield 365, 3), (9, .if_icmp .ge 38, 3), (12, .lload_n 1, 1), (13, .aload_n 0, 1), (14, .aload_n 0, 1), (15, .getfield 109, 3), (18, .iload_n 3, 1), (19, .iaload, 1), (20, .aload_n 0, 1), (21, .getfield 109, 3), (24, .iload_n 3, 1), (25, .iconst 1, 1), (26, .iadd, 1), (27, .iaload, 1), (28, .iconst 1, 1), (29, .isub, 1), (30, .aload_n 0, 1), (31, .getfield 20, 3)] : List (Nat × Instr × Nat)).all fun e => decide (decode cX12_costs e.1 = .ok e.2)) = true := by decide +kernel
theorem dX12_costs_0 : decode cX12_costs 0 = .ok (.lconst 0, 1) := z_dk tdX12_costs_0 0 rfl
theorem dX12_costs_1 : decode cX12_costs 1 = .ok (.lstore_n 1, 1) := z_dk tdX12_costs_0 1 rfl
theorem dX12_costs_2 : decode cX12_costs 2 = .ok (.iconst 0, 1) := z_dk tdX12_costs_0 2 rfl
theorem dX12_costs_3 : decode cX12_costs 3 = .ok (.istore_n 3, 1) := z_dk tdX12_costs_0 3 rfl
theorem dX12_costs_4 : decode cX12_costs 4 = .ok (.iload_n 3, 1) := z_dk tdX12_costs_0 4 rfl
theorem dX12_costs_5 : decode cX12_costs 5 = .ok (.aload_n 0, 1) := z_dk tdX12_costs_0 5 rfl
theorem dX12_costs_6 : decode cX12_costs 6 = .ok (.getfield 365, 3) := z_dk tdX12_costs_0 6 rfl
theorem dX12_costs_9 : decode cX12_costs 9 = .ok (.if_icmp .ge 38, 3) := z_dk tdX12_costs_0 7 rfl
theorem dX12_costs_12 : decode cX12_costs 12 = .ok (.lload_n 1, 1) := z_dk tdX12_costs_0 8 rfl
theorem dX12_costs_13 : decode cX12_costs 13 = .ok (.aload_n 0, 1) := z_dk tdX12_costs_0 9 rfl
theorem dX12_costs_14 : decode cX12_costs 14 = .ok (.aload_n 0, 1) := z_dk tdX12_costs_0 10 rfl
theorem dX12_costs_15 : decode cX12_costs 15 = .ok (.getfield 109, 3) := z_dk tdX12_costs_0 11 rfl
theorem dX12_costs_18 : decode cX12_costs 18 = .ok (.iload_n 3, 1) := z_dk tdX12_costs_0 12 rfl
theorem dX12_costs_19 : decode cX12_costs 19 = .ok (.iaload, 1) := z_dk tdX12_costs_0 13 rfl
theorem dX12_costs_20 : decode cX12_costs 20 = .ok (.aload_n 0, 1) := z_dk tdX12_costs_0 14 rfl
theorem dX12_costs_21 : decode cX12_costs 21 = .ok (.getfield 109, 3) := z_dk tdX12_costs_0 15 rfl
theorem dX12_costs_24 : decode cX12_costs 24 = .ok (.iload_n 3, 1) := z_dk tdX12_costs_0 16 rfl
theorem dX12_costs_25 : decode cX12_costs 25 = .ok (.iconst 1, 1) := z_dk tdX12_costs_0 17 rfl
theorem dX12_costs_26 : decode cX12_costs 26 = .ok (.iadd, 1) := z_dk tdX12_costs_0 18 rfl
theorem dX12_costs_27 : decode cX12_costs 27 = .ok (.iaload, 1) := z_dk tdX12_costs_0 19 rfl
theorem dX12_costs_28 : decode cX12_costs 28 = .ok (.iconst 1, 1) := z_dk tdX12_costs_0 20 rfl
theorem dX12_costs_29 : decode cX12_costs 29 = .ok (.isub, 1) := z_dk tdX12_costs_0 21 rfl
theorem dX12_costs_30 : decode cX12_costs 30 = .ok (.aload_n 0, 1) := z_dk tdX12_costs_0 22 rfl
theorem dX12_costs_31 : decode cX12_costs 31 = .ok (.getfield 20, 3) := z_dk tdX12_costs_0 23 rfl
theorem tdX12_costs_34 : (([(34, .iconst 0, 1), (35, .iaload, 1), (36, .invokevirtual 342, 3), (39, .ladd, 1), (40, .lstore_n 1, 1), (41, .iinc 3 1, 3), (44, .goto (-40), 3), (47, .lload_n 1, 1), (48, .lreturn, 1)] : List (Nat × Instr × Nat)).all fun e => decide (decode cX12_costs e.1 = .ok e.2)) = true := by decide +kernel
theorem dX12_costs_34 : decode cX12_costs 34 = .ok (.iconst 0, 1) := z_dk tdX12_costs_34 0 rfl
theorem dX12_costs_35 : decode cX12_costs 35 = .ok (.iaload, 1) := z_dk tdX12_costs_34 1 rfl
theorem dX12_costs_36 : decode cX12_costs 36 = .ok (.invokevirtual 342, 3) := z_dk tdX12_costs_34 2 rfl
theorem dX12_costs_39 : decode cX12_costs 39 = .ok (.ladd, 1) := z_dk tdX12_costs_34 3 rfl
theorem dX12_costs_40 : decode cX12_costs 40 = .ok (.lstore_n 1, 1) := z_dk tdX12_costs_34 4 rfl
theorem dX12_costs_41 : decode cX12_costs 41 = .ok (.iinc 3 1, 3) := z_dk tdX12_costs_34 5 rfl
theorem dX12_costs_44 : decode cX12_costs 44 = .ok (.goto (-40), 3) := z_dk tdX12_costs_34 6 rfl
theorem dX12_costs_47 : decode cX12_costs 47 = .ok (.lload_n 1, 1) := z_dk tdX12_costs_34 7 rfl
theorem dX12_costs_48 : decode cX12_costs 48 = .ok (.lreturn, 1) := z_dk tdX12_costs_34 8 rfl
theorem tdX12_longest_0 : (([(0, .iconst 0, 1), (1, .istore_n 1, 1), (2, .iconst 0, 1), (3, .istore_n 2, 1), (4, .iload_n 2, 1), (5, .aload_n 0, 1), (6, .getfield 365, 3), (9, .if_icmp .ge 20, 3), (12, .iload_n 1, 1), (13, .aload_n 0, 1), (14, .getfield 134, 3), (17, .iload_n 2, 1), (18, .iaload, 1), (19, .invokestatic 256, 3), (22, .istore_n 1, 1), (23, .iinc 2 1, 3), (26, .goto (-22), 3), (29, .iload_n 1, 1), (30, .ireturn, 1)] : List (Nat × Instr × Nat)).all fun e => decide (decode cX12_longest e.1 = .ok e.2)) = true := by decide +kernel
theorem dX12_longest_0 : decode cX12_longest 0 = .ok (.iconst 0, 1) := z_dk tdX12_longest_0 0 rfl
theorem dX12_longest_1 : decode cX12_longest 1 = .ok (.istore_n 1, 1) := z_dk tdX12_longest_0 1 rfl
theorem dX12_longest_2 : decode cX12_longest 2 = .ok (.iconst 0, 1) := z_dk tdX12_longest_0 2 rfl
theorem dX12_longest_3 : decode cX12_longest 3 = .ok (.istore_n 2, 1) := z_dk tdX12_longest_0 3 rfl
theorem dX12_longest_4 : decode cX12_longest 4 = .ok (.iload_n 2, 1) := z_dk tdX12_longest_0 4 rfl
theorem dX12_longest_5 : decode cX12_longest 5 = .ok (.aload_n 0, 1) := z_dk tdX12_longest_0 5 rfl
theorem dX12_longest_6 : decode cX12_longest 6 = .ok (.getfield 365, 3) := z_dk tdX12_longest_0 6 rfl
theorem dX12_longest_9 : decode cX12_longest 9 = .ok (.if_icmp .ge 20, 3) := z_dk tdX12_longest_0 7 rfl
theorem dX12_longest_12 : decode cX12_longest 12 = .ok (.iload_n 1, 1) := z_dk tdX12_longest_0 8 rfl
theorem dX12_longest_13 : decode cX12_longest 13 = .ok (.aload_n 0, 1) := z_dk tdX12_longest_0 9 rfl
theorem dX12_longest_14 : decode cX12_longest 14 = .ok (.getfield 134, 3) := z_dk tdX12_longest_0 10 rfl
theorem dX12_longest_17 : decode cX12_longest 17 = .ok (.iload_n 2, 1) := z_dk tdX12_longest_0 11 rfl
theorem dX12_longest_18 : decode cX12_longest 18 = .ok (.iaload, 1) := z_dk tdX12_longest_0 12 rfl
theorem dX12_longest_19 : decode cX12_longest 19 = .ok (.invokestatic 256, 3) := z_dk tdX12_longest_0 13 rfl
theorem dX12_longest_22 : decode cX12_longest 22 = .ok (.istore_n 1, 1) := z_dk tdX12_longest_0 14 rfl
theorem dX12_longest_23 : decode cX12_longest 23 = .ok (.iinc 2 1, 3) := z_dk tdX12_longest_0 15 rfl
theorem dX12_longest_26 : decode cX12_longest 26 = .ok (.goto (-22), 3) := z_dk tdX12_longest_0 16 rfl
theorem dX12_longest_29 : decode cX12_longest 29 = .ok (.iload_n 1, 1) := z_dk tdX12_longest_0 17 rfl
theorem dX12_longest_30 : decode cX12_longest 30 = .ok (.ireturn, 1) := z_dk tdX12_longest_0 18 rfl
theorem tdX12_unfit_0 : (([(0, .iconst 0, 1), (1, .istore_n 1, 1), (2, .iconst 0, 1), (3, .istore_n 2, 1), (4, .iload_n 2, 1), (5, .aload_n 0, 1), (6, .getfield 365, 3), (9, .if_icmp .ge 32, 3), (12, .iload_n 1, 1), (13, .aload_n 0, 1), (14, .getfield 134, 3), (17, .iload_n 2, 1), (18, .iaload, 1), (19, .aload_n 0, 1), (20, .getfield 20, 3), (23, .iconst 0, 1), (24, .iaload, 1), (25, .if_icmp .le 7, 3), (28, .iconst 1, 1), (29, .goto 4, 3), (32, .iconst 0, 1), (33, .iadd, 1), (34, .istore_n 1, 1), (35, .iinc 2 1, 3)] : List (Nat × Instr × Nat)).all fun e => decide (decode cX12_unfit e.1 = .ok e.2)) = true := by decide +kernel
theorem dX12_unfit_0 : decode cX12_unfit 0 = .ok (.iconst 0, 1) := z_dk tdX12_unfit_0 0 rfl
theorem dX12_unfit_1 : decode cX12_unfit 1 = .ok (.istore_n 1, 1) := z_dk tdX12_unfit_0 1 rfl
theorem dX12_unfit_2 : decode cX12_unfit 2 = .ok (.iconst 0, 1) := z_dk tdX12_unfit_0 2 rfl
theorem dX12_unfit_3 : decode cX12_unfit 3 = .ok (.istore_n 2, 1) := z_dk tdX12_unfit_0 3 rfl
theorem dX12_unfit_4 : decode cX12_unfit 4 = .ok (.iload_n 2, 1) := z_dk tdX12_unfit_0 4 rfl
theorem dX12_unfit_5 : decode cX12_unfit 5 = .ok (.aload_n 0, 1) := z_dk tdX12_unfit_0 5 rfl
theorem dX12_unfit_6 : decode cX12_unfit 6 = .ok (.getfield 365, 3) := z_dk tdX12_unfit_0 6 rfl
theorem dX12_unfit_9 : decode cX12_unfit 9 = .ok (.if_icmp .ge 32, 3) := z_dk tdX12_unfit_0 7 rfl
theorem dX12_unfit_12 : decode cX12_unfit 12 = .ok (.iload_n 1, 1) := z_dk tdX12_unfit_0 8 rfl
theorem dX12_unfit_13 : decode cX12_unfit 13 = .ok (.aload_n 0, 1) := z_dk tdX12_unfit_0 9 rfl
theorem dX12_unfit_14 : decode cX12_unfit 14 = .ok (.getfield 134, 3) := z_dk tdX12_unfit_0 10 rfl
theorem dX12_unfit_17 : decode cX12_unfit 17 = .ok (.iload_n 2, 1) := z_dk tdX12_unfit_0 11 rfl
theorem dX12_unfit_18 : decode cX12_unfit 18 = .ok (.iaload, 1) := z_dk tdX12_unfit_0 12 rfl
theorem dX12_unfit_19 : decode cX12_unfit 19 = .ok (.aload_n 0, 1) := z_dk tdX12_unfit_0 13 rfl
theorem dX12_unfit_20 : decode cX12_unfit 20 = .ok (.getfield 20, 3) := z_dk tdX12_unfit_0 14 rfl
theorem dX12_unfit_23 : decode cX12_unfit 23 = .ok (.iconst 0, 1) := z_dk tdX12_unfit_0 15 rfl
theorem dX12_unfit_24 : decode cX12_unfit 24 = .ok (.iaload, 1) := z_dk tdX12_unfit_0 16 rfl
theorem dX12_unfit_25 : decode cX12_unfit 25 = .ok (.if_icmp .le 7, 3) := z_dk tdX12_unfit_0 17 rfl
theorem dX12_unfit_28 : decode cX12_unfit 28 = .ok (.iconst 1, 1) := z_dk tdX12_unfit_0 18 rfl
theorem dX12_unfit_29 : decode cX12_unfit 29 = .ok (.goto 4, 3) := z_dk tdX12_unfit_0 19 rfl
theorem dX12_unfit_32 : decode cX12_unfit 32 = .ok (.iconst 0, 1) := z_dk tdX12_unfit_0 20 rfl
theorem dX12_unfit_33 : decode cX12_unfit 33 = .ok (.iadd, 1) := z_dk tdX12_unfit_0 21 rfl
theorem dX12_unfit_34 : decode cX12_unfit 34 = .ok (.istore_n 1, 1) := z_dk tdX12_unfit_0 22 rfl
theorem dX12_unfit_35 : decode cX12_unfit 35 = .ok (.iinc 2 1, 3) := z_dk tdX12_unfit_0 23 rfl
theorem tdX12_unfit_38 : (([(38, .goto (-34), 3), (41, .iload_n 1, 1), (42, .ireturn, 1)] : List (Nat × Instr × Nat)).all fun e => decide (decode cX12_unfit e.1 = .ok e.2)) = true := by decide +kernel
theorem dX12_unfit_38 : decode cX12_unfit 38 = .ok (.goto (-34), 3) := z_dk tdX12_unfit_38 0 rfl
theorem dX12_unfit_41 : decode cX12_unfit 41 = .ok (.iload_n 1, 1) := z_dk tdX12_unfit_38 1 rfl
theorem dX12_unfit_42 : decode cX12_unfit 42 = .ok (.ireturn, 1) := z_dk tdX12_unfit_38 2 rfl
theorem tdX12_told_0 : (([(0, .aload_n 0, 1), (1, .iconst 0, 1), (2, .putfield 170, 3), (5, .aload_n 0, 1), (6, .iload_n 1, 1), (7, .iconst 0, 1), (8, .bipush 19, 2), (10, .invokestatic 245, 3), (13, .ifCond .ne 7, 3), (16, .iconst 1, 1), (17, .goto 4, 3), (20, .iconst 0, 1), (21, .iconst 1, 1), (22, .iconst 1, 1), (23, .invokevirtual 249, 3), (26, .ifCond .eq 5, 3), (29, .lconst 0, 1), (30, .lreturn, 1), (31, .aload_n 0, 1), (32, .invokevirtual 371, 3), (35, .iload_n 1, 1), (36, .tableswitch 177 0 19 #[96, 102, 112, 119, 125, 131, 177, 177, 177, 177, 177, 177, 177, 136, 142, 148, 154, 154, 165, 171], 96), (132, .aload_n 0, 1), (133, .getfield 242, 3)] : List (Nat × Instr × Nat)).all fun e => decide (decode cX12_told e.1 = .ok e.2)) = true := by decide +kernel
theorem dX12_told_0 : decode cX12_told 0 = .ok (.aload_n 0, 1) := z_dk tdX12_told_0 0 rfl
theorem dX12_told_1 : decode cX12_told 1 = .ok (.iconst 0, 1) := z_dk tdX12_told_0 1 rfl
theorem dX12_told_2 : decode cX12_told 2 = .ok (.putfield 170, 3) := z_dk tdX12_told_0 2 rfl
theorem dX12_told_5 : decode cX12_told 5 = .ok (.aload_n 0, 1) := z_dk tdX12_told_0 3 rfl
theorem dX12_told_6 : decode cX12_told 6 = .ok (.iload_n 1, 1) := z_dk tdX12_told_0 4 rfl
theorem dX12_told_7 : decode cX12_told 7 = .ok (.iconst 0, 1) := z_dk tdX12_told_0 5 rfl
theorem dX12_told_8 : decode cX12_told 8 = .ok (.bipush 19, 2) := z_dk tdX12_told_0 6 rfl
theorem dX12_told_10 : decode cX12_told 10 = .ok (.invokestatic 245, 3) := z_dk tdX12_told_0 7 rfl
theorem dX12_told_13 : decode cX12_told 13 = .ok (.ifCond .ne 7, 3) := z_dk tdX12_told_0 8 rfl
theorem dX12_told_16 : decode cX12_told 16 = .ok (.iconst 1, 1) := z_dk tdX12_told_0 9 rfl
theorem dX12_told_17 : decode cX12_told 17 = .ok (.goto 4, 3) := z_dk tdX12_told_0 10 rfl
theorem dX12_told_20 : decode cX12_told 20 = .ok (.iconst 0, 1) := z_dk tdX12_told_0 11 rfl
theorem dX12_told_21 : decode cX12_told 21 = .ok (.iconst 1, 1) := z_dk tdX12_told_0 12 rfl
theorem dX12_told_22 : decode cX12_told 22 = .ok (.iconst 1, 1) := z_dk tdX12_told_0 13 rfl
theorem dX12_told_23 : decode cX12_told 23 = .ok (.invokevirtual 249, 3) := z_dk tdX12_told_0 14 rfl
theorem dX12_told_26 : decode cX12_told 26 = .ok (.ifCond .eq 5, 3) := z_dk tdX12_told_0 15 rfl
theorem dX12_told_29 : decode cX12_told 29 = .ok (.lconst 0, 1) := z_dk tdX12_told_0 16 rfl
theorem dX12_told_30 : decode cX12_told 30 = .ok (.lreturn, 1) := z_dk tdX12_told_0 17 rfl
theorem dX12_told_31 : decode cX12_told 31 = .ok (.aload_n 0, 1) := z_dk tdX12_told_0 18 rfl
theorem dX12_told_32 : decode cX12_told 32 = .ok (.invokevirtual 371, 3) := z_dk tdX12_told_0 19 rfl
theorem dX12_told_35 : decode cX12_told 35 = .ok (.iload_n 1, 1) := z_dk tdX12_told_0 20 rfl
theorem dX12_told_36 : decode cX12_told 36 = .ok (.tableswitch 177 0 19 #[96, 102, 112, 119, 125, 131, 177, 177, 177, 177, 177, 177, 177, 136, 142, 148, 154, 154, 165, 171], 96) := z_dk tdX12_told_0 21 rfl
theorem dX12_told_132 : decode cX12_told 132 = .ok (.aload_n 0, 1) := z_dk tdX12_told_0 22 rfl
theorem dX12_told_133 : decode cX12_told 133 = .ok (.getfield 242, 3) := z_dk tdX12_told_0 23 rfl
theorem tdX12_told_136 : (([(136, .i2l, 1), (137, .lreturn, 1), (138, .aload_n 0, 1), (139, .getfield 31, 3), (142, .iconst 0, 1), (143, .aaload, 1), (144, .iconst 0, 1), (145, .iaload, 1), (146, .i2l, 1), (147, .lreturn, 1), (148, .aload_n 0, 1), (149, .iconst 0, 1), (150, .invokevirtual 213, 3), (153, .i2l, 1), (154, .lreturn, 1), (155, .aload_n 0, 1), (156, .getfield 365, 3), (159, .i2l, 1), (160, .lreturn, 1), (161, .aload_n 0, 1), (162, .invokevirtual 374, 3), (165, .i2l, 1), (166, .lreturn, 1), (167, .aload_n 0, 1)] : List (Nat × Instr × Nat)).all fun e => decide (decode cX12_told e.1 = .ok e.2)) = true := by decide +kernel
theorem dX12_told_136 : decode cX12_told 136 = .ok (.i2l, 1) := z_dk tdX12_told_136 0 rfl
theorem dX12_told_137 : decode cX12_told 137 = .ok (.lreturn, 1) := z_dk tdX12_told_136 1 rfl
theorem dX12_told_138 : decode cX12_told 138 = .ok (.aload_n 0, 1) := z_dk tdX12_told_136 2 rfl
theorem dX12_told_139 : decode cX12_told 139 = .ok (.getfield 31, 3) := z_dk tdX12_told_136 3 rfl
theorem dX12_told_142 : decode cX12_told 142 = .ok (.iconst 0, 1) := z_dk tdX12_told_136 4 rfl
theorem dX12_told_143 : decode cX12_told 143 = .ok (.aaload, 1) := z_dk tdX12_told_136 5 rfl
theorem dX12_told_144 : decode cX12_told 144 = .ok (.iconst 0, 1) := z_dk tdX12_told_136 6 rfl
theorem dX12_told_145 : decode cX12_told 145 = .ok (.iaload, 1) := z_dk tdX12_told_136 7 rfl
theorem dX12_told_146 : decode cX12_told 146 = .ok (.i2l, 1) := z_dk tdX12_told_136 8 rfl
theorem dX12_told_147 : decode cX12_told 147 = .ok (.lreturn, 1) := z_dk tdX12_told_136 9 rfl
theorem dX12_told_148 : decode cX12_told 148 = .ok (.aload_n 0, 1) := z_dk tdX12_told_136 10 rfl
theorem dX12_told_149 : decode cX12_told 149 = .ok (.iconst 0, 1) := z_dk tdX12_told_136 11 rfl
theorem dX12_told_150 : decode cX12_told 150 = .ok (.invokevirtual 213, 3) := z_dk tdX12_told_136 12 rfl
theorem dX12_told_153 : decode cX12_told 153 = .ok (.i2l, 1) := z_dk tdX12_told_136 13 rfl
theorem dX12_told_154 : decode cX12_told 154 = .ok (.lreturn, 1) := z_dk tdX12_told_136 14 rfl
theorem dX12_told_155 : decode cX12_told 155 = .ok (.aload_n 0, 1) := z_dk tdX12_told_136 15 rfl
theorem dX12_told_156 : decode cX12_told 156 = .ok (.getfield 365, 3) := z_dk tdX12_told_136 16 rfl
theorem dX12_told_159 : decode cX12_told 159 = .ok (.i2l, 1) := z_dk tdX12_told_136 17 rfl
theorem dX12_told_160 : decode cX12_told 160 = .ok (.lreturn, 1) := z_dk tdX12_told_136 18 rfl
theorem dX12_told_161 : decode cX12_told 161 = .ok (.aload_n 0, 1) := z_dk tdX12_told_136 19 rfl
theorem dX12_told_162 : decode cX12_told 162 = .ok (.invokevirtual 374, 3) := z_dk tdX12_told_136 20 rfl
theorem dX12_told_165 : decode cX12_told 165 = .ok (.i2l, 1) := z_dk tdX12_told_136 21 rfl
theorem dX12_told_166 : decode cX12_told 166 = .ok (.lreturn, 1) := z_dk tdX12_told_136 22 rfl
theorem dX12_told_167 : decode cX12_told 167 = .ok (.aload_n 0, 1) := z_dk tdX12_told_136 23 rfl
theorem tdX12_told_168 : (([(168, .invokevirtual 377, 3), (171, .lreturn, 1), (172, .aload_n 0, 1), (173, .getfield 227, 3), (176, .i2l, 1), (177, .lreturn, 1), (178, .aload_n 0, 1), (179, .getfield 173, 3), (182, .i2l, 1), (183, .lreturn, 1), (184, .aload_n 0, 1), (185, .invokevirtual 381, 3), (188, .i2l, 1), (189, .lreturn, 1), (190, .aload_n 0, 1), (191, .getfield 20, 3), (194, .iload_n 1, 1), (195, .bipush 9, 2), (197, .isub, 1), (198, .iaload, 1), (199, .i2l, 1), (200, .lreturn, 1), (201, .aload_n 0, 1), (202, .getfield 311, 3)] : List (Nat × Instr × Nat)).all fun e => decide (decode cX12_told e.1 = .ok e.2)) = true := by decide +kernel
theorem dX12_told_168 : decode cX12_told 168 = .ok (.invokevirtual 377, 3) := z_dk tdX12_told_168 0 rfl
theorem dX12_told_171 : decode cX12_told 171 = .ok (.lreturn, 1) := z_dk tdX12_told_168 1 rfl
theorem dX12_told_172 : decode cX12_told 172 = .ok (.aload_n 0, 1) := z_dk tdX12_told_168 2 rfl
theorem dX12_told_173 : decode cX12_told 173 = .ok (.getfield 227, 3) := z_dk tdX12_told_168 3 rfl
theorem dX12_told_176 : decode cX12_told 176 = .ok (.i2l, 1) := z_dk tdX12_told_168 4 rfl
theorem dX12_told_177 : decode cX12_told 177 = .ok (.lreturn, 1) := z_dk tdX12_told_168 5 rfl
theorem dX12_told_178 : decode cX12_told 178 = .ok (.aload_n 0, 1) := z_dk tdX12_told_168 6 rfl
theorem dX12_told_179 : decode cX12_told 179 = .ok (.getfield 173, 3) := z_dk tdX12_told_168 7 rfl
theorem dX12_told_182 : decode cX12_told 182 = .ok (.i2l, 1) := z_dk tdX12_told_168 8 rfl
theorem dX12_told_183 : decode cX12_told 183 = .ok (.lreturn, 1) := z_dk tdX12_told_168 9 rfl
theorem dX12_told_184 : decode cX12_told 184 = .ok (.aload_n 0, 1) := z_dk tdX12_told_168 10 rfl
theorem dX12_told_185 : decode cX12_told 185 = .ok (.invokevirtual 381, 3) := z_dk tdX12_told_168 11 rfl
theorem dX12_told_188 : decode cX12_told 188 = .ok (.i2l, 1) := z_dk tdX12_told_168 12 rfl
theorem dX12_told_189 : decode cX12_told 189 = .ok (.lreturn, 1) := z_dk tdX12_told_168 13 rfl
theorem dX12_told_190 : decode cX12_told 190 = .ok (.aload_n 0, 1) := z_dk tdX12_told_168 14 rfl
theorem dX12_told_191 : decode cX12_told 191 = .ok (.getfield 20, 3) := z_dk tdX12_told_168 15 rfl
theorem dX12_told_194 : decode cX12_told 194 = .ok (.iload_n 1, 1) := z_dk tdX12_told_168 16 rfl
theorem dX12_told_195 : decode cX12_told 195 = .ok (.bipush 9, 2) := z_dk tdX12_told_168 17 rfl
theorem dX12_told_197 : decode cX12_told 197 = .ok (.isub, 1) := z_dk tdX12_told_168 18 rfl
theorem dX12_told_198 : decode cX12_told 198 = .ok (.iaload, 1) := z_dk tdX12_told_168 19 rfl
theorem dX12_told_199 : decode cX12_told 199 = .ok (.i2l, 1) := z_dk tdX12_told_168 20 rfl
theorem dX12_told_200 : decode cX12_told 200 = .ok (.lreturn, 1) := z_dk tdX12_told_168 21 rfl
theorem dX12_told_201 : decode cX12_told 201 = .ok (.aload_n 0, 1) := z_dk tdX12_told_168 22 rfl
theorem dX12_told_202 : decode cX12_told 202 = .ok (.getfield 311, 3) := z_dk tdX12_told_168 23 rfl
theorem tdX12_told_205 : (([(205, .i2l, 1), (206, .lreturn, 1), (207, .aload_n 0, 1), (208, .getfield 314, 3), (211, .i2l, 1), (212, .lreturn, 1), (213, .aload_n 0, 1), (214, .getfield 20, 3), (217, .iload_n 1, 1), (218, .bipush 6, 2), (220, .isub, 1), (221, .iaload, 1), (222, .i2l, 1), (223, .lreturn, 1)] : List (Nat × Instr × Nat)).all fun e => decide (decode cX12_told e.1 = .ok e.2)) = true := by decide +kernel
theorem dX12_told_205 : decode cX12_told 205 = .ok (.i2l, 1) := z_dk tdX12_told_205 0 rfl
theorem dX12_told_206 : decode cX12_told 206 = .ok (.lreturn, 1) := z_dk tdX12_told_205 1 rfl
theorem dX12_told_207 : decode cX12_told 207 = .ok (.aload_n 0, 1) := z_dk tdX12_told_205 2 rfl
theorem dX12_told_208 : decode cX12_told 208 = .ok (.getfield 314, 3) := z_dk tdX12_told_205 3 rfl
theorem dX12_told_211 : decode cX12_told 211 = .ok (.i2l, 1) := z_dk tdX12_told_205 4 rfl
theorem dX12_told_212 : decode cX12_told 212 = .ok (.lreturn, 1) := z_dk tdX12_told_205 5 rfl
theorem dX12_told_213 : decode cX12_told 213 = .ok (.aload_n 0, 1) := z_dk tdX12_told_205 6 rfl
theorem dX12_told_214 : decode cX12_told 214 = .ok (.getfield 20, 3) := z_dk tdX12_told_205 7 rfl
theorem dX12_told_217 : decode cX12_told 217 = .ok (.iload_n 1, 1) := z_dk tdX12_told_205 8 rfl
theorem dX12_told_218 : decode cX12_told 218 = .ok (.bipush 6, 2) := z_dk tdX12_told_205 9 rfl
theorem dX12_told_220 : decode cX12_told 220 = .ok (.isub, 1) := z_dk tdX12_told_205 10 rfl
theorem dX12_told_221 : decode cX12_told 221 = .ok (.iaload, 1) := z_dk tdX12_told_205 11 rfl
theorem dX12_told_222 : decode cX12_told 222 = .ok (.i2l, 1) := z_dk tdX12_told_205 12 rfl
theorem dX12_told_223 : decode cX12_told 223 = .ok (.lreturn, 1) := z_dk tdX12_told_205 13 rfl
theorem tdX12_isUnit_0 : (([(0, .iload_n 1, 1), (1, .iconst 0, 1), (2, .aload_n 0, 1), (3, .getfield 242, 3), (6, .iconst 1, 1), (7, .isub, 1), (8, .invokestatic 245, 3), (11, .ireturn, 1)] : List (Nat × Instr × Nat)).all fun e => decide (decode cX12_isUnit e.1 = .ok e.2)) = true := by decide +kernel
theorem dX12_isUnit_0 : decode cX12_isUnit 0 = .ok (.iload_n 1, 1) := z_dk tdX12_isUnit_0 0 rfl
theorem dX12_isUnit_1 : decode cX12_isUnit 1 = .ok (.iconst 0, 1) := z_dk tdX12_isUnit_0 1 rfl
theorem dX12_isUnit_2 : decode cX12_isUnit 2 = .ok (.aload_n 0, 1) := z_dk tdX12_isUnit_0 2 rfl
theorem dX12_isUnit_3 : decode cX12_isUnit 3 = .ok (.getfield 242, 3) := z_dk tdX12_isUnit_0 3 rfl
theorem dX12_isUnit_6 : decode cX12_isUnit 6 = .ok (.iconst 1, 1) := z_dk tdX12_isUnit_0 4 rfl
theorem dX12_isUnit_7 : decode cX12_isUnit 7 = .ok (.isub, 1) := z_dk tdX12_isUnit_0 5 rfl
theorem dX12_isUnit_8 : decode cX12_isUnit 8 = .ok (.invokestatic 245, 3) := z_dk tdX12_isUnit_0 6 rfl
theorem dX12_isUnit_11 : decode cX12_isUnit 11 = .ok (.ireturn, 1) := z_dk tdX12_isUnit_0 7 rfl
theorem tdX12_unit_0 : (([(0, .aload_n 0, 1), (1, .iconst 0, 1), (2, .putfield 170, 3), (5, .aload_n 0, 1), (6, .aload_n 0, 1), (7, .iload_n 1, 1), (8, .invokevirtual 384, 3), (11, .ifCond .ne 7, 3), (14, .iconst 1, 1), (15, .goto 4, 3), (18, .iconst 0, 1), (19, .iconst 1, 1), (20, .iconst 0, 1), (21, .invokevirtual 249, 3), (24, .ifCond .ne 27, 3), (27, .aload_n 0, 1), (28, .iload_n 2, 1), (29, .iconst 0, 1), (30, .bipush 7, 2), (32, .invokestatic 245, 3), (35, .ifCond .ne 7, 3), (38, .iconst 1, 1), (39, .goto 4, 3), (42, .iconst 0, 1)] : List (Nat × Instr × Nat)).all fun e => decide (decode cX12_unit e.1 = .ok e.2)) = true := by decide +kernel
theorem dX12_unit_0 : decode cX12_unit 0 = .ok (.aload_n 0, 1) := z_dk tdX12_unit_0 0 rfl
theorem dX12_unit_1 : decode cX12_unit 1 = .ok (.iconst 0, 1) := z_dk tdX12_unit_0 1 rfl
theorem dX12_unit_2 : decode cX12_unit 2 = .ok (.putfield 170, 3) := z_dk tdX12_unit_0 2 rfl
theorem dX12_unit_5 : decode cX12_unit 5 = .ok (.aload_n 0, 1) := z_dk tdX12_unit_0 3 rfl
theorem dX12_unit_6 : decode cX12_unit 6 = .ok (.aload_n 0, 1) := z_dk tdX12_unit_0 4 rfl
theorem dX12_unit_7 : decode cX12_unit 7 = .ok (.iload_n 1, 1) := z_dk tdX12_unit_0 5 rfl
theorem dX12_unit_8 : decode cX12_unit 8 = .ok (.invokevirtual 384, 3) := z_dk tdX12_unit_0 6 rfl
theorem dX12_unit_11 : decode cX12_unit 11 = .ok (.ifCond .ne 7, 3) := z_dk tdX12_unit_0 7 rfl
theorem dX12_unit_14 : decode cX12_unit 14 = .ok (.iconst 1, 1) := z_dk tdX12_unit_0 8 rfl
theorem dX12_unit_15 : decode cX12_unit 15 = .ok (.goto 4, 3) := z_dk tdX12_unit_0 9 rfl
theorem dX12_unit_18 : decode cX12_unit 18 = .ok (.iconst 0, 1) := z_dk tdX12_unit_0 10 rfl
theorem dX12_unit_19 : decode cX12_unit 19 = .ok (.iconst 1, 1) := z_dk tdX12_unit_0 11 rfl
theorem dX12_unit_20 : decode cX12_unit 20 = .ok (.iconst 0, 1) := z_dk tdX12_unit_0 12 rfl
theorem dX12_unit_21 : decode cX12_unit 21 = .ok (.invokevirtual 249, 3) := z_dk tdX12_unit_0 13 rfl
theorem dX12_unit_24 : decode cX12_unit 24 = .ok (.ifCond .ne 27, 3) := z_dk tdX12_unit_0 14 rfl
theorem dX12_unit_27 : decode cX12_unit 27 = .ok (.aload_n 0, 1) := z_dk tdX12_unit_0 15 rfl
theorem dX12_unit_28 : decode cX12_unit 28 = .ok (.iload_n 2, 1) := z_dk tdX12_unit_0 16 rfl
theorem dX12_unit_29 : decode cX12_unit 29 = .ok (.iconst 0, 1) := z_dk tdX12_unit_0 17 rfl
theorem dX12_unit_30 : decode cX12_unit 30 = .ok (.bipush 7, 2) := z_dk tdX12_unit_0 18 rfl
theorem dX12_unit_32 : decode cX12_unit 32 = .ok (.invokestatic 245, 3) := z_dk tdX12_unit_0 19 rfl
theorem dX12_unit_35 : decode cX12_unit 35 = .ok (.ifCond .ne 7, 3) := z_dk tdX12_unit_0 20 rfl
theorem dX12_unit_38 : decode cX12_unit 38 = .ok (.iconst 1, 1) := z_dk tdX12_unit_0 21 rfl
theorem dX12_unit_39 : decode cX12_unit 39 = .ok (.goto 4, 3) := z_dk tdX12_unit_0 22 rfl
theorem dX12_unit_42 : decode cX12_unit 42 = .ok (.iconst 0, 1) := z_dk tdX12_unit_0 23 rfl
theorem tdX12_unit_43 : (([(43, .iconst 2, 1), (44, .iconst 1, 1), (45, .invokevirtual 249, 3), (48, .ifCond .eq 5, 3), (51, .iconst 0, 1), (52, .ireturn, 1), (53, .aload_n 0, 1), (54, .invokevirtual 371, 3), (57, .iload_n 2, 1), (58, .tableswitch 90 0 6 #[42, 49, 56, 63, 70, 77, 84], 42), (100, .aload_n 0, 1), (101, .getfield 54, 3), (104, .iload_n 1, 1), (105, .iaload, 1), (106, .ireturn, 1), (107, .aload_n 0, 1), (108, .getfield 57, 3), (111, .iload_n 1, 1), (112, .iaload, 1), (113, .ireturn, 1), (114, .aload_n 0, 1), (115, .getfield 60, 3), (118, .iload_n 1, 1), (119, .iaload, 1)] : List (Nat × Instr × Nat)).all fun e => decide (decode cX12_unit e.1 = .ok e.2)) = true := by decide +kernel
theorem dX12_unit_43 : decode cX12_unit 43 = .ok (.iconst 2, 1) := z_dk tdX12_unit_43 0 rfl
theorem dX12_unit_44 : decode cX12_unit 44 = .ok (.iconst 1, 1) := z_dk tdX12_unit_43 1 rfl
theorem dX12_unit_45 : decode cX12_unit 45 = .ok (.invokevirtual 249, 3) := z_dk tdX12_unit_43 2 rfl
theorem dX12_unit_48 : decode cX12_unit 48 = .ok (.ifCond .eq 5, 3) := z_dk tdX12_unit_43 3 rfl
theorem dX12_unit_51 : decode cX12_unit 51 = .ok (.iconst 0, 1) := z_dk tdX12_unit_43 4 rfl
theorem dX12_unit_52 : decode cX12_unit 52 = .ok (.ireturn, 1) := z_dk tdX12_unit_43 5 rfl
theorem dX12_unit_53 : decode cX12_unit 53 = .ok (.aload_n 0, 1) := z_dk tdX12_unit_43 6 rfl
theorem dX12_unit_54 : decode cX12_unit 54 = .ok (.invokevirtual 371, 3) := z_dk tdX12_unit_43 7 rfl
theorem dX12_unit_57 : decode cX12_unit 57 = .ok (.iload_n 2, 1) := z_dk tdX12_unit_43 8 rfl
theorem dX12_unit_58 : decode cX12_unit 58 = .ok (.tableswitch 90 0 6 #[42, 49, 56, 63, 70, 77, 84], 42) := z_dk tdX12_unit_43 9 rfl
theorem dX12_unit_100 : decode cX12_unit 100 = .ok (.aload_n 0, 1) := z_dk tdX12_unit_43 10 rfl
theorem dX12_unit_101 : decode cX12_unit 101 = .ok (.getfield 54, 3) := z_dk tdX12_unit_43 11 rfl
theorem dX12_unit_104 : decode cX12_unit 104 = .ok (.iload_n 1, 1) := z_dk tdX12_unit_43 12 rfl
theorem dX12_unit_105 : decode cX12_unit 105 = .ok (.iaload, 1) := z_dk tdX12_unit_43 13 rfl
theorem dX12_unit_106 : decode cX12_unit 106 = .ok (.ireturn, 1) := z_dk tdX12_unit_43 14 rfl
theorem dX12_unit_107 : decode cX12_unit 107 = .ok (.aload_n 0, 1) := z_dk tdX12_unit_43 15 rfl
theorem dX12_unit_108 : decode cX12_unit 108 = .ok (.getfield 57, 3) := z_dk tdX12_unit_43 16 rfl
theorem dX12_unit_111 : decode cX12_unit 111 = .ok (.iload_n 1, 1) := z_dk tdX12_unit_43 17 rfl
theorem dX12_unit_112 : decode cX12_unit 112 = .ok (.iaload, 1) := z_dk tdX12_unit_43 18 rfl
theorem dX12_unit_113 : decode cX12_unit 113 = .ok (.ireturn, 1) := z_dk tdX12_unit_43 19 rfl
theorem dX12_unit_114 : decode cX12_unit 114 = .ok (.aload_n 0, 1) := z_dk tdX12_unit_43 20 rfl
theorem dX12_unit_115 : decode cX12_unit 115 = .ok (.getfield 60, 3) := z_dk tdX12_unit_43 21 rfl
theorem dX12_unit_118 : decode cX12_unit 118 = .ok (.iload_n 1, 1) := z_dk tdX12_unit_43 22 rfl
theorem dX12_unit_119 : decode cX12_unit 119 = .ok (.iaload, 1) := z_dk tdX12_unit_43 23 rfl
theorem tdX12_unit_120 : (([(120, .ireturn, 1), (121, .aload_n 0, 1), (122, .getfield 131, 3), (125, .iload_n 1, 1), (126, .iaload, 1), (127, .ireturn, 1), (128, .aload_n 0, 1), (129, .getfield 119, 3), (132, .iload_n 1, 1), (133, .iaload, 1), (134, .ireturn, 1), (135, .aload_n 0, 1), (136, .getfield 122, 3), (139, .iload_n 1, 1), (140, .iaload, 1), (141, .ireturn, 1), (142, .aload_n 0, 1), (143, .iload_n 1, 1), (144, .invokevirtual 288, 3), (147, .ireturn, 1), (148, .aload_n 0, 1), (149, .getfield 128, 3), (152, .iload_n 1, 1), (153, .iaload, 1)] : List (Nat × Instr × Nat)).all fun e => decide (decode cX12_unit e.1 = .ok e.2)) = true := by decide +kernel
theorem dX12_unit_120 : decode cX12_unit 120 = .ok (.ireturn, 1) := z_dk tdX12_unit_120 0 rfl
theorem dX12_unit_121 : decode cX12_unit 121 = .ok (.aload_n 0, 1) := z_dk tdX12_unit_120 1 rfl
theorem dX12_unit_122 : decode cX12_unit 122 = .ok (.getfield 131, 3) := z_dk tdX12_unit_120 2 rfl
theorem dX12_unit_125 : decode cX12_unit 125 = .ok (.iload_n 1, 1) := z_dk tdX12_unit_120 3 rfl
theorem dX12_unit_126 : decode cX12_unit 126 = .ok (.iaload, 1) := z_dk tdX12_unit_120 4 rfl
theorem dX12_unit_127 : decode cX12_unit 127 = .ok (.ireturn, 1) := z_dk tdX12_unit_120 5 rfl
theorem dX12_unit_128 : decode cX12_unit 128 = .ok (.aload_n 0, 1) := z_dk tdX12_unit_120 6 rfl
theorem dX12_unit_129 : decode cX12_unit 129 = .ok (.getfield 119, 3) := z_dk tdX12_unit_120 7 rfl
theorem dX12_unit_132 : decode cX12_unit 132 = .ok (.iload_n 1, 1) := z_dk tdX12_unit_120 8 rfl
theorem dX12_unit_133 : decode cX12_unit 133 = .ok (.iaload, 1) := z_dk tdX12_unit_120 9 rfl
theorem dX12_unit_134 : decode cX12_unit 134 = .ok (.ireturn, 1) := z_dk tdX12_unit_120 10 rfl
theorem dX12_unit_135 : decode cX12_unit 135 = .ok (.aload_n 0, 1) := z_dk tdX12_unit_120 11 rfl
theorem dX12_unit_136 : decode cX12_unit 136 = .ok (.getfield 122, 3) := z_dk tdX12_unit_120 12 rfl
theorem dX12_unit_139 : decode cX12_unit 139 = .ok (.iload_n 1, 1) := z_dk tdX12_unit_120 13 rfl
theorem dX12_unit_140 : decode cX12_unit 140 = .ok (.iaload, 1) := z_dk tdX12_unit_120 14 rfl
theorem dX12_unit_141 : decode cX12_unit 141 = .ok (.ireturn, 1) := z_dk tdX12_unit_120 15 rfl
theorem dX12_unit_142 : decode cX12_unit 142 = .ok (.aload_n 0, 1) := z_dk tdX12_unit_120 16 rfl
theorem dX12_unit_143 : decode cX12_unit 143 = .ok (.iload_n 1, 1) := z_dk tdX12_unit_120 17 rfl
theorem dX12_unit_144 : decode cX12_unit 144 = .ok (.invokevirtual 288, 3) := z_dk tdX12_unit_120 18 rfl
theorem dX12_unit_147 : decode cX12_unit 147 = .ok (.ireturn, 1) := z_dk tdX12_unit_120 19 rfl
theorem dX12_unit_148 : decode cX12_unit 148 = .ok (.aload_n 0, 1) := z_dk tdX12_unit_120 20 rfl
theorem dX12_unit_149 : decode cX12_unit 149 = .ok (.getfield 128, 3) := z_dk tdX12_unit_120 21 rfl
theorem dX12_unit_152 : decode cX12_unit 152 = .ok (.iload_n 1, 1) := z_dk tdX12_unit_120 22 rfl
theorem dX12_unit_153 : decode cX12_unit 153 = .ok (.iaload, 1) := z_dk tdX12_unit_120 23 rfl
theorem tdX12_unit_154 : (([(154, .ireturn, 1)] : List (Nat × Instr × Nat)).all fun e => decide (decode cX12_unit e.1 = .ok e.2)) = true := by decide +kernel
theorem dX12_unit_154 : decode cX12_unit 154 = .ok (.ireturn, 1) := z_dk tdX12_unit_154 0 rfl
theorem tdX12_marksOf_0 : (([(0, .aload_n 0, 1), (1, .getfield 43, 3), (4, .iconst 0, 1), (5, .aaload, 1), (6, .iload_n 1, 1), (7, .iaload, 1), (8, .istore_n 2, 1), (9, .iload_n 2, 1), (10, .istore_n 3, 1), (11, .aload_n 0, 1), (12, .getfield 37, 3), (15, .iconst 0, 1), (16, .aaload, 1), (17, .iload_n 1, 1), (18, .iaload, 1), (19, .bipush 7, 2), (21, .if_icmp .eq 5, 3), (24, .iload_n 2, 1), (25, .ireturn, 1), (26, .aload_n 0, 1), (27, .getfield 51, 3), (30, .iconst 0, 1), (31, .aaload, 1), (32, .aload_n 0, 1)] : List (Nat × Instr × Nat)).all fun e => decide (decode cX12_marksOf e.1 = .ok e.2)) = true := by decide +kernel
theorem dX12_marksOf_0 : decode cX12_marksOf 0 = .ok (.aload_n 0, 1) := z_dk tdX12_marksOf_0 0 rfl
theorem dX12_marksOf_1 : decode cX12_marksOf 1 = .ok (.getfield 43, 3) := z_dk tdX12_marksOf_0 1 rfl
theorem dX12_marksOf_4 : decode cX12_marksOf 4 = .ok (.iconst 0, 1) := z_dk tdX12_marksOf_0 2 rfl
theorem dX12_marksOf_5 : decode cX12_marksOf 5 = .ok (.aaload, 1) := z_dk tdX12_marksOf_0 3 rfl
theorem dX12_marksOf_6 : decode cX12_marksOf 6 = .ok (.iload_n 1, 1) := z_dk tdX12_marksOf_0 4 rfl
theorem dX12_marksOf_7 : decode cX12_marksOf 7 = .ok (.iaload, 1) := z_dk tdX12_marksOf_0 5 rfl
theorem dX12_marksOf_8 : decode cX12_marksOf 8 = .ok (.istore_n 2, 1) := z_dk tdX12_marksOf_0 6 rfl
theorem dX12_marksOf_9 : decode cX12_marksOf 9 = .ok (.iload_n 2, 1) := z_dk tdX12_marksOf_0 7 rfl
theorem dX12_marksOf_10 : decode cX12_marksOf 10 = .ok (.istore_n 3, 1) := z_dk tdX12_marksOf_0 8 rfl
theorem dX12_marksOf_11 : decode cX12_marksOf 11 = .ok (.aload_n 0, 1) := z_dk tdX12_marksOf_0 9 rfl
theorem dX12_marksOf_12 : decode cX12_marksOf 12 = .ok (.getfield 37, 3) := z_dk tdX12_marksOf_0 10 rfl
theorem dX12_marksOf_15 : decode cX12_marksOf 15 = .ok (.iconst 0, 1) := z_dk tdX12_marksOf_0 11 rfl
theorem dX12_marksOf_16 : decode cX12_marksOf 16 = .ok (.aaload, 1) := z_dk tdX12_marksOf_0 12 rfl
theorem dX12_marksOf_17 : decode cX12_marksOf 17 = .ok (.iload_n 1, 1) := z_dk tdX12_marksOf_0 13 rfl
theorem dX12_marksOf_18 : decode cX12_marksOf 18 = .ok (.iaload, 1) := z_dk tdX12_marksOf_0 14 rfl
theorem dX12_marksOf_19 : decode cX12_marksOf 19 = .ok (.bipush 7, 2) := z_dk tdX12_marksOf_0 15 rfl
theorem dX12_marksOf_21 : decode cX12_marksOf 21 = .ok (.if_icmp .eq 5, 3) := z_dk tdX12_marksOf_0 16 rfl
theorem dX12_marksOf_24 : decode cX12_marksOf 24 = .ok (.iload_n 2, 1) := z_dk tdX12_marksOf_0 17 rfl
theorem dX12_marksOf_25 : decode cX12_marksOf 25 = .ok (.ireturn, 1) := z_dk tdX12_marksOf_0 18 rfl
theorem dX12_marksOf_26 : decode cX12_marksOf 26 = .ok (.aload_n 0, 1) := z_dk tdX12_marksOf_0 19 rfl
theorem dX12_marksOf_27 : decode cX12_marksOf 27 = .ok (.getfield 51, 3) := z_dk tdX12_marksOf_0 20 rfl
theorem dX12_marksOf_30 : decode cX12_marksOf 30 = .ok (.iconst 0, 1) := z_dk tdX12_marksOf_0 21 rfl
theorem dX12_marksOf_31 : decode cX12_marksOf 31 = .ok (.aaload, 1) := z_dk tdX12_marksOf_0 22 rfl
theorem dX12_marksOf_32 : decode cX12_marksOf 32 = .ok (.aload_n 0, 1) := z_dk tdX12_marksOf_0 23 rfl
theorem tdX12_marksOf_33 : (([(33, .getfield 40, 3), (36, .iconst 0, 1), (37, .aaload, 1), (38, .iload_n 1, 1), (39, .iaload, 1), (40, .aaload, 1), (41, .astore 4, 2), (43, .iconst 0, 1), (44, .istore 5, 2), (46, .iload 5, 2), (48, .iconst 2, 1), (49, .if_icmp .ge 74, 3), (52, .iconst 1, 1), (53, .iload 5, 2), (55, .ishl, 1), (56, .istore 6, 2), (58, .iconst 3, 1), (59, .iload 6, 2), (61, .isub, 1), (62, .istore 7, 2), (64, .iload_n 2, 1), (65, .iload 6, 2), (67, .iand, 1), (68, .ifCond .eq 49, 3)] : List (Nat × Instr × Nat)).all fun e => decide (decode cX12_marksOf e.1 = .ok e.2)) = true := by decide +kernel
theorem dX12_marksOf_33 : decode cX12_marksOf 33 = .ok (.getfield 40, 3) := z_dk tdX12_marksOf_33 0 rfl
theorem dX12_marksOf_36 : decode cX12_marksOf 36 = .ok (.iconst 0, 1) := z_dk tdX12_marksOf_33 1 rfl
theorem dX12_marksOf_37 : decode cX12_marksOf 37 = .ok (.aaload, 1) := z_dk tdX12_marksOf_33 2 rfl
theorem dX12_marksOf_38 : decode cX12_marksOf 38 = .ok (.iload_n 1, 1) := z_dk tdX12_marksOf_33 3 rfl
theorem dX12_marksOf_39 : decode cX12_marksOf 39 = .ok (.iaload, 1) := z_dk tdX12_marksOf_33 4 rfl
theorem dX12_marksOf_40 : decode cX12_marksOf 40 = .ok (.aaload, 1) := z_dk tdX12_marksOf_33 5 rfl
theorem dX12_marksOf_41 : decode cX12_marksOf 41 = .ok (.astore 4, 2) := z_dk tdX12_marksOf_33 6 rfl
theorem dX12_marksOf_43 : decode cX12_marksOf 43 = .ok (.iconst 0, 1) := z_dk tdX12_marksOf_33 7 rfl
theorem dX12_marksOf_44 : decode cX12_marksOf 44 = .ok (.istore 5, 2) := z_dk tdX12_marksOf_33 8 rfl
theorem dX12_marksOf_46 : decode cX12_marksOf 46 = .ok (.iload 5, 2) := z_dk tdX12_marksOf_33 9 rfl
theorem dX12_marksOf_48 : decode cX12_marksOf 48 = .ok (.iconst 2, 1) := z_dk tdX12_marksOf_33 10 rfl
theorem dX12_marksOf_49 : decode cX12_marksOf 49 = .ok (.if_icmp .ge 74, 3) := z_dk tdX12_marksOf_33 11 rfl
theorem dX12_marksOf_52 : decode cX12_marksOf 52 = .ok (.iconst 1, 1) := z_dk tdX12_marksOf_33 12 rfl
theorem dX12_marksOf_53 : decode cX12_marksOf 53 = .ok (.iload 5, 2) := z_dk tdX12_marksOf_33 13 rfl
theorem dX12_marksOf_55 : decode cX12_marksOf 55 = .ok (.ishl, 1) := z_dk tdX12_marksOf_33 14 rfl
theorem dX12_marksOf_56 : decode cX12_marksOf 56 = .ok (.istore 6, 2) := z_dk tdX12_marksOf_33 15 rfl
theorem dX12_marksOf_58 : decode cX12_marksOf 58 = .ok (.iconst 3, 1) := z_dk tdX12_marksOf_33 16 rfl
theorem dX12_marksOf_59 : decode cX12_marksOf 59 = .ok (.iload 6, 2) := z_dk tdX12_marksOf_33 17 rfl
theorem dX12_marksOf_61 : decode cX12_marksOf 61 = .ok (.isub, 1) := z_dk tdX12_marksOf_33 18 rfl
theorem dX12_marksOf_62 : decode cX12_marksOf 62 = .ok (.istore 7, 2) := z_dk tdX12_marksOf_33 19 rfl
theorem dX12_marksOf_64 : decode cX12_marksOf 64 = .ok (.iload_n 2, 1) := z_dk tdX12_marksOf_33 20 rfl
theorem dX12_marksOf_65 : decode cX12_marksOf 65 = .ok (.iload 6, 2) := z_dk tdX12_marksOf_33 21 rfl
theorem dX12_marksOf_67 : decode cX12_marksOf 67 = .ok (.iand, 1) := z_dk tdX12_marksOf_33 22 rfl
theorem dX12_marksOf_68 : decode cX12_marksOf 68 = .ok (.ifCond .eq 49, 3) := z_dk tdX12_marksOf_33 23 rfl
theorem tdX12_marksOf_71 : (([(71, .aload 4, 2), (73, .bipush 10, 2), (75, .iload 5, 2), (77, .imul, 1), (78, .iaload, 1), (79, .ifCond .ne 6, 3), (82, .goto 35, 3), (85, .iload_n 3, 1), (86, .iload 6, 2), (88, .iconst (-1), 1), (89, .ixor, 1), (90, .iand, 1), (91, .istore_n 3, 1), (92, .aload 4, 2), (94, .bipush 10, 2), (96, .iconst 1, 1), (97, .iload 5, 2), (99, .isub, 1), (100, .imul, 1), (101, .iaload, 1), (102, .ifCond .ne 15, 3), (105, .iload_n 2, 1), (106, .iload 7, 2), (108, .iand, 1)] : List (Nat × Instr × Nat)).all fun e => decide (decode cX12_marksOf e.1 = .ok e.2)) = true := by decide +kernel
theorem dX12_marksOf_71 : decode cX12_marksOf 71 = .ok (.aload 4, 2) := z_dk tdX12_marksOf_71 0 rfl
theorem dX12_marksOf_73 : decode cX12_marksOf 73 = .ok (.bipush 10, 2) := z_dk tdX12_marksOf_71 1 rfl
theorem dX12_marksOf_75 : decode cX12_marksOf 75 = .ok (.iload 5, 2) := z_dk tdX12_marksOf_71 2 rfl
theorem dX12_marksOf_77 : decode cX12_marksOf 77 = .ok (.imul, 1) := z_dk tdX12_marksOf_71 3 rfl
theorem dX12_marksOf_78 : decode cX12_marksOf 78 = .ok (.iaload, 1) := z_dk tdX12_marksOf_71 4 rfl
theorem dX12_marksOf_79 : decode cX12_marksOf 79 = .ok (.ifCond .ne 6, 3) := z_dk tdX12_marksOf_71 5 rfl
theorem dX12_marksOf_82 : decode cX12_marksOf 82 = .ok (.goto 35, 3) := z_dk tdX12_marksOf_71 6 rfl
theorem dX12_marksOf_85 : decode cX12_marksOf 85 = .ok (.iload_n 3, 1) := z_dk tdX12_marksOf_71 7 rfl
theorem dX12_marksOf_86 : decode cX12_marksOf 86 = .ok (.iload 6, 2) := z_dk tdX12_marksOf_71 8 rfl
theorem dX12_marksOf_88 : decode cX12_marksOf 88 = .ok (.iconst (-1), 1) := z_dk tdX12_marksOf_71 9 rfl
theorem dX12_marksOf_89 : decode cX12_marksOf 89 = .ok (.ixor, 1) := z_dk tdX12_marksOf_71 10 rfl
theorem dX12_marksOf_90 : decode cX12_marksOf 90 = .ok (.iand, 1) := z_dk tdX12_marksOf_71 11 rfl
theorem dX12_marksOf_91 : decode cX12_marksOf 91 = .ok (.istore_n 3, 1) := z_dk tdX12_marksOf_71 12 rfl
theorem dX12_marksOf_92 : decode cX12_marksOf 92 = .ok (.aload 4, 2) := z_dk tdX12_marksOf_71 13 rfl
theorem dX12_marksOf_94 : decode cX12_marksOf 94 = .ok (.bipush 10, 2) := z_dk tdX12_marksOf_71 14 rfl
theorem dX12_marksOf_96 : decode cX12_marksOf 96 = .ok (.iconst 1, 1) := z_dk tdX12_marksOf_71 15 rfl
theorem dX12_marksOf_97 : decode cX12_marksOf 97 = .ok (.iload 5, 2) := z_dk tdX12_marksOf_71 16 rfl
theorem dX12_marksOf_99 : decode cX12_marksOf 99 = .ok (.isub, 1) := z_dk tdX12_marksOf_71 17 rfl
theorem dX12_marksOf_100 : decode cX12_marksOf 100 = .ok (.imul, 1) := z_dk tdX12_marksOf_71 18 rfl
theorem dX12_marksOf_101 : decode cX12_marksOf 101 = .ok (.iaload, 1) := z_dk tdX12_marksOf_71 19 rfl
theorem dX12_marksOf_102 : decode cX12_marksOf 102 = .ok (.ifCond .ne 15, 3) := z_dk tdX12_marksOf_71 20 rfl
theorem dX12_marksOf_105 : decode cX12_marksOf 105 = .ok (.iload_n 2, 1) := z_dk tdX12_marksOf_71 21 rfl
theorem dX12_marksOf_106 : decode cX12_marksOf 106 = .ok (.iload 7, 2) := z_dk tdX12_marksOf_71 22 rfl
theorem dX12_marksOf_108 : decode cX12_marksOf 108 = .ok (.iand, 1) := z_dk tdX12_marksOf_71 23 rfl
theorem tdX12_marksOf_109 : (([(109, .ifCond .ne 8, 3), (112, .iload_n 3, 1), (113, .iload 7, 2), (115, .ior, 1), (116, .istore_n 3, 1), (117, .iinc 5 1, 3), (120, .goto (-74), 3), (123, .iload_n 3, 1), (124, .ireturn, 1)] : List (Nat × Instr × Nat)).all fun e => decide (decode cX12_marksOf e.1 = .ok e.2)) = true := by decide +kernel
theorem dX12_marksOf_109 : decode cX12_marksOf 109 = .ok (.ifCond .ne 8, 3) := z_dk tdX12_marksOf_109 0 rfl
theorem dX12_marksOf_112 : decode cX12_marksOf 112 = .ok (.iload_n 3, 1) := z_dk tdX12_marksOf_109 1 rfl
theorem dX12_marksOf_113 : decode cX12_marksOf 113 = .ok (.iload 7, 2) := z_dk tdX12_marksOf_109 2 rfl
theorem dX12_marksOf_115 : decode cX12_marksOf 115 = .ok (.ior, 1) := z_dk tdX12_marksOf_109 3 rfl
theorem dX12_marksOf_116 : decode cX12_marksOf 116 = .ok (.istore_n 3, 1) := z_dk tdX12_marksOf_109 4 rfl
theorem dX12_marksOf_117 : decode cX12_marksOf 117 = .ok (.iinc 5 1, 3) := z_dk tdX12_marksOf_109 5 rfl
theorem dX12_marksOf_120 : decode cX12_marksOf 120 = .ok (.goto (-74), 3) := z_dk tdX12_marksOf_109 6 rfl
theorem dX12_marksOf_123 : decode cX12_marksOf 123 = .ok (.iload_n 3, 1) := z_dk tdX12_marksOf_109 7 rfl
theorem dX12_marksOf_124 : decode cX12_marksOf 124 = .ok (.ireturn, 1) := z_dk tdX12_marksOf_109 8 rfl
theorem tdX12_sign_0 : (([(0, .aload_n 0, 1), (1, .iconst 0, 1), (2, .putfield 170, 3), (5, .aload_n 0, 1), (6, .iload_n 1, 1), (7, .iconst 0, 1), (8, .aload_n 0, 1), (9, .getfield 31, 3), (12, .iconst 0, 1), (13, .aaload, 1), (14, .iconst 0, 1), (15, .iaload, 1), (16, .iconst 1, 1), (17, .isub, 1), (18, .invokestatic 245, 3), (21, .ifCond .ne 7, 3), (24, .iconst 1, 1), (25, .goto 4, 3), (28, .iconst 0, 1), (29, .iconst 1, 1), (30, .iconst 0, 1), (31, .invokevirtual 249, 3), (34, .ifCond .ne 27, 3), (37, .aload_n 0, 1)] : List (Nat × Instr × Nat)).all fun e => decide (decode cX12_sign e.1 = .ok e.2)) = true := by decide +kernel
theorem dX12_sign_0 : decode cX12_sign 0 = .ok (.aload_n 0, 1) := z_dk tdX12_sign_0 0 rfl
theorem dX12_sign_1 : decode cX12_sign 1 = .ok (.iconst 0, 1) := z_dk tdX12_sign_0 1 rfl
theorem dX12_sign_2 : decode cX12_sign 2 = .ok (.putfield 170, 3) := z_dk tdX12_sign_0 2 rfl
theorem dX12_sign_5 : decode cX12_sign 5 = .ok (.aload_n 0, 1) := z_dk tdX12_sign_0 3 rfl
theorem dX12_sign_6 : decode cX12_sign 6 = .ok (.iload_n 1, 1) := z_dk tdX12_sign_0 4 rfl
theorem dX12_sign_7 : decode cX12_sign 7 = .ok (.iconst 0, 1) := z_dk tdX12_sign_0 5 rfl
theorem dX12_sign_8 : decode cX12_sign 8 = .ok (.aload_n 0, 1) := z_dk tdX12_sign_0 6 rfl
theorem dX12_sign_9 : decode cX12_sign 9 = .ok (.getfield 31, 3) := z_dk tdX12_sign_0 7 rfl
theorem dX12_sign_12 : decode cX12_sign 12 = .ok (.iconst 0, 1) := z_dk tdX12_sign_0 8 rfl
theorem dX12_sign_13 : decode cX12_sign 13 = .ok (.aaload, 1) := z_dk tdX12_sign_0 9 rfl
theorem dX12_sign_14 : decode cX12_sign 14 = .ok (.iconst 0, 1) := z_dk tdX12_sign_0 10 rfl
theorem dX12_sign_15 : decode cX12_sign 15 = .ok (.iaload, 1) := z_dk tdX12_sign_0 11 rfl
theorem dX12_sign_16 : decode cX12_sign 16 = .ok (.iconst 1, 1) := z_dk tdX12_sign_0 12 rfl
theorem dX12_sign_17 : decode cX12_sign 17 = .ok (.isub, 1) := z_dk tdX12_sign_0 13 rfl
theorem dX12_sign_18 : decode cX12_sign 18 = .ok (.invokestatic 245, 3) := z_dk tdX12_sign_0 14 rfl
theorem dX12_sign_21 : decode cX12_sign 21 = .ok (.ifCond .ne 7, 3) := z_dk tdX12_sign_0 15 rfl
theorem dX12_sign_24 : decode cX12_sign 24 = .ok (.iconst 1, 1) := z_dk tdX12_sign_0 16 rfl
theorem dX12_sign_25 : decode cX12_sign 25 = .ok (.goto 4, 3) := z_dk tdX12_sign_0 17 rfl
theorem dX12_sign_28 : decode cX12_sign 28 = .ok (.iconst 0, 1) := z_dk tdX12_sign_0 18 rfl
theorem dX12_sign_29 : decode cX12_sign 29 = .ok (.iconst 1, 1) := z_dk tdX12_sign_0 19 rfl
theorem dX12_sign_30 : decode cX12_sign 30 = .ok (.iconst 0, 1) := z_dk tdX12_sign_0 20 rfl
theorem dX12_sign_31 : decode cX12_sign 31 = .ok (.invokevirtual 249, 3) := z_dk tdX12_sign_0 21 rfl
theorem dX12_sign_34 : decode cX12_sign 34 = .ok (.ifCond .ne 27, 3) := z_dk tdX12_sign_0 22 rfl
theorem dX12_sign_37 : decode cX12_sign 37 = .ok (.aload_n 0, 1) := z_dk tdX12_sign_0 23 rfl
theorem tdX12_sign_38 : (([(38, .iload_n 2, 1), (39, .iconst 0, 1), (40, .bipush 6, 2), (42, .invokestatic 245, 3), (45, .ifCond .ne 7, 3), (48, .iconst 1, 1), (49, .goto 4, 3), (52, .iconst 0, 1), (53, .iconst 2, 1), (54, .iconst 1, 1), (55, .invokevirtual 249, 3), (58, .ifCond .eq 5, 3), (61, .iconst 0, 1), (62, .ireturn, 1), (63, .aload_n 0, 1), (64, .invokevirtual 371, 3), (67, .iload_n 2, 1), (68, .tableswitch 85 0 4 #[36, 45, 52, 64, 71], 36), (104, .aload_n 0, 1), (105, .getfield 34, 3), (108, .iconst 0, 1), (109, .aaload, 1), (110, .iload_n 1, 1), (111, .iaload, 1)] : List (Nat × Instr × Nat)).all fun e => decide (decode cX12_sign e.1 = .ok e.2)) = true := by decide +kernel
theorem dX12_sign_38 : decode cX12_sign 38 = .ok (.iload_n 2, 1) := z_dk tdX12_sign_38 0 rfl
theorem dX12_sign_39 : decode cX12_sign 39 = .ok (.iconst 0, 1) := z_dk tdX12_sign_38 1 rfl
theorem dX12_sign_40 : decode cX12_sign 40 = .ok (.bipush 6, 2) := z_dk tdX12_sign_38 2 rfl
theorem dX12_sign_42 : decode cX12_sign 42 = .ok (.invokestatic 245, 3) := z_dk tdX12_sign_38 3 rfl
theorem dX12_sign_45 : decode cX12_sign 45 = .ok (.ifCond .ne 7, 3) := z_dk tdX12_sign_38 4 rfl
theorem dX12_sign_48 : decode cX12_sign 48 = .ok (.iconst 1, 1) := z_dk tdX12_sign_38 5 rfl
theorem dX12_sign_49 : decode cX12_sign 49 = .ok (.goto 4, 3) := z_dk tdX12_sign_38 6 rfl
theorem dX12_sign_52 : decode cX12_sign 52 = .ok (.iconst 0, 1) := z_dk tdX12_sign_38 7 rfl
theorem dX12_sign_53 : decode cX12_sign 53 = .ok (.iconst 2, 1) := z_dk tdX12_sign_38 8 rfl
theorem dX12_sign_54 : decode cX12_sign 54 = .ok (.iconst 1, 1) := z_dk tdX12_sign_38 9 rfl
theorem dX12_sign_55 : decode cX12_sign 55 = .ok (.invokevirtual 249, 3) := z_dk tdX12_sign_38 10 rfl
theorem dX12_sign_58 : decode cX12_sign 58 = .ok (.ifCond .eq 5, 3) := z_dk tdX12_sign_38 11 rfl
theorem dX12_sign_61 : decode cX12_sign 61 = .ok (.iconst 0, 1) := z_dk tdX12_sign_38 12 rfl
theorem dX12_sign_62 : decode cX12_sign 62 = .ok (.ireturn, 1) := z_dk tdX12_sign_38 13 rfl
theorem dX12_sign_63 : decode cX12_sign 63 = .ok (.aload_n 0, 1) := z_dk tdX12_sign_38 14 rfl
theorem dX12_sign_64 : decode cX12_sign 64 = .ok (.invokevirtual 371, 3) := z_dk tdX12_sign_38 15 rfl
theorem dX12_sign_67 : decode cX12_sign 67 = .ok (.iload_n 2, 1) := z_dk tdX12_sign_38 16 rfl
theorem dX12_sign_68 : decode cX12_sign 68 = .ok (.tableswitch 85 0 4 #[36, 45, 52, 64, 71], 36) := z_dk tdX12_sign_38 17 rfl
theorem dX12_sign_104 : decode cX12_sign 104 = .ok (.aload_n 0, 1) := z_dk tdX12_sign_38 18 rfl
theorem dX12_sign_105 : decode cX12_sign 105 = .ok (.getfield 34, 3) := z_dk tdX12_sign_38 19 rfl
theorem dX12_sign_108 : decode cX12_sign 108 = .ok (.iconst 0, 1) := z_dk tdX12_sign_38 20 rfl
theorem dX12_sign_109 : decode cX12_sign 109 = .ok (.aaload, 1) := z_dk tdX12_sign_38 21 rfl
theorem dX12_sign_110 : decode cX12_sign 110 = .ok (.iload_n 1, 1) := z_dk tdX12_sign_38 22 rfl
theorem dX12_sign_111 : decode cX12_sign 111 = .ok (.iaload, 1) := z_dk tdX12_sign_38 23 rfl
theorem tdX12_sign_112 : (([(112, .ireturn, 1), (113, .aload_n 0, 1), (114, .getfield 63, 3), (117, .iload_n 1, 1), (118, .iaload, 1), (119, .ireturn, 1), (120, .aload_n 0, 1), (121, .getfield 119, 3), (124, .aload_n 0, 1), (125, .getfield 63, 3), (128, .iload_n 1, 1), (129, .iaload, 1), (130, .iaload, 1), (131, .ireturn, 1), (132, .aload_n 0, 1), (133, .getfield 125, 3), (136, .iload_n 1, 1), (137, .iaload, 1), (138, .ireturn, 1), (139, .aload_n 0, 1), (140, .iload_n 1, 1), (141, .invokevirtual 387, 3), (144, .ifCond .eq 7, 3), (147, .iconst 1, 1)] : List (Nat × Instr × Nat)).all fun e => decide (decode cX12_sign e.1 = .ok e.2)) = true := by decide +kernel
theorem dX12_sign_112 : decode cX12_sign 112 = .ok (.ireturn, 1) := z_dk tdX12_sign_112 0 rfl
theorem dX12_sign_113 : decode cX12_sign 113 = .ok (.aload_n 0, 1) := z_dk tdX12_sign_112 1 rfl
theorem dX12_sign_114 : decode cX12_sign 114 = .ok (.getfield 63, 3) := z_dk tdX12_sign_112 2 rfl
theorem dX12_sign_117 : decode cX12_sign 117 = .ok (.iload_n 1, 1) := z_dk tdX12_sign_112 3 rfl
theorem dX12_sign_118 : decode cX12_sign 118 = .ok (.iaload, 1) := z_dk tdX12_sign_112 4 rfl
theorem dX12_sign_119 : decode cX12_sign 119 = .ok (.ireturn, 1) := z_dk tdX12_sign_112 5 rfl
theorem dX12_sign_120 : decode cX12_sign 120 = .ok (.aload_n 0, 1) := z_dk tdX12_sign_112 6 rfl
theorem dX12_sign_121 : decode cX12_sign 121 = .ok (.getfield 119, 3) := z_dk tdX12_sign_112 7 rfl
theorem dX12_sign_124 : decode cX12_sign 124 = .ok (.aload_n 0, 1) := z_dk tdX12_sign_112 8 rfl
theorem dX12_sign_125 : decode cX12_sign 125 = .ok (.getfield 63, 3) := z_dk tdX12_sign_112 9 rfl
theorem dX12_sign_128 : decode cX12_sign 128 = .ok (.iload_n 1, 1) := z_dk tdX12_sign_112 10 rfl
theorem dX12_sign_129 : decode cX12_sign 129 = .ok (.iaload, 1) := z_dk tdX12_sign_112 11 rfl
theorem dX12_sign_130 : decode cX12_sign 130 = .ok (.iaload, 1) := z_dk tdX12_sign_112 12 rfl
theorem dX12_sign_131 : decode cX12_sign 131 = .ok (.ireturn, 1) := z_dk tdX12_sign_112 13 rfl
theorem dX12_sign_132 : decode cX12_sign 132 = .ok (.aload_n 0, 1) := z_dk tdX12_sign_112 14 rfl
theorem dX12_sign_133 : decode cX12_sign 133 = .ok (.getfield 125, 3) := z_dk tdX12_sign_112 15 rfl
theorem dX12_sign_136 : decode cX12_sign 136 = .ok (.iload_n 1, 1) := z_dk tdX12_sign_112 16 rfl
theorem dX12_sign_137 : decode cX12_sign 137 = .ok (.iaload, 1) := z_dk tdX12_sign_112 17 rfl
theorem dX12_sign_138 : decode cX12_sign 138 = .ok (.ireturn, 1) := z_dk tdX12_sign_112 18 rfl
theorem dX12_sign_139 : decode cX12_sign 139 = .ok (.aload_n 0, 1) := z_dk tdX12_sign_112 19 rfl
theorem dX12_sign_140 : decode cX12_sign 140 = .ok (.iload_n 1, 1) := z_dk tdX12_sign_112 20 rfl
theorem dX12_sign_141 : decode cX12_sign 141 = .ok (.invokevirtual 387, 3) := z_dk tdX12_sign_112 21 rfl
theorem dX12_sign_144 : decode cX12_sign 144 = .ok (.ifCond .eq 7, 3) := z_dk tdX12_sign_112 22 rfl
theorem dX12_sign_147 : decode cX12_sign 147 = .ok (.iconst 1, 1) := z_dk tdX12_sign_112 23 rfl
theorem tdX12_sign_148 : (([(148, .goto 4, 3), (151, .iconst 0, 1), (152, .ireturn, 1), (153, .aload_n 0, 1), (154, .iload_n 1, 1), (155, .invokevirtual 390, 3), (158, .iload_n 2, 1), (159, .iconst 5, 1), (160, .isub, 1), (161, .ishr, 1), (162, .iconst 1, 1), (163, .iand, 1), (164, .ireturn, 1)] : List (Nat × Instr × Nat)).all fun e => decide (decode cX12_sign e.1 = .ok e.2)) = true := by decide +kernel
theorem dX12_sign_148 : decode cX12_sign 148 = .ok (.goto 4, 3) := z_dk tdX12_sign_148 0 rfl
theorem dX12_sign_151 : decode cX12_sign 151 = .ok (.iconst 0, 1) := z_dk tdX12_sign_148 1 rfl
theorem dX12_sign_152 : decode cX12_sign 152 = .ok (.ireturn, 1) := z_dk tdX12_sign_148 2 rfl
theorem dX12_sign_153 : decode cX12_sign 153 = .ok (.aload_n 0, 1) := z_dk tdX12_sign_148 3 rfl
theorem dX12_sign_154 : decode cX12_sign 154 = .ok (.iload_n 1, 1) := z_dk tdX12_sign_148 4 rfl
theorem dX12_sign_155 : decode cX12_sign 155 = .ok (.invokevirtual 390, 3) := z_dk tdX12_sign_148 5 rfl
theorem dX12_sign_158 : decode cX12_sign 158 = .ok (.iload_n 2, 1) := z_dk tdX12_sign_148 6 rfl
theorem dX12_sign_159 : decode cX12_sign 159 = .ok (.iconst 5, 1) := z_dk tdX12_sign_148 7 rfl
theorem dX12_sign_160 : decode cX12_sign 160 = .ok (.isub, 1) := z_dk tdX12_sign_148 8 rfl
theorem dX12_sign_161 : decode cX12_sign 161 = .ok (.ishr, 1) := z_dk tdX12_sign_148 9 rfl
theorem dX12_sign_162 : decode cX12_sign 162 = .ok (.iconst 1, 1) := z_dk tdX12_sign_148 10 rfl
theorem dX12_sign_163 : decode cX12_sign 163 = .ok (.iand, 1) := z_dk tdX12_sign_148 11 rfl
theorem dX12_sign_164 : decode cX12_sign 164 = .ok (.ireturn, 1) := z_dk tdX12_sign_148 12 rfl
theorem tdX12_marks_0 : (([(0, .aload_n 0, 1), (1, .iconst 0, 1), (2, .putfield 170, 3), (5, .aload_n 0, 1), (6, .iload_n 1, 1), (7, .iconst 0, 1), (8, .iconst 1, 1), (9, .invokestatic 245, 3), (12, .ifCond .ne 7, 3), (15, .iconst 1, 1), (16, .goto 4, 3), (19, .iconst 0, 1), (20, .iconst 1, 1), (21, .iconst 1, 1), (22, .invokevirtual 249, 3), (25, .ifCond .eq 5, 3), (28, .iconst 0, 1), (29, .ireturn, 1), (30, .iconst 0, 1), (31, .istore_n 2, 1), (32, .iconst 0, 1), (33, .istore_n 3, 1), (34, .iload_n 3, 1), (35, .aload_n 0, 1)] : List (Nat × Instr × Nat)).all fun e => decide (decode cX12_marks e.1 = .ok e.2)) = true := by decide +kernel
theorem dX12_marks_0 : decode cX12_marks 0 = .ok (.aload_n 0, 1) := z_dk tdX12_marks_0 0 rfl
theorem dX12_marks_1 : decode cX12_marks 1 = .ok (.iconst 0, 1) := z_dk tdX12_marks_0 1 rfl
theorem dX12_marks_2 : decode cX12_marks 2 = .ok (.putfield 170, 3) := z_dk tdX12_marks_0 2 rfl
theorem dX12_marks_5 : decode cX12_marks 5 = .ok (.aload_n 0, 1) := z_dk tdX12_marks_0 3 rfl
theorem dX12_marks_6 : decode cX12_marks 6 = .ok (.iload_n 1, 1) := z_dk tdX12_marks_0 4 rfl
theorem dX12_marks_7 : decode cX12_marks 7 = .ok (.iconst 0, 1) := z_dk tdX12_marks_0 5 rfl
theorem dX12_marks_8 : decode cX12_marks 8 = .ok (.iconst 1, 1) := z_dk tdX12_marks_0 6 rfl
theorem dX12_marks_9 : decode cX12_marks 9 = .ok (.invokestatic 245, 3) := z_dk tdX12_marks_0 7 rfl
theorem dX12_marks_12 : decode cX12_marks 12 = .ok (.ifCond .ne 7, 3) := z_dk tdX12_marks_0 8 rfl
theorem dX12_marks_15 : decode cX12_marks 15 = .ok (.iconst 1, 1) := z_dk tdX12_marks_0 9 rfl
theorem dX12_marks_16 : decode cX12_marks 16 = .ok (.goto 4, 3) := z_dk tdX12_marks_0 10 rfl
theorem dX12_marks_19 : decode cX12_marks 19 = .ok (.iconst 0, 1) := z_dk tdX12_marks_0 11 rfl
theorem dX12_marks_20 : decode cX12_marks 20 = .ok (.iconst 1, 1) := z_dk tdX12_marks_0 12 rfl
theorem dX12_marks_21 : decode cX12_marks 21 = .ok (.iconst 1, 1) := z_dk tdX12_marks_0 13 rfl
theorem dX12_marks_22 : decode cX12_marks 22 = .ok (.invokevirtual 249, 3) := z_dk tdX12_marks_0 14 rfl
theorem dX12_marks_25 : decode cX12_marks 25 = .ok (.ifCond .eq 5, 3) := z_dk tdX12_marks_0 15 rfl
theorem dX12_marks_28 : decode cX12_marks 28 = .ok (.iconst 0, 1) := z_dk tdX12_marks_0 16 rfl
theorem dX12_marks_29 : decode cX12_marks 29 = .ok (.ireturn, 1) := z_dk tdX12_marks_0 17 rfl
theorem dX12_marks_30 : decode cX12_marks 30 = .ok (.iconst 0, 1) := z_dk tdX12_marks_0 18 rfl
theorem dX12_marks_31 : decode cX12_marks 31 = .ok (.istore_n 2, 1) := z_dk tdX12_marks_0 19 rfl
theorem dX12_marks_32 : decode cX12_marks 32 = .ok (.iconst 0, 1) := z_dk tdX12_marks_0 20 rfl
theorem dX12_marks_33 : decode cX12_marks 33 = .ok (.istore_n 3, 1) := z_dk tdX12_marks_0 21 rfl
theorem dX12_marks_34 : decode cX12_marks 34 = .ok (.iload_n 3, 1) := z_dk tdX12_marks_0 22 rfl
theorem dX12_marks_35 : decode cX12_marks 35 = .ok (.aload_n 0, 1) := z_dk tdX12_marks_0 23 rfl
theorem tdX12_marks_36 : (([(36, .getfield 31, 3), (39, .iconst 0, 1), (40, .aaload, 1), (41, .iconst 0, 1), (42, .iaload, 1), (43, .if_icmp .ge 21, 3), (46, .iload_n 2, 1), (47, .aload_n 0, 1), (48, .iload_n 3, 1), (49, .invokevirtual 390, 3), (52, .iload_n 1, 1), (53, .ishr, 1), (54, .iconst 1, 1), (55, .iand, 1), (56, .iadd, 1), (57, .istore_n 2, 1), (58, .iinc 3 1, 3), (61, .goto (-27), 3), (64, .iload_n 2, 1), (65, .ireturn, 1)] : List (Nat × Instr × Nat)).all fun e => decide (decode cX12_marks e.1 = .ok e.2)) = true := by decide +kernel
theorem dX12_marks_36 : decode cX12_marks 36 = .ok (.getfield 31, 3) := z_dk tdX12_marks_36 0 rfl
theorem dX12_marks_39 : decode cX12_marks 39 = .ok (.iconst 0, 1) := z_dk tdX12_marks_36 1 rfl
theorem dX12_marks_40 : decode cX12_marks 40 = .ok (.aaload, 1) := z_dk tdX12_marks_36 2 rfl
theorem dX12_marks_41 : decode cX12_marks 41 = .ok (.iconst 0, 1) := z_dk tdX12_marks_36 3 rfl
theorem dX12_marks_42 : decode cX12_marks 42 = .ok (.iaload, 1) := z_dk tdX12_marks_36 4 rfl
theorem dX12_marks_43 : decode cX12_marks 43 = .ok (.if_icmp .ge 21, 3) := z_dk tdX12_marks_36 5 rfl
theorem dX12_marks_46 : decode cX12_marks 46 = .ok (.iload_n 2, 1) := z_dk tdX12_marks_36 6 rfl
theorem dX12_marks_47 : decode cX12_marks 47 = .ok (.aload_n 0, 1) := z_dk tdX12_marks_36 7 rfl
theorem dX12_marks_48 : decode cX12_marks 48 = .ok (.iload_n 3, 1) := z_dk tdX12_marks_36 8 rfl
theorem dX12_marks_49 : decode cX12_marks 49 = .ok (.invokevirtual 390, 3) := z_dk tdX12_marks_36 9 rfl
theorem dX12_marks_52 : decode cX12_marks 52 = .ok (.iload_n 1, 1) := z_dk tdX12_marks_36 10 rfl
theorem dX12_marks_53 : decode cX12_marks 53 = .ok (.ishr, 1) := z_dk tdX12_marks_36 11 rfl
theorem dX12_marks_54 : decode cX12_marks 54 = .ok (.iconst 1, 1) := z_dk tdX12_marks_36 12 rfl
theorem dX12_marks_55 : decode cX12_marks 55 = .ok (.iand, 1) := z_dk tdX12_marks_36 13 rfl
theorem dX12_marks_56 : decode cX12_marks 56 = .ok (.iadd, 1) := z_dk tdX12_marks_36 14 rfl
theorem dX12_marks_57 : decode cX12_marks 57 = .ok (.istore_n 2, 1) := z_dk tdX12_marks_36 15 rfl
theorem dX12_marks_58 : decode cX12_marks 58 = .ok (.iinc 3 1, 3) := z_dk tdX12_marks_36 16 rfl
theorem dX12_marks_61 : decode cX12_marks 61 = .ok (.goto (-27), 3) := z_dk tdX12_marks_36 17 rfl
theorem dX12_marks_64 : decode cX12_marks 64 = .ok (.iload_n 2, 1) := z_dk tdX12_marks_36 18 rfl
theorem dX12_marks_65 : decode cX12_marks 65 = .ok (.ireturn, 1) := z_dk tdX12_marks_36 19 rfl
theorem tdX12_line_0 : (([(0, .aload_n 0, 1), (1, .iconst 0, 1), (2, .putfield 170, 3), (5, .aload_n 0, 1), (6, .invokevirtual 371, 3), (9, .aload_n 0, 1), (10, .iload_n 1, 1), (11, .iconst 0, 1), (12, .aload_n 0, 1), (13, .getfield 365, 3), (16, .iconst 1, 1), (17, .isub, 1), (18, .invokestatic 245, 3), (21, .ifCond .ne 7, 3), (24, .iconst 1, 1), (25, .goto 4, 3), (28, .iconst 0, 1), (29, .iconst 1, 1), (30, .iconst 0, 1), (31, .invokevirtual 249, 3), (34, .ifCond .ne 27, 3), (37, .aload_n 0, 1), (38, .iload_n 2, 1), (39, .iconst 0, 1)] : List (Nat × Instr × Nat)).all fun e => decide (decode cX12_line e.1 = .ok e.2)) = true := by decide +kernel
theorem dX12_line_0 : decode cX12_line 0 = .ok (.aload_n 0, 1) := z_dk tdX12_line_0 0 rfl
theorem dX12_line_1 : decode cX12_line 1 = .ok (.iconst 0, 1) := z_dk tdX12_line_0 1 rfl
theorem dX12_line_2 : decode cX12_line 2 = .ok (.putfield 170, 3) := z_dk tdX12_line_0 2 rfl
theorem dX12_line_5 : decode cX12_line 5 = .ok (.aload_n 0, 1) := z_dk tdX12_line_0 3 rfl
theorem dX12_line_6 : decode cX12_line 6 = .ok (.invokevirtual 371, 3) := z_dk tdX12_line_0 4 rfl
theorem dX12_line_9 : decode cX12_line 9 = .ok (.aload_n 0, 1) := z_dk tdX12_line_0 5 rfl
theorem dX12_line_10 : decode cX12_line 10 = .ok (.iload_n 1, 1) := z_dk tdX12_line_0 6 rfl
theorem dX12_line_11 : decode cX12_line 11 = .ok (.iconst 0, 1) := z_dk tdX12_line_0 7 rfl
theorem dX12_line_12 : decode cX12_line 12 = .ok (.aload_n 0, 1) := z_dk tdX12_line_0 8 rfl
theorem dX12_line_13 : decode cX12_line 13 = .ok (.getfield 365, 3) := z_dk tdX12_line_0 9 rfl
theorem dX12_line_16 : decode cX12_line 16 = .ok (.iconst 1, 1) := z_dk tdX12_line_0 10 rfl
theorem dX12_line_17 : decode cX12_line 17 = .ok (.isub, 1) := z_dk tdX12_line_0 11 rfl
theorem dX12_line_18 : decode cX12_line 18 = .ok (.invokestatic 245, 3) := z_dk tdX12_line_0 12 rfl
theorem dX12_line_21 : decode cX12_line 21 = .ok (.ifCond .ne 7, 3) := z_dk tdX12_line_0 13 rfl
theorem dX12_line_24 : decode cX12_line 24 = .ok (.iconst 1, 1) := z_dk tdX12_line_0 14 rfl
theorem dX12_line_25 : decode cX12_line 25 = .ok (.goto 4, 3) := z_dk tdX12_line_0 15 rfl
theorem dX12_line_28 : decode cX12_line 28 = .ok (.iconst 0, 1) := z_dk tdX12_line_0 16 rfl
theorem dX12_line_29 : decode cX12_line 29 = .ok (.iconst 1, 1) := z_dk tdX12_line_0 17 rfl
theorem dX12_line_30 : decode cX12_line 30 = .ok (.iconst 0, 1) := z_dk tdX12_line_0 18 rfl
theorem dX12_line_31 : decode cX12_line 31 = .ok (.invokevirtual 249, 3) := z_dk tdX12_line_0 19 rfl
theorem dX12_line_34 : decode cX12_line 34 = .ok (.ifCond .ne 27, 3) := z_dk tdX12_line_0 20 rfl
theorem dX12_line_37 : decode cX12_line 37 = .ok (.aload_n 0, 1) := z_dk tdX12_line_0 21 rfl
theorem dX12_line_38 : decode cX12_line 38 = .ok (.iload_n 2, 1) := z_dk tdX12_line_0 22 rfl
theorem dX12_line_39 : decode cX12_line 39 = .ok (.iconst 0, 1) := z_dk tdX12_line_0 23 rfl
theorem tdX12_line_40 : (([(40, .bipush 7, 2), (42, .invokestatic 245, 3), (45, .ifCond .ne 7, 3), (48, .iconst 1, 1), (49, .goto 4, 3), (52, .iconst 0, 1), (53, .iconst 2, 1), (54, .iconst 1, 1), (55, .invokevirtual 249, 3), (58, .ifCond .eq 5, 3), (61, .iconst 0, 1), (62, .ireturn, 1), (63, .iload_n 2, 1), (64, .tableswitch 109 0 6 #[44, 51, 67, 74, 88, 95, 102], 44), (108, .aload_n 0, 1), (109, .getfield 109, 3), (112, .iload_n 1, 1), (113, .iaload, 1), (114, .ireturn, 1), (115, .aload_n 0, 1), (116, .getfield 109, 3), (119, .iload_n 1, 1), (120, .iconst 1, 1), (121, .iadd, 1)] : List (Nat × Instr × Nat)).all fun e => decide (decode cX12_line e.1 = .ok e.2)) = true := by decide +kernel
theorem dX12_line_40 : decode cX12_line 40 = .ok (.bipush 7, 2) := z_dk tdX12_line_40 0 rfl
theorem dX12_line_42 : decode cX12_line 42 = .ok (.invokestatic 245, 3) := z_dk tdX12_line_40 1 rfl
theorem dX12_line_45 : decode cX12_line 45 = .ok (.ifCond .ne 7, 3) := z_dk tdX12_line_40 2 rfl
theorem dX12_line_48 : decode cX12_line 48 = .ok (.iconst 1, 1) := z_dk tdX12_line_40 3 rfl
theorem dX12_line_49 : decode cX12_line 49 = .ok (.goto 4, 3) := z_dk tdX12_line_40 4 rfl
theorem dX12_line_52 : decode cX12_line 52 = .ok (.iconst 0, 1) := z_dk tdX12_line_40 5 rfl
theorem dX12_line_53 : decode cX12_line 53 = .ok (.iconst 2, 1) := z_dk tdX12_line_40 6 rfl
theorem dX12_line_54 : decode cX12_line 54 = .ok (.iconst 1, 1) := z_dk tdX12_line_40 7 rfl
theorem dX12_line_55 : decode cX12_line 55 = .ok (.invokevirtual 249, 3) := z_dk tdX12_line_40 8 rfl
theorem dX12_line_58 : decode cX12_line 58 = .ok (.ifCond .eq 5, 3) := z_dk tdX12_line_40 9 rfl
theorem dX12_line_61 : decode cX12_line 61 = .ok (.iconst 0, 1) := z_dk tdX12_line_40 10 rfl
theorem dX12_line_62 : decode cX12_line 62 = .ok (.ireturn, 1) := z_dk tdX12_line_40 11 rfl
theorem dX12_line_63 : decode cX12_line 63 = .ok (.iload_n 2, 1) := z_dk tdX12_line_40 12 rfl
theorem dX12_line_64 : decode cX12_line 64 = .ok (.tableswitch 109 0 6 #[44, 51, 67, 74, 88, 95, 102], 44) := z_dk tdX12_line_40 13 rfl
theorem dX12_line_108 : decode cX12_line 108 = .ok (.aload_n 0, 1) := z_dk tdX12_line_40 14 rfl
theorem dX12_line_109 : decode cX12_line 109 = .ok (.getfield 109, 3) := z_dk tdX12_line_40 15 rfl
theorem dX12_line_112 : decode cX12_line 112 = .ok (.iload_n 1, 1) := z_dk tdX12_line_40 16 rfl
theorem dX12_line_113 : decode cX12_line 113 = .ok (.iaload, 1) := z_dk tdX12_line_40 17 rfl
theorem dX12_line_114 : decode cX12_line 114 = .ok (.ireturn, 1) := z_dk tdX12_line_40 18 rfl
theorem dX12_line_115 : decode cX12_line 115 = .ok (.aload_n 0, 1) := z_dk tdX12_line_40 19 rfl
theorem dX12_line_116 : decode cX12_line 116 = .ok (.getfield 109, 3) := z_dk tdX12_line_40 20 rfl
theorem dX12_line_119 : decode cX12_line 119 = .ok (.iload_n 1, 1) := z_dk tdX12_line_40 21 rfl
theorem dX12_line_120 : decode cX12_line 120 = .ok (.iconst 1, 1) := z_dk tdX12_line_40 22 rfl
theorem dX12_line_121 : decode cX12_line 121 = .ok (.iadd, 1) := z_dk tdX12_line_40 23 rfl
theorem tdX12_line_122 : (([(122, .iaload, 1), (123, .aload_n 0, 1), (124, .getfield 109, 3), (127, .iload_n 1, 1), (128, .iaload, 1), (129, .isub, 1), (130, .ireturn, 1), (131, .aload_n 0, 1), (132, .getfield 134, 3), (135, .iload_n 1, 1), (136, .iaload, 1), (137, .ireturn, 1), (138, .aload_n 0, 1), (139, .getfield 20, 3), (142, .iconst 0, 1), (143, .iaload, 1), (144, .aload_n 0, 1), (145, .getfield 134, 3), (148, .iload_n 1, 1), (149, .iaload, 1), (150, .isub, 1), (151, .ireturn, 1), (152, .aload_n 0, 1), (153, .getfield 137, 3)] : List (Nat × Instr × Nat)).all fun e => decide (decode cX12_line e.1 = .ok e.2)) = true := by decide +kernel
theorem dX12_line_122 : decode cX12_line 122 = .ok (.iaload, 1) := z_dk tdX12_line_122 0 rfl
theorem dX12_line_123 : decode cX12_line 123 = .ok (.aload_n 0, 1) := z_dk tdX12_line_122 1 rfl
theorem dX12_line_124 : decode cX12_line 124 = .ok (.getfield 109, 3) := z_dk tdX12_line_122 2 rfl
theorem dX12_line_127 : decode cX12_line 127 = .ok (.iload_n 1, 1) := z_dk tdX12_line_122 3 rfl
theorem dX12_line_128 : decode cX12_line 128 = .ok (.iaload, 1) := z_dk tdX12_line_122 4 rfl
theorem dX12_line_129 : decode cX12_line 129 = .ok (.isub, 1) := z_dk tdX12_line_122 5 rfl
theorem dX12_line_130 : decode cX12_line 130 = .ok (.ireturn, 1) := z_dk tdX12_line_122 6 rfl
theorem dX12_line_131 : decode cX12_line 131 = .ok (.aload_n 0, 1) := z_dk tdX12_line_122 7 rfl
theorem dX12_line_132 : decode cX12_line 132 = .ok (.getfield 134, 3) := z_dk tdX12_line_122 8 rfl
theorem dX12_line_135 : decode cX12_line 135 = .ok (.iload_n 1, 1) := z_dk tdX12_line_122 9 rfl
theorem dX12_line_136 : decode cX12_line 136 = .ok (.iaload, 1) := z_dk tdX12_line_122 10 rfl
theorem dX12_line_137 : decode cX12_line 137 = .ok (.ireturn, 1) := z_dk tdX12_line_122 11 rfl
theorem dX12_line_138 : decode cX12_line 138 = .ok (.aload_n 0, 1) := z_dk tdX12_line_122 12 rfl
theorem dX12_line_139 : decode cX12_line 139 = .ok (.getfield 20, 3) := z_dk tdX12_line_122 13 rfl
theorem dX12_line_142 : decode cX12_line 142 = .ok (.iconst 0, 1) := z_dk tdX12_line_122 14 rfl
theorem dX12_line_143 : decode cX12_line 143 = .ok (.iaload, 1) := z_dk tdX12_line_122 15 rfl
theorem dX12_line_144 : decode cX12_line 144 = .ok (.aload_n 0, 1) := z_dk tdX12_line_122 16 rfl
theorem dX12_line_145 : decode cX12_line 145 = .ok (.getfield 134, 3) := z_dk tdX12_line_122 17 rfl
theorem dX12_line_148 : decode cX12_line 148 = .ok (.iload_n 1, 1) := z_dk tdX12_line_122 18 rfl
theorem dX12_line_149 : decode cX12_line 149 = .ok (.iaload, 1) := z_dk tdX12_line_122 19 rfl
theorem dX12_line_150 : decode cX12_line 150 = .ok (.isub, 1) := z_dk tdX12_line_122 20 rfl
theorem dX12_line_151 : decode cX12_line 151 = .ok (.ireturn, 1) := z_dk tdX12_line_122 21 rfl
theorem dX12_line_152 : decode cX12_line 152 = .ok (.aload_n 0, 1) := z_dk tdX12_line_122 22 rfl
theorem dX12_line_153 : decode cX12_line 153 = .ok (.getfield 137, 3) := z_dk tdX12_line_122 23 rfl
theorem tdX12_line_156 : (([(156, .iload_n 1, 1), (157, .iaload, 1), (158, .ireturn, 1), (159, .aload_n 0, 1), (160, .getfield 140, 3), (163, .iload_n 1, 1), (164, .iaload, 1), (165, .ireturn, 1), (166, .aload_n 0, 1), (167, .getfield 143, 3), (170, .iload_n 1, 1), (171, .iaload, 1), (172, .ireturn, 1), (173, .aload_n 0, 1), (174, .getfield 146, 3), (177, .iload_n 1, 1), (178, .iaload, 1), (179, .ireturn, 1)] : List (Nat × Instr × Nat)).all fun e => decide (decode cX12_line e.1 = .ok e.2)) = true := by decide +kernel
theorem dX12_line_156 : decode cX12_line 156 = .ok (.iload_n 1, 1) := z_dk tdX12_line_156 0 rfl
theorem dX12_line_157 : decode cX12_line 157 = .ok (.iaload, 1) := z_dk tdX12_line_156 1 rfl
theorem dX12_line_158 : decode cX12_line 158 = .ok (.ireturn, 1) := z_dk tdX12_line_156 2 rfl
theorem dX12_line_159 : decode cX12_line 159 = .ok (.aload_n 0, 1) := z_dk tdX12_line_156 3 rfl
theorem dX12_line_160 : decode cX12_line 160 = .ok (.getfield 140, 3) := z_dk tdX12_line_156 4 rfl
theorem dX12_line_163 : decode cX12_line 163 = .ok (.iload_n 1, 1) := z_dk tdX12_line_156 5 rfl
theorem dX12_line_164 : decode cX12_line 164 = .ok (.iaload, 1) := z_dk tdX12_line_156 6 rfl
theorem dX12_line_165 : decode cX12_line 165 = .ok (.ireturn, 1) := z_dk tdX12_line_156 7 rfl
theorem dX12_line_166 : decode cX12_line 166 = .ok (.aload_n 0, 1) := z_dk tdX12_line_156 8 rfl
theorem dX12_line_167 : decode cX12_line 167 = .ok (.getfield 143, 3) := z_dk tdX12_line_156 9 rfl
theorem dX12_line_170 : decode cX12_line 170 = .ok (.iload_n 1, 1) := z_dk tdX12_line_156 10 rfl
theorem dX12_line_171 : decode cX12_line 171 = .ok (.iaload, 1) := z_dk tdX12_line_156 11 rfl
theorem dX12_line_172 : decode cX12_line 172 = .ok (.ireturn, 1) := z_dk tdX12_line_156 12 rfl
theorem dX12_line_173 : decode cX12_line 173 = .ok (.aload_n 0, 1) := z_dk tdX12_line_156 13 rfl
theorem dX12_line_174 : decode cX12_line 174 = .ok (.getfield 146, 3) := z_dk tdX12_line_156 14 rfl
theorem dX12_line_177 : decode cX12_line 177 = .ok (.iload_n 1, 1) := z_dk tdX12_line_156 15 rfl
theorem dX12_line_178 : decode cX12_line 178 = .ok (.iaload, 1) := z_dk tdX12_line_156 16 rfl
theorem dX12_line_179 : decode cX12_line 179 = .ok (.ireturn, 1) := z_dk tdX12_line_156 17 rfl
theorem tdX12_block_0 : (([(0, .aload_n 0, 1), (1, .iconst 0, 1), (2, .putfield 170, 3), (5, .aload_n 0, 1), (6, .invokevirtual 371, 3), (9, .aload_n 0, 1), (10, .iload_n 1, 1), (11, .iconst 0, 1), (12, .aload_n 0, 1), (13, .getfield 359, 3), (16, .iconst 1, 1), (17, .isub, 1), (18, .invokestatic 245, 3), (21, .ifCond .ne 7, 3), (24, .iconst 1, 1), (25, .goto 4, 3), (28, .iconst 0, 1), (29, .iconst 1, 1), (30, .iconst 0, 1), (31, .invokevirtual 249, 3), (34, .ifCond .ne 27, 3), (37, .aload_n 0, 1), (38, .iload_n 2, 1), (39, .iconst 0, 1)] : List (Nat × Instr × Nat)).all fun e => decide (decode cX12_block e.1 = .ok e.2)) = true := by decide +kernel
theorem dX12_block_0 : decode cX12_block 0 = .ok (.aload_n 0, 1) := z_dk tdX12_block_0 0 rfl
theorem dX12_block_1 : decode cX12_block 1 = .ok (.iconst 0, 1) := z_dk tdX12_block_0 1 rfl
theorem dX12_block_2 : decode cX12_block 2 = .ok (.putfield 170, 3) := z_dk tdX12_block_0 2 rfl
theorem dX12_block_5 : decode cX12_block 5 = .ok (.aload_n 0, 1) := z_dk tdX12_block_0 3 rfl
theorem dX12_block_6 : decode cX12_block 6 = .ok (.invokevirtual 371, 3) := z_dk tdX12_block_0 4 rfl
theorem dX12_block_9 : decode cX12_block 9 = .ok (.aload_n 0, 1) := z_dk tdX12_block_0 5 rfl
theorem dX12_block_10 : decode cX12_block 10 = .ok (.iload_n 1, 1) := z_dk tdX12_block_0 6 rfl
theorem dX12_block_11 : decode cX12_block 11 = .ok (.iconst 0, 1) := z_dk tdX12_block_0 7 rfl
theorem dX12_block_12 : decode cX12_block 12 = .ok (.aload_n 0, 1) := z_dk tdX12_block_0 8 rfl
theorem dX12_block_13 : decode cX12_block 13 = .ok (.getfield 359, 3) := z_dk tdX12_block_0 9 rfl
theorem dX12_block_16 : decode cX12_block 16 = .ok (.iconst 1, 1) := z_dk tdX12_block_0 10 rfl
theorem dX12_block_17 : decode cX12_block 17 = .ok (.isub, 1) := z_dk tdX12_block_0 11 rfl
theorem dX12_block_18 : decode cX12_block 18 = .ok (.invokestatic 245, 3) := z_dk tdX12_block_0 12 rfl
theorem dX12_block_21 : decode cX12_block 21 = .ok (.ifCond .ne 7, 3) := z_dk tdX12_block_0 13 rfl
theorem dX12_block_24 : decode cX12_block 24 = .ok (.iconst 1, 1) := z_dk tdX12_block_0 14 rfl
theorem dX12_block_25 : decode cX12_block 25 = .ok (.goto 4, 3) := z_dk tdX12_block_0 15 rfl
theorem dX12_block_28 : decode cX12_block 28 = .ok (.iconst 0, 1) := z_dk tdX12_block_0 16 rfl
theorem dX12_block_29 : decode cX12_block 29 = .ok (.iconst 1, 1) := z_dk tdX12_block_0 17 rfl
theorem dX12_block_30 : decode cX12_block 30 = .ok (.iconst 0, 1) := z_dk tdX12_block_0 18 rfl
theorem dX12_block_31 : decode cX12_block 31 = .ok (.invokevirtual 249, 3) := z_dk tdX12_block_0 19 rfl
theorem dX12_block_34 : decode cX12_block 34 = .ok (.ifCond .ne 27, 3) := z_dk tdX12_block_0 20 rfl
theorem dX12_block_37 : decode cX12_block 37 = .ok (.aload_n 0, 1) := z_dk tdX12_block_0 21 rfl
theorem dX12_block_38 : decode cX12_block 38 = .ok (.iload_n 2, 1) := z_dk tdX12_block_0 22 rfl
theorem dX12_block_39 : decode cX12_block 39 = .ok (.iconst 0, 1) := z_dk tdX12_block_0 23 rfl
theorem tdX12_block_40 : (([(40, .bipush 7, 2), (42, .invokestatic 245, 3), (45, .ifCond .ne 7, 3), (48, .iconst 1, 1), (49, .goto 4, 3), (52, .iconst 0, 1), (53, .iconst 2, 1), (54, .iconst 1, 1), (55, .invokevirtual 249, 3), (58, .ifCond .eq 5, 3), (61, .iconst 0, 1), (62, .ireturn, 1), (63, .aload_n 0, 1), (64, .getfield 149, 3), (67, .iload_n 1, 1), (68, .aaload, 1), (69, .iload_n 2, 1), (70, .iaload, 1), (71, .ireturn, 1)] : List (Nat × Instr × Nat)).all fun e => decide (decode cX12_block e.1 = .ok e.2)) = true := by decide +kernel
theorem dX12_block_40 : decode cX12_block 40 = .ok (.bipush 7, 2) := z_dk tdX12_block_40 0 rfl
theorem dX12_block_42 : decode cX12_block 42 = .ok (.invokestatic 245, 3) := z_dk tdX12_block_40 1 rfl
theorem dX12_block_45 : decode cX12_block 45 = .ok (.ifCond .ne 7, 3) := z_dk tdX12_block_40 2 rfl
theorem dX12_block_48 : decode cX12_block 48 = .ok (.iconst 1, 1) := z_dk tdX12_block_40 3 rfl
theorem dX12_block_49 : decode cX12_block 49 = .ok (.goto 4, 3) := z_dk tdX12_block_40 4 rfl
theorem dX12_block_52 : decode cX12_block 52 = .ok (.iconst 0, 1) := z_dk tdX12_block_40 5 rfl
theorem dX12_block_53 : decode cX12_block 53 = .ok (.iconst 2, 1) := z_dk tdX12_block_40 6 rfl
theorem dX12_block_54 : decode cX12_block 54 = .ok (.iconst 1, 1) := z_dk tdX12_block_40 7 rfl
theorem dX12_block_55 : decode cX12_block 55 = .ok (.invokevirtual 249, 3) := z_dk tdX12_block_40 8 rfl
theorem dX12_block_58 : decode cX12_block 58 = .ok (.ifCond .eq 5, 3) := z_dk tdX12_block_40 9 rfl
theorem dX12_block_61 : decode cX12_block 61 = .ok (.iconst 0, 1) := z_dk tdX12_block_40 10 rfl
theorem dX12_block_62 : decode cX12_block 62 = .ok (.ireturn, 1) := z_dk tdX12_block_40 11 rfl
theorem dX12_block_63 : decode cX12_block 63 = .ok (.aload_n 0, 1) := z_dk tdX12_block_40 12 rfl
theorem dX12_block_64 : decode cX12_block 64 = .ok (.getfield 149, 3) := z_dk tdX12_block_40 13 rfl
theorem dX12_block_67 : decode cX12_block 67 = .ok (.iload_n 1, 1) := z_dk tdX12_block_40 14 rfl
theorem dX12_block_68 : decode cX12_block 68 = .ok (.aaload, 1) := z_dk tdX12_block_40 15 rfl
theorem dX12_block_69 : decode cX12_block 69 = .ok (.iload_n 2, 1) := z_dk tdX12_block_40 16 rfl
theorem dX12_block_70 : decode cX12_block 70 = .ok (.iaload, 1) := z_dk tdX12_block_40 17 rfl
theorem dX12_block_71 : decode cX12_block 71 = .ok (.ireturn, 1) := z_dk tdX12_block_40 18 rfl
theorem tdX12_lettersIn_0 : (([(0, .iconst 0, 1), (1, .istore_n 3, 1), (2, .aload_n 0, 1), (3, .getfield 149, 3), (6, .iload_n 1, 1), (7, .aaload, 1), (8, .iconst 0, 1), (9, .iaload, 1), (10, .istore 4, 2), (12, .iload 4, 2), (14, .aload_n 0, 1), (15, .getfield 149, 3), (18, .iload_n 1, 1), (19, .aaload, 1), (20, .iconst 0, 1), (21, .iaload, 1), (22, .aload_n 0, 1), (23, .getfield 149, 3), (26, .iload_n 1, 1), (27, .aaload, 1), (28, .iconst 1, 1), (29, .iaload, 1), (30, .iadd, 1), (31, .if_icmp .ge 19, 3)] : List (Nat × Instr × Nat)).all fun e => decide (decode cX12_lettersIn e.1 = .ok e.2)) = true := by decide +kernel
theorem dX12_lettersIn_0 : decode cX12_lettersIn 0 = .ok (.iconst 0, 1) := z_dk tdX12_lettersIn_0 0 rfl
theorem dX12_lettersIn_1 : decode cX12_lettersIn 1 = .ok (.istore_n 3, 1) := z_dk tdX12_lettersIn_0 1 rfl
theorem dX12_lettersIn_2 : decode cX12_lettersIn 2 = .ok (.aload_n 0, 1) := z_dk tdX12_lettersIn_0 2 rfl
theorem dX12_lettersIn_3 : decode cX12_lettersIn 3 = .ok (.getfield 149, 3) := z_dk tdX12_lettersIn_0 3 rfl
theorem dX12_lettersIn_6 : decode cX12_lettersIn 6 = .ok (.iload_n 1, 1) := z_dk tdX12_lettersIn_0 4 rfl
theorem dX12_lettersIn_7 : decode cX12_lettersIn 7 = .ok (.aaload, 1) := z_dk tdX12_lettersIn_0 5 rfl
theorem dX12_lettersIn_8 : decode cX12_lettersIn 8 = .ok (.iconst 0, 1) := z_dk tdX12_lettersIn_0 6 rfl
theorem dX12_lettersIn_9 : decode cX12_lettersIn 9 = .ok (.iaload, 1) := z_dk tdX12_lettersIn_0 7 rfl
theorem dX12_lettersIn_10 : decode cX12_lettersIn 10 = .ok (.istore 4, 2) := z_dk tdX12_lettersIn_0 8 rfl
theorem dX12_lettersIn_12 : decode cX12_lettersIn 12 = .ok (.iload 4, 2) := z_dk tdX12_lettersIn_0 9 rfl
theorem dX12_lettersIn_14 : decode cX12_lettersIn 14 = .ok (.aload_n 0, 1) := z_dk tdX12_lettersIn_0 10 rfl
theorem dX12_lettersIn_15 : decode cX12_lettersIn 15 = .ok (.getfield 149, 3) := z_dk tdX12_lettersIn_0 11 rfl
theorem dX12_lettersIn_18 : decode cX12_lettersIn 18 = .ok (.iload_n 1, 1) := z_dk tdX12_lettersIn_0 12 rfl
theorem dX12_lettersIn_19 : decode cX12_lettersIn 19 = .ok (.aaload, 1) := z_dk tdX12_lettersIn_0 13 rfl
theorem dX12_lettersIn_20 : decode cX12_lettersIn 20 = .ok (.iconst 0, 1) := z_dk tdX12_lettersIn_0 14 rfl
theorem dX12_lettersIn_21 : decode cX12_lettersIn 21 = .ok (.iaload, 1) := z_dk tdX12_lettersIn_0 15 rfl
theorem dX12_lettersIn_22 : decode cX12_lettersIn 22 = .ok (.aload_n 0, 1) := z_dk tdX12_lettersIn_0 16 rfl
theorem dX12_lettersIn_23 : decode cX12_lettersIn 23 = .ok (.getfield 149, 3) := z_dk tdX12_lettersIn_0 17 rfl
theorem dX12_lettersIn_26 : decode cX12_lettersIn 26 = .ok (.iload_n 1, 1) := z_dk tdX12_lettersIn_0 18 rfl
theorem dX12_lettersIn_27 : decode cX12_lettersIn 27 = .ok (.aaload, 1) := z_dk tdX12_lettersIn_0 19 rfl
theorem dX12_lettersIn_28 : decode cX12_lettersIn 28 = .ok (.iconst 1, 1) := z_dk tdX12_lettersIn_0 20 rfl
theorem dX12_lettersIn_29 : decode cX12_lettersIn 29 = .ok (.iaload, 1) := z_dk tdX12_lettersIn_0 21 rfl
theorem dX12_lettersIn_30 : decode cX12_lettersIn 30 = .ok (.iadd, 1) := z_dk tdX12_lettersIn_0 22 rfl
theorem dX12_lettersIn_31 : decode cX12_lettersIn 31 = .ok (.if_icmp .ge 19, 3) := z_dk tdX12_lettersIn_0 23 rfl
theorem tdX12_lettersIn_34 : (([(34, .iload_n 3, 1), (35, .aload_n 0, 1), (36, .iload 4, 2), (38, .iload_n 2, 1), (39, .invokevirtual 291, 3), (42, .iadd, 1), (43, .istore_n 3, 1), (44, .iinc 4 1, 3), (47, .goto (-35), 3), (50, .iload_n 3, 1), (51, .ireturn, 1)] : List (Nat × Instr × Nat)).all fun e => decide (decode cX12_lettersIn e.1 = .ok e.2)) = true := by decide +kernel
theorem dX12_lettersIn_34 : decode cX12_lettersIn 34 = .ok (.iload_n 3, 1) := z_dk tdX12_lettersIn_34 0 rfl
theorem dX12_lettersIn_35 : decode cX12_lettersIn 35 = .ok (.aload_n 0, 1) := z_dk tdX12_lettersIn_34 1 rfl
theorem dX12_lettersIn_36 : decode cX12_lettersIn 36 = .ok (.iload 4, 2) := z_dk tdX12_lettersIn_34 2 rfl
theorem dX12_lettersIn_38 : decode cX12_lettersIn 38 = .ok (.iload_n 2, 1) := z_dk tdX12_lettersIn_34 3 rfl
theorem dX12_lettersIn_39 : decode cX12_lettersIn 39 = .ok (.invokevirtual 291, 3) := z_dk tdX12_lettersIn_34 4 rfl
theorem dX12_lettersIn_42 : decode cX12_lettersIn 42 = .ok (.iadd, 1) := z_dk tdX12_lettersIn_34 5 rfl
theorem dX12_lettersIn_43 : decode cX12_lettersIn 43 = .ok (.istore_n 3, 1) := z_dk tdX12_lettersIn_34 6 rfl
theorem dX12_lettersIn_44 : decode cX12_lettersIn 44 = .ok (.iinc 4 1, 3) := z_dk tdX12_lettersIn_34 7 rfl
theorem dX12_lettersIn_47 : decode cX12_lettersIn 47 = .ok (.goto (-35), 3) := z_dk tdX12_lettersIn_34 8 rfl
theorem dX12_lettersIn_50 : decode cX12_lettersIn 50 = .ok (.iload_n 3, 1) := z_dk tdX12_lettersIn_34 9 rfl
theorem dX12_lettersIn_51 : decode cX12_lettersIn 51 = .ok (.ireturn, 1) := z_dk tdX12_lettersIn_34 10 rfl
theorem tdX12_letterAt_0 : (([(0, .iload_n 3, 1), (1, .istore 4, 2), (3, .aload_n 0, 1), (4, .getfield 149, 3), (7, .iload_n 1, 1), (8, .aaload, 1), (9, .iconst 0, 1), (10, .iaload, 1), (11, .istore 5, 2), (13, .iload 4, 2), (15, .aload_n 0, 1), (16, .iload 5, 2), (18, .iload_n 2, 1), (19, .invokevirtual 291, 3), (22, .if_icmp .lt 21, 3), (25, .iload 4, 2), (27, .aload_n 0, 1), (28, .iload 5, 2), (30, .iload_n 2, 1), (31, .invokevirtual 291, 3), (34, .isub, 1), (35, .istore 4, 2), (37, .iinc 5 1, 3), (40, .goto (-27), 3)] : List (Nat × Instr × Nat)).all fun e => decide (decode cX12_letterAt e.1 = .ok e.2)) = true := by decide +kernel
theorem dX12_letterAt_0 : decode cX12_letterAt 0 = .ok (.iload_n 3, 1) := z_dk tdX12_letterAt_0 0 rfl
theorem dX12_letterAt_1 : decode cX12_letterAt 1 = .ok (.istore 4, 2) := z_dk tdX12_letterAt_0 1 rfl
theorem dX12_letterAt_3 : decode cX12_letterAt 3 = .ok (.aload_n 0, 1) := z_dk tdX12_letterAt_0 2 rfl
theorem dX12_letterAt_4 : decode cX12_letterAt 4 = .ok (.getfield 149, 3) := z_dk tdX12_letterAt_0 3 rfl
theorem dX12_letterAt_7 : decode cX12_letterAt 7 = .ok (.iload_n 1, 1) := z_dk tdX12_letterAt_0 4 rfl
theorem dX12_letterAt_8 : decode cX12_letterAt 8 = .ok (.aaload, 1) := z_dk tdX12_letterAt_0 5 rfl
theorem dX12_letterAt_9 : decode cX12_letterAt 9 = .ok (.iconst 0, 1) := z_dk tdX12_letterAt_0 6 rfl
theorem dX12_letterAt_10 : decode cX12_letterAt 10 = .ok (.iaload, 1) := z_dk tdX12_letterAt_0 7 rfl
theorem dX12_letterAt_11 : decode cX12_letterAt 11 = .ok (.istore 5, 2) := z_dk tdX12_letterAt_0 8 rfl
theorem dX12_letterAt_13 : decode cX12_letterAt 13 = .ok (.iload 4, 2) := z_dk tdX12_letterAt_0 9 rfl
theorem dX12_letterAt_15 : decode cX12_letterAt 15 = .ok (.aload_n 0, 1) := z_dk tdX12_letterAt_0 10 rfl
theorem dX12_letterAt_16 : decode cX12_letterAt 16 = .ok (.iload 5, 2) := z_dk tdX12_letterAt_0 11 rfl
theorem dX12_letterAt_18 : decode cX12_letterAt 18 = .ok (.iload_n 2, 1) := z_dk tdX12_letterAt_0 12 rfl
theorem dX12_letterAt_19 : decode cX12_letterAt 19 = .ok (.invokevirtual 291, 3) := z_dk tdX12_letterAt_0 13 rfl
theorem dX12_letterAt_22 : decode cX12_letterAt 22 = .ok (.if_icmp .lt 21, 3) := z_dk tdX12_letterAt_0 14 rfl
theorem dX12_letterAt_25 : decode cX12_letterAt 25 = .ok (.iload 4, 2) := z_dk tdX12_letterAt_0 15 rfl
theorem dX12_letterAt_27 : decode cX12_letterAt 27 = .ok (.aload_n 0, 1) := z_dk tdX12_letterAt_0 16 rfl
theorem dX12_letterAt_28 : decode cX12_letterAt 28 = .ok (.iload 5, 2) := z_dk tdX12_letterAt_0 17 rfl
theorem dX12_letterAt_30 : decode cX12_letterAt 30 = .ok (.iload_n 2, 1) := z_dk tdX12_letterAt_0 18 rfl
theorem dX12_letterAt_31 : decode cX12_letterAt 31 = .ok (.invokevirtual 291, 3) := z_dk tdX12_letterAt_0 19 rfl
theorem dX12_letterAt_34 : decode cX12_letterAt 34 = .ok (.isub, 1) := z_dk tdX12_letterAt_0 20 rfl
theorem dX12_letterAt_35 : decode cX12_letterAt 35 = .ok (.istore 4, 2) := z_dk tdX12_letterAt_0 21 rfl
theorem dX12_letterAt_37 : decode cX12_letterAt 37 = .ok (.iinc 5 1, 3) := z_dk tdX12_letterAt_0 22 rfl
theorem dX12_letterAt_40 : decode cX12_letterAt 40 = .ok (.goto (-27), 3) := z_dk tdX12_letterAt_0 23 rfl
theorem tdX12_letterAt_43 : (([(43, .aload_n 0, 1), (44, .getfield 51, 3), (47, .iconst 0, 1), (48, .aaload, 1), (49, .aload_n 0, 1), (50, .getfield 40, 3), (53, .iconst 0, 1), (54, .aaload, 1), (55, .aload_n 0, 1), (56, .getfield 57, 3), (59, .iload 5, 2), (61, .iaload, 1), (62, .iaload, 1), (63, .aaload, 1), (64, .bipush 10, 2), (66, .iload_n 2, 1), (67, .imul, 1), (68, .iconst 1, 1), (69, .iadd, 1), (70, .iload 4, 2), (72, .iadd, 1), (73, .iaload, 1), (74, .ireturn, 1)] : List (Nat × Instr × Nat)).all fun e => decide (decode cX12_letterAt e.1 = .ok e.2)) = true := by decide +kernel
theorem dX12_letterAt_43 : decode cX12_letterAt 43 = .ok (.aload_n 0, 1) := z_dk tdX12_letterAt_43 0 rfl
theorem dX12_letterAt_44 : decode cX12_letterAt 44 = .ok (.getfield 51, 3) := z_dk tdX12_letterAt_43 1 rfl
theorem dX12_letterAt_47 : decode cX12_letterAt 47 = .ok (.iconst 0, 1) := z_dk tdX12_letterAt_43 2 rfl
theorem dX12_letterAt_48 : decode cX12_letterAt 48 = .ok (.aaload, 1) := z_dk tdX12_letterAt_43 3 rfl
theorem dX12_letterAt_49 : decode cX12_letterAt 49 = .ok (.aload_n 0, 1) := z_dk tdX12_letterAt_43 4 rfl
theorem dX12_letterAt_50 : decode cX12_letterAt 50 = .ok (.getfield 40, 3) := z_dk tdX12_letterAt_43 5 rfl
theorem dX12_letterAt_53 : decode cX12_letterAt 53 = .ok (.iconst 0, 1) := z_dk tdX12_letterAt_43 6 rfl
theorem dX12_letterAt_54 : decode cX12_letterAt 54 = .ok (.aaload, 1) := z_dk tdX12_letterAt_43 7 rfl
theorem dX12_letterAt_55 : decode cX12_letterAt 55 = .ok (.aload_n 0, 1) := z_dk tdX12_letterAt_43 8 rfl
theorem dX12_letterAt_56 : decode cX12_letterAt 56 = .ok (.getfield 57, 3) := z_dk tdX12_letterAt_43 9 rfl
theorem dX12_letterAt_59 : decode cX12_letterAt 59 = .ok (.iload 5, 2) := z_dk tdX12_letterAt_43 10 rfl
theorem dX12_letterAt_61 : decode cX12_letterAt 61 = .ok (.iaload, 1) := z_dk tdX12_letterAt_43 11 rfl
theorem dX12_letterAt_62 : decode cX12_letterAt 62 = .ok (.iaload, 1) := z_dk tdX12_letterAt_43 12 rfl
theorem dX12_letterAt_63 : decode cX12_letterAt 63 = .ok (.aaload, 1) := z_dk tdX12_letterAt_43 13 rfl
theorem dX12_letterAt_64 : decode cX12_letterAt 64 = .ok (.bipush 10, 2) := z_dk tdX12_letterAt_43 14 rfl
theorem dX12_letterAt_66 : decode cX12_letterAt 66 = .ok (.iload_n 2, 1) := z_dk tdX12_letterAt_43 15 rfl
theorem dX12_letterAt_67 : decode cX12_letterAt 67 = .ok (.imul, 1) := z_dk tdX12_letterAt_43 16 rfl
theorem dX12_letterAt_68 : decode cX12_letterAt 68 = .ok (.iconst 1, 1) := z_dk tdX12_letterAt_43 17 rfl
theorem dX12_letterAt_69 : decode cX12_letterAt 69 = .ok (.iadd, 1) := z_dk tdX12_letterAt_43 18 rfl
theorem dX12_letterAt_70 : decode cX12_letterAt 70 = .ok (.iload 4, 2) := z_dk tdX12_letterAt_43 19 rfl
theorem dX12_letterAt_72 : decode cX12_letterAt 72 = .ok (.iadd, 1) := z_dk tdX12_letterAt_43 20 rfl
theorem dX12_letterAt_73 : decode cX12_letterAt 73 = .ok (.iaload, 1) := z_dk tdX12_letterAt_43 21 rfl
theorem dX12_letterAt_74 : decode cX12_letterAt 74 = .ok (.ireturn, 1) := z_dk tdX12_letterAt_43 22 rfl
theorem tdX12_letterPlace_0 : (([(0, .aload_n 0, 1), (1, .iload_n 1, 1), (2, .iload_n 2, 1), (3, .invokevirtual 393, 3), (6, .istore 4, 2), (8, .aload_n 0, 1), (9, .getfield 122, 3), (12, .aload_n 0, 1), (13, .getfield 149, 3), (16, .iload_n 1, 1), (17, .aaload, 1), (18, .iconst 0, 1), (19, .iaload, 1), (20, .iaload, 1), (21, .istore 5, 2), (23, .aload_n 0, 1), (24, .getfield 149, 3), (27, .iload_n 1, 1), (28, .aaload, 1), (29, .iconst 2, 1), (30, .iaload, 1), (31, .istore 6, 2), (33, .bipush 6, 2), (35, .iload 4, 2)] : List (Nat × Instr × Nat)).all fun e => decide (decode cX12_letterPlace e.1 = .ok e.2)) = true := by decide +kernel
theorem dX12_letterPlace_0 : decode cX12_letterPlace 0 = .ok (.aload_n 0, 1) := z_dk tdX12_letterPlace_0 0 rfl
theorem dX12_letterPlace_1 : decode cX12_letterPlace 1 = .ok (.iload_n 1, 1) := z_dk tdX12_letterPlace_0 1 rfl
theorem dX12_letterPlace_2 : decode cX12_letterPlace 2 = .ok (.iload_n 2, 1) := z_dk tdX12_letterPlace_0 2 rfl
theorem dX12_letterPlace_3 : decode cX12_letterPlace 3 = .ok (.invokevirtual 393, 3) := z_dk tdX12_letterPlace_0 3 rfl
theorem dX12_letterPlace_6 : decode cX12_letterPlace 6 = .ok (.istore 4, 2) := z_dk tdX12_letterPlace_0 4 rfl
theorem dX12_letterPlace_8 : decode cX12_letterPlace 8 = .ok (.aload_n 0, 1) := z_dk tdX12_letterPlace_0 5 rfl
theorem dX12_letterPlace_9 : decode cX12_letterPlace 9 = .ok (.getfield 122, 3) := z_dk tdX12_letterPlace_0 6 rfl
theorem dX12_letterPlace_12 : decode cX12_letterPlace 12 = .ok (.aload_n 0, 1) := z_dk tdX12_letterPlace_0 7 rfl
theorem dX12_letterPlace_13 : decode cX12_letterPlace 13 = .ok (.getfield 149, 3) := z_dk tdX12_letterPlace_0 8 rfl
theorem dX12_letterPlace_16 : decode cX12_letterPlace 16 = .ok (.iload_n 1, 1) := z_dk tdX12_letterPlace_0 9 rfl
theorem dX12_letterPlace_17 : decode cX12_letterPlace 17 = .ok (.aaload, 1) := z_dk tdX12_letterPlace_0 10 rfl
theorem dX12_letterPlace_18 : decode cX12_letterPlace 18 = .ok (.iconst 0, 1) := z_dk tdX12_letterPlace_0 11 rfl
theorem dX12_letterPlace_19 : decode cX12_letterPlace 19 = .ok (.iaload, 1) := z_dk tdX12_letterPlace_0 12 rfl
theorem dX12_letterPlace_20 : decode cX12_letterPlace 20 = .ok (.iaload, 1) := z_dk tdX12_letterPlace_0 13 rfl
theorem dX12_letterPlace_21 : decode cX12_letterPlace 21 = .ok (.istore 5, 2) := z_dk tdX12_letterPlace_0 14 rfl
theorem dX12_letterPlace_23 : decode cX12_letterPlace 23 = .ok (.aload_n 0, 1) := z_dk tdX12_letterPlace_0 15 rfl
theorem dX12_letterPlace_24 : decode cX12_letterPlace 24 = .ok (.getfield 149, 3) := z_dk tdX12_letterPlace_0 16 rfl
theorem dX12_letterPlace_27 : decode cX12_letterPlace 27 = .ok (.iload_n 1, 1) := z_dk tdX12_letterPlace_0 17 rfl
theorem dX12_letterPlace_28 : decode cX12_letterPlace 28 = .ok (.aaload, 1) := z_dk tdX12_letterPlace_0 18 rfl
theorem dX12_letterPlace_29 : decode cX12_letterPlace 29 = .ok (.iconst 2, 1) := z_dk tdX12_letterPlace_0 19 rfl
theorem dX12_letterPlace_30 : decode cX12_letterPlace 30 = .ok (.iaload, 1) := z_dk tdX12_letterPlace_0 20 rfl
theorem dX12_letterPlace_31 : decode cX12_letterPlace 31 = .ok (.istore 6, 2) := z_dk tdX12_letterPlace_0 21 rfl
theorem dX12_letterPlace_33 : decode cX12_letterPlace 33 = .ok (.bipush 6, 2) := z_dk tdX12_letterPlace_0 22 rfl
theorem dX12_letterPlace_35 : decode cX12_letterPlace 35 = .ok (.iload 4, 2) := z_dk tdX12_letterPlace_0 23 rfl
theorem tdX12_letterPlace_37 : (([(37, .imul, 1), (38, .iload 6, 2), (40, .if_icmp .le 22, 3), (43, .iload 5, 2), (45, .bipush 6, 2), (47, .iload 4, 2), (49, .imul, 1), (50, .iload 6, 2), (52, .isub, 1), (53, .iconst 2, 1), (54, .idiv, 1), (55, .isub, 1), (56, .bipush 6, 2), (58, .iload_n 3, 1), (59, .imul, 1), (60, .iadd, 1), (61, .ireturn, 1), (62, .iload 5, 2), (64, .iload 6, 2), (66, .iconst 2, 1), (67, .iload_n 3, 1), (68, .imul, 1), (69, .iconst 1, 1), (70, .iadd, 1)] : List (Nat × Instr × Nat)).all fun e => decide (decode cX12_letterPlace e.1 = .ok e.2)) = true := by decide +kernel
theorem dX12_letterPlace_37 : decode cX12_letterPlace 37 = .ok (.imul, 1) := z_dk tdX12_letterPlace_37 0 rfl
theorem dX12_letterPlace_38 : decode cX12_letterPlace 38 = .ok (.iload 6, 2) := z_dk tdX12_letterPlace_37 1 rfl
theorem dX12_letterPlace_40 : decode cX12_letterPlace 40 = .ok (.if_icmp .le 22, 3) := z_dk tdX12_letterPlace_37 2 rfl
theorem dX12_letterPlace_43 : decode cX12_letterPlace 43 = .ok (.iload 5, 2) := z_dk tdX12_letterPlace_37 3 rfl
theorem dX12_letterPlace_45 : decode cX12_letterPlace 45 = .ok (.bipush 6, 2) := z_dk tdX12_letterPlace_37 4 rfl
theorem dX12_letterPlace_47 : decode cX12_letterPlace 47 = .ok (.iload 4, 2) := z_dk tdX12_letterPlace_37 5 rfl
theorem dX12_letterPlace_49 : decode cX12_letterPlace 49 = .ok (.imul, 1) := z_dk tdX12_letterPlace_37 6 rfl
theorem dX12_letterPlace_50 : decode cX12_letterPlace 50 = .ok (.iload 6, 2) := z_dk tdX12_letterPlace_37 7 rfl
theorem dX12_letterPlace_52 : decode cX12_letterPlace 52 = .ok (.isub, 1) := z_dk tdX12_letterPlace_37 8 rfl
theorem dX12_letterPlace_53 : decode cX12_letterPlace 53 = .ok (.iconst 2, 1) := z_dk tdX12_letterPlace_37 9 rfl
theorem dX12_letterPlace_54 : decode cX12_letterPlace 54 = .ok (.idiv, 1) := z_dk tdX12_letterPlace_37 10 rfl
theorem dX12_letterPlace_55 : decode cX12_letterPlace 55 = .ok (.isub, 1) := z_dk tdX12_letterPlace_37 11 rfl
theorem dX12_letterPlace_56 : decode cX12_letterPlace 56 = .ok (.bipush 6, 2) := z_dk tdX12_letterPlace_37 12 rfl
theorem dX12_letterPlace_58 : decode cX12_letterPlace 58 = .ok (.iload_n 3, 1) := z_dk tdX12_letterPlace_37 13 rfl
theorem dX12_letterPlace_59 : decode cX12_letterPlace 59 = .ok (.imul, 1) := z_dk tdX12_letterPlace_37 14 rfl
theorem dX12_letterPlace_60 : decode cX12_letterPlace 60 = .ok (.iadd, 1) := z_dk tdX12_letterPlace_37 15 rfl
theorem dX12_letterPlace_61 : decode cX12_letterPlace 61 = .ok (.ireturn, 1) := z_dk tdX12_letterPlace_37 16 rfl
theorem dX12_letterPlace_62 : decode cX12_letterPlace 62 = .ok (.iload 5, 2) := z_dk tdX12_letterPlace_37 17 rfl
theorem dX12_letterPlace_64 : decode cX12_letterPlace 64 = .ok (.iload 6, 2) := z_dk tdX12_letterPlace_37 18 rfl
theorem dX12_letterPlace_66 : decode cX12_letterPlace 66 = .ok (.iconst 2, 1) := z_dk tdX12_letterPlace_37 19 rfl
theorem dX12_letterPlace_67 : decode cX12_letterPlace 67 = .ok (.iload_n 3, 1) := z_dk tdX12_letterPlace_37 20 rfl
theorem dX12_letterPlace_68 : decode cX12_letterPlace 68 = .ok (.imul, 1) := z_dk tdX12_letterPlace_37 21 rfl
theorem dX12_letterPlace_69 : decode cX12_letterPlace 69 = .ok (.iconst 1, 1) := z_dk tdX12_letterPlace_37 22 rfl
theorem dX12_letterPlace_70 : decode cX12_letterPlace 70 = .ok (.iadd, 1) := z_dk tdX12_letterPlace_37 23 rfl
theorem tdX12_letterPlace_71 : (([(71, .imul, 1), (72, .iconst 2, 1), (73, .iload 4, 2), (75, .imul, 1), (76, .idiv, 1), (77, .iadd, 1), (78, .iconst 3, 1), (79, .isub, 1), (80, .ireturn, 1)] : List (Nat × Instr × Nat)).all fun e => decide (decode cX12_letterPlace e.1 = .ok e.2)) = true := by decide +kernel
theorem dX12_letterPlace_71 : decode cX12_letterPlace 71 = .ok (.imul, 1) := z_dk tdX12_letterPlace_71 0 rfl
theorem dX12_letterPlace_72 : decode cX12_letterPlace 72 = .ok (.iconst 2, 1) := z_dk tdX12_letterPlace_71 1 rfl
theorem dX12_letterPlace_73 : decode cX12_letterPlace 73 = .ok (.iload 4, 2) := z_dk tdX12_letterPlace_71 2 rfl
theorem dX12_letterPlace_75 : decode cX12_letterPlace 75 = .ok (.imul, 1) := z_dk tdX12_letterPlace_71 3 rfl
theorem dX12_letterPlace_76 : decode cX12_letterPlace 76 = .ok (.idiv, 1) := z_dk tdX12_letterPlace_71 4 rfl
theorem dX12_letterPlace_77 : decode cX12_letterPlace 77 = .ok (.iadd, 1) := z_dk tdX12_letterPlace_71 5 rfl
theorem dX12_letterPlace_78 : decode cX12_letterPlace 78 = .ok (.iconst 3, 1) := z_dk tdX12_letterPlace_71 6 rfl
theorem dX12_letterPlace_79 : decode cX12_letterPlace 79 = .ok (.isub, 1) := z_dk tdX12_letterPlace_71 7 rfl
theorem dX12_letterPlace_80 : decode cX12_letterPlace 80 = .ok (.ireturn, 1) := z_dk tdX12_letterPlace_71 8 rfl
theorem tdX12_reading_0 : (([(0, .aload_n 0, 1), (1, .iconst 0, 1), (2, .putfield 170, 3), (5, .aload_n 0, 1), (6, .invokevirtual 371, 3), (9, .aload_n 0, 1), (10, .iload_n 1, 1), (11, .iconst 0, 1), (12, .aload_n 0, 1), (13, .getfield 359, 3), (16, .iconst 1, 1), (17, .isub, 1), (18, .invokestatic 245, 3), (21, .ifCond .ne 7, 3), (24, .iconst 1, 1), (25, .goto 4, 3), (28, .iconst 0, 1), (29, .iconst 1, 1), (30, .iconst 0, 1), (31, .invokevirtual 249, 3), (34, .ifCond .ne 36, 3), (37, .aload_n 0, 1), (38, .iload_n 2, 1), (39, .iconst 0, 1)] : List (Nat × Instr × Nat)).all fun e => decide (decode cX12_reading e.1 = .ok e.2)) = true := by decide +kernel
theorem dX12_reading_0 : decode cX12_reading 0 = .ok (.aload_n 0, 1) := z_dk tdX12_reading_0 0 rfl
theorem dX12_reading_1 : decode cX12_reading 1 = .ok (.iconst 0, 1) := z_dk tdX12_reading_0 1 rfl
theorem dX12_reading_2 : decode cX12_reading 2 = .ok (.putfield 170, 3) := z_dk tdX12_reading_0 2 rfl
theorem dX12_reading_5 : decode cX12_reading 5 = .ok (.aload_n 0, 1) := z_dk tdX12_reading_0 3 rfl
theorem dX12_reading_6 : decode cX12_reading 6 = .ok (.invokevirtual 371, 3) := z_dk tdX12_reading_0 4 rfl
theorem dX12_reading_9 : decode cX12_reading 9 = .ok (.aload_n 0, 1) := z_dk tdX12_reading_0 5 rfl
theorem dX12_reading_10 : decode cX12_reading 10 = .ok (.iload_n 1, 1) := z_dk tdX12_reading_0 6 rfl
theorem dX12_reading_11 : decode cX12_reading 11 = .ok (.iconst 0, 1) := z_dk tdX12_reading_0 7 rfl
theorem dX12_reading_12 : decode cX12_reading 12 = .ok (.aload_n 0, 1) := z_dk tdX12_reading_0 8 rfl
theorem dX12_reading_13 : decode cX12_reading 13 = .ok (.getfield 359, 3) := z_dk tdX12_reading_0 9 rfl
theorem dX12_reading_16 : decode cX12_reading 16 = .ok (.iconst 1, 1) := z_dk tdX12_reading_0 10 rfl
theorem dX12_reading_17 : decode cX12_reading 17 = .ok (.isub, 1) := z_dk tdX12_reading_0 11 rfl
theorem dX12_reading_18 : decode cX12_reading 18 = .ok (.invokestatic 245, 3) := z_dk tdX12_reading_0 12 rfl
theorem dX12_reading_21 : decode cX12_reading 21 = .ok (.ifCond .ne 7, 3) := z_dk tdX12_reading_0 13 rfl
theorem dX12_reading_24 : decode cX12_reading 24 = .ok (.iconst 1, 1) := z_dk tdX12_reading_0 14 rfl
theorem dX12_reading_25 : decode cX12_reading 25 = .ok (.goto 4, 3) := z_dk tdX12_reading_0 15 rfl
theorem dX12_reading_28 : decode cX12_reading 28 = .ok (.iconst 0, 1) := z_dk tdX12_reading_0 16 rfl
theorem dX12_reading_29 : decode cX12_reading 29 = .ok (.iconst 1, 1) := z_dk tdX12_reading_0 17 rfl
theorem dX12_reading_30 : decode cX12_reading 30 = .ok (.iconst 0, 1) := z_dk tdX12_reading_0 18 rfl
theorem dX12_reading_31 : decode cX12_reading 31 = .ok (.invokevirtual 249, 3) := z_dk tdX12_reading_0 19 rfl
theorem dX12_reading_34 : decode cX12_reading 34 = .ok (.ifCond .ne 36, 3) := z_dk tdX12_reading_0 20 rfl
theorem dX12_reading_37 : decode cX12_reading 37 = .ok (.aload_n 0, 1) := z_dk tdX12_reading_0 21 rfl
theorem dX12_reading_38 : decode cX12_reading 38 = .ok (.iload_n 2, 1) := z_dk tdX12_reading_0 22 rfl
theorem dX12_reading_39 : decode cX12_reading 39 = .ok (.iconst 0, 1) := z_dk tdX12_reading_0 23 rfl
theorem tdX12_reading_40 : (([(40, .iconst 1, 1), (41, .invokestatic 245, 3), (44, .ifCond .eq 13, 3), (47, .iload 4, 2), (49, .iconst 0, 1), (50, .iconst 1, 1), (51, .invokestatic 245, 3), (54, .ifCond .ne 7, 3), (57, .iconst 1, 1), (58, .goto 4, 3), (61, .iconst 0, 1), (62, .iconst 2, 1), (63, .iconst 1, 1), (64, .invokevirtual 249, 3), (67, .ifCond .eq 5, 3), (70, .iconst 0, 1), (71, .ireturn, 1), (72, .iload_n 3, 1), (73, .iconst 0, 1), (74, .aload_n 0, 1), (75, .iload_n 1, 1), (76, .iload_n 2, 1), (77, .invokevirtual 393, 3), (80, .iconst 1, 1)] : List (Nat × Instr × Nat)).all fun e => decide (decode cX12_reading e.1 = .ok e.2)) = true := by decide +kernel
theorem dX12_reading_40 : decode cX12_reading 40 = .ok (.iconst 1, 1) := z_dk tdX12_reading_40 0 rfl
theorem dX12_reading_41 : decode cX12_reading 41 = .ok (.invokestatic 245, 3) := z_dk tdX12_reading_40 1 rfl
theorem dX12_reading_44 : decode cX12_reading 44 = .ok (.ifCond .eq 13, 3) := z_dk tdX12_reading_40 2 rfl
theorem dX12_reading_47 : decode cX12_reading 47 = .ok (.iload 4, 2) := z_dk tdX12_reading_40 3 rfl
theorem dX12_reading_49 : decode cX12_reading 49 = .ok (.iconst 0, 1) := z_dk tdX12_reading_40 4 rfl
theorem dX12_reading_50 : decode cX12_reading 50 = .ok (.iconst 1, 1) := z_dk tdX12_reading_40 5 rfl
theorem dX12_reading_51 : decode cX12_reading 51 = .ok (.invokestatic 245, 3) := z_dk tdX12_reading_40 6 rfl
theorem dX12_reading_54 : decode cX12_reading 54 = .ok (.ifCond .ne 7, 3) := z_dk tdX12_reading_40 7 rfl
theorem dX12_reading_57 : decode cX12_reading 57 = .ok (.iconst 1, 1) := z_dk tdX12_reading_40 8 rfl
theorem dX12_reading_58 : decode cX12_reading 58 = .ok (.goto 4, 3) := z_dk tdX12_reading_40 9 rfl
theorem dX12_reading_61 : decode cX12_reading 61 = .ok (.iconst 0, 1) := z_dk tdX12_reading_40 10 rfl
theorem dX12_reading_62 : decode cX12_reading 62 = .ok (.iconst 2, 1) := z_dk tdX12_reading_40 11 rfl
theorem dX12_reading_63 : decode cX12_reading 63 = .ok (.iconst 1, 1) := z_dk tdX12_reading_40 12 rfl
theorem dX12_reading_64 : decode cX12_reading 64 = .ok (.invokevirtual 249, 3) := z_dk tdX12_reading_40 13 rfl
theorem dX12_reading_67 : decode cX12_reading 67 = .ok (.ifCond .eq 5, 3) := z_dk tdX12_reading_40 14 rfl
theorem dX12_reading_70 : decode cX12_reading 70 = .ok (.iconst 0, 1) := z_dk tdX12_reading_40 15 rfl
theorem dX12_reading_71 : decode cX12_reading 71 = .ok (.ireturn, 1) := z_dk tdX12_reading_40 16 rfl
theorem dX12_reading_72 : decode cX12_reading 72 = .ok (.iload_n 3, 1) := z_dk tdX12_reading_40 17 rfl
theorem dX12_reading_73 : decode cX12_reading 73 = .ok (.iconst 0, 1) := z_dk tdX12_reading_40 18 rfl
theorem dX12_reading_74 : decode cX12_reading 74 = .ok (.aload_n 0, 1) := z_dk tdX12_reading_40 19 rfl
theorem dX12_reading_75 : decode cX12_reading 75 = .ok (.iload_n 1, 1) := z_dk tdX12_reading_40 20 rfl
theorem dX12_reading_76 : decode cX12_reading 76 = .ok (.iload_n 2, 1) := z_dk tdX12_reading_40 21 rfl
theorem dX12_reading_77 : decode cX12_reading 77 = .ok (.invokevirtual 393, 3) := z_dk tdX12_reading_40 22 rfl
theorem dX12_reading_80 : decode cX12_reading 80 = .ok (.iconst 1, 1) := z_dk tdX12_reading_40 23 rfl
theorem tdX12_reading_81 : (([(81, .isub, 1), (82, .invokestatic 245, 3), (85, .ifCond .ne 16, 3), (88, .iload 4, 2), (90, .ifCond .ne 7, 3), (93, .iconst (-1), 1), (94, .goto 6, 3), (97, .sipush (-1000), 3), (100, .ireturn, 1), (101, .iload 4, 2), (103, .ifCond .ne 13, 3), (106, .aload_n 0, 1), (107, .iload_n 1, 1), (108, .iload_n 2, 1), (109, .iload_n 3, 1), (110, .invokevirtual 396, 3), (113, .goto 10, 3), (116, .aload_n 0, 1), (117, .iload_n 1, 1), (118, .iload_n 2, 1), (119, .iload_n 3, 1), (120, .invokevirtual 399, 3), (123, .ireturn, 1)] : List (Nat × Instr × Nat)).all fun e => decide (decode cX12_reading e.1 = .ok e.2)) = true := by decide +kernel
theorem dX12_reading_81 : decode cX12_reading 81 = .ok (.isub, 1) := z_dk tdX12_reading_81 0 rfl
theorem dX12_reading_82 : decode cX12_reading 82 = .ok (.invokestatic 245, 3) := z_dk tdX12_reading_81 1 rfl
theorem dX12_reading_85 : decode cX12_reading 85 = .ok (.ifCond .ne 16, 3) := z_dk tdX12_reading_81 2 rfl
theorem dX12_reading_88 : decode cX12_reading 88 = .ok (.iload 4, 2) := z_dk tdX12_reading_81 3 rfl
theorem dX12_reading_90 : decode cX12_reading 90 = .ok (.ifCond .ne 7, 3) := z_dk tdX12_reading_81 4 rfl
theorem dX12_reading_93 : decode cX12_reading 93 = .ok (.iconst (-1), 1) := z_dk tdX12_reading_81 5 rfl
theorem dX12_reading_94 : decode cX12_reading 94 = .ok (.goto 6, 3) := z_dk tdX12_reading_81 6 rfl
theorem dX12_reading_97 : decode cX12_reading 97 = .ok (.sipush (-1000), 3) := z_dk tdX12_reading_81 7 rfl
theorem dX12_reading_100 : decode cX12_reading 100 = .ok (.ireturn, 1) := z_dk tdX12_reading_81 8 rfl
theorem dX12_reading_101 : decode cX12_reading 101 = .ok (.iload 4, 2) := z_dk tdX12_reading_81 9 rfl
theorem dX12_reading_103 : decode cX12_reading 103 = .ok (.ifCond .ne 13, 3) := z_dk tdX12_reading_81 10 rfl
theorem dX12_reading_106 : decode cX12_reading 106 = .ok (.aload_n 0, 1) := z_dk tdX12_reading_81 11 rfl
theorem dX12_reading_107 : decode cX12_reading 107 = .ok (.iload_n 1, 1) := z_dk tdX12_reading_81 12 rfl
theorem dX12_reading_108 : decode cX12_reading 108 = .ok (.iload_n 2, 1) := z_dk tdX12_reading_81 13 rfl
theorem dX12_reading_109 : decode cX12_reading 109 = .ok (.iload_n 3, 1) := z_dk tdX12_reading_81 14 rfl
theorem dX12_reading_110 : decode cX12_reading 110 = .ok (.invokevirtual 396, 3) := z_dk tdX12_reading_81 15 rfl
theorem dX12_reading_113 : decode cX12_reading 113 = .ok (.goto 10, 3) := z_dk tdX12_reading_81 16 rfl
theorem dX12_reading_116 : decode cX12_reading 116 = .ok (.aload_n 0, 1) := z_dk tdX12_reading_81 17 rfl
theorem dX12_reading_117 : decode cX12_reading 117 = .ok (.iload_n 1, 1) := z_dk tdX12_reading_81 18 rfl
theorem dX12_reading_118 : decode cX12_reading 118 = .ok (.iload_n 2, 1) := z_dk tdX12_reading_81 19 rfl
theorem dX12_reading_119 : decode cX12_reading 119 = .ok (.iload_n 3, 1) := z_dk tdX12_reading_81 20 rfl
theorem dX12_reading_120 : decode cX12_reading 120 = .ok (.invokevirtual 399, 3) := z_dk tdX12_reading_81 21 rfl
theorem dX12_reading_123 : decode cX12_reading 123 = .ok (.ireturn, 1) := z_dk tdX12_reading_81 22 rfl
theorem tdX12_run_0 : (([(0, .aload_n 0, 1), (1, .iconst 0, 1), (2, .putfield 170, 3), (5, .aload_n 0, 1), (6, .iload_n 2, 1), (7, .iconst 0, 1), (8, .iconst 2, 1), (9, .invokestatic 245, 3), (12, .ifCond .ne 7, 3), (15, .iconst 1, 1), (16, .goto 4, 3), (19, .iconst 0, 1), (20, .iconst 1, 1), (21, .iconst 1, 1), (22, .invokevirtual 249, 3), (25, .ifCond .eq 5, 3), (28, .iconst 0, 1), (29, .ireturn, 1), (30, .iconst (-1), 1), (31, .istore_n 3, 1), (32, .iconst 0, 1), (33, .istore 4, 2), (35, .iload 4, 2), (37, .aload_n 0, 1)] : List (Nat × Instr × Nat)).all fun e => decide (decode cX12_run e.1 = .ok e.2)) = true := by decide +kernel
theorem dX12_run_0 : decode cX12_run 0 = .ok (.aload_n 0, 1) := z_dk tdX12_run_0 0 rfl
theorem dX12_run_1 : decode cX12_run 1 = .ok (.iconst 0, 1) := z_dk tdX12_run_0 1 rfl
theorem dX12_run_2 : decode cX12_run 2 = .ok (.putfield 170, 3) := z_dk tdX12_run_0 2 rfl
theorem dX12_run_5 : decode cX12_run 5 = .ok (.aload_n 0, 1) := z_dk tdX12_run_0 3 rfl
theorem dX12_run_6 : decode cX12_run 6 = .ok (.iload_n 2, 1) := z_dk tdX12_run_0 4 rfl
theorem dX12_run_7 : decode cX12_run 7 = .ok (.iconst 0, 1) := z_dk tdX12_run_0 5 rfl
theorem dX12_run_8 : decode cX12_run 8 = .ok (.iconst 2, 1) := z_dk tdX12_run_0 6 rfl
theorem dX12_run_9 : decode cX12_run 9 = .ok (.invokestatic 245, 3) := z_dk tdX12_run_0 7 rfl
theorem dX12_run_12 : decode cX12_run 12 = .ok (.ifCond .ne 7, 3) := z_dk tdX12_run_0 8 rfl
theorem dX12_run_15 : decode cX12_run 15 = .ok (.iconst 1, 1) := z_dk tdX12_run_0 9 rfl
theorem dX12_run_16 : decode cX12_run 16 = .ok (.goto 4, 3) := z_dk tdX12_run_0 10 rfl
theorem dX12_run_19 : decode cX12_run 19 = .ok (.iconst 0, 1) := z_dk tdX12_run_0 11 rfl
theorem dX12_run_20 : decode cX12_run 20 = .ok (.iconst 1, 1) := z_dk tdX12_run_0 12 rfl
theorem dX12_run_21 : decode cX12_run 21 = .ok (.iconst 1, 1) := z_dk tdX12_run_0 13 rfl
theorem dX12_run_22 : decode cX12_run 22 = .ok (.invokevirtual 249, 3) := z_dk tdX12_run_0 14 rfl
theorem dX12_run_25 : decode cX12_run 25 = .ok (.ifCond .eq 5, 3) := z_dk tdX12_run_0 15 rfl
theorem dX12_run_28 : decode cX12_run 28 = .ok (.iconst 0, 1) := z_dk tdX12_run_0 16 rfl
theorem dX12_run_29 : decode cX12_run 29 = .ok (.ireturn, 1) := z_dk tdX12_run_0 17 rfl
theorem dX12_run_30 : decode cX12_run 30 = .ok (.iconst (-1), 1) := z_dk tdX12_run_0 18 rfl
theorem dX12_run_31 : decode cX12_run 31 = .ok (.istore_n 3, 1) := z_dk tdX12_run_0 19 rfl
theorem dX12_run_32 : decode cX12_run 32 = .ok (.iconst 0, 1) := z_dk tdX12_run_0 20 rfl
theorem dX12_run_33 : decode cX12_run 33 = .ok (.istore 4, 2) := z_dk tdX12_run_0 21 rfl
theorem dX12_run_35 : decode cX12_run 35 = .ok (.iload 4, 2) := z_dk tdX12_run_0 22 rfl
theorem dX12_run_37 : decode cX12_run 37 = .ok (.aload_n 0, 1) := z_dk tdX12_run_0 23 rfl
theorem tdX12_run_38 : (([(38, .getfield 31, 3), (41, .iconst 0, 1), (42, .aaload, 1), (43, .iconst 0, 1), (44, .iaload, 1), (45, .if_icmp .ge 98, 3), (48, .iconst 1, 1), (49, .istore 5, 2), (51, .iload 4, 2), (53, .iload 5, 2), (55, .iadd, 1), (56, .aload_n 0, 1), (57, .getfield 31, 3), (60, .iconst 0, 1), (61, .aaload, 1), (62, .iconst 0, 1), (63, .iaload, 1), (64, .if_icmp .ge 27, 3), (67, .aload_n 0, 1), (68, .iload 4, 2), (70, .iload 5, 2), (72, .iadd, 1), (73, .invokevirtual 387, 3), (76, .aload_n 0, 1)] : List (Nat × Instr × Nat)).all fun e => decide (decode cX12_run e.1 = .ok e.2)) = true := by decide +kernel
theorem dX12_run_38 : decode cX12_run 38 = .ok (.getfield 31, 3) := z_dk tdX12_run_38 0 rfl
theorem dX12_run_41 : decode cX12_run 41 = .ok (.iconst 0, 1) := z_dk tdX12_run_38 1 rfl
theorem dX12_run_42 : decode cX12_run 42 = .ok (.aaload, 1) := z_dk tdX12_run_38 2 rfl
theorem dX12_run_43 : decode cX12_run 43 = .ok (.iconst 0, 1) := z_dk tdX12_run_38 3 rfl
theorem dX12_run_44 : decode cX12_run 44 = .ok (.iaload, 1) := z_dk tdX12_run_38 4 rfl
theorem dX12_run_45 : decode cX12_run 45 = .ok (.if_icmp .ge 98, 3) := z_dk tdX12_run_38 5 rfl
theorem dX12_run_48 : decode cX12_run 48 = .ok (.iconst 1, 1) := z_dk tdX12_run_38 6 rfl
theorem dX12_run_49 : decode cX12_run 49 = .ok (.istore 5, 2) := z_dk tdX12_run_38 7 rfl
theorem dX12_run_51 : decode cX12_run 51 = .ok (.iload 4, 2) := z_dk tdX12_run_38 8 rfl
theorem dX12_run_53 : decode cX12_run 53 = .ok (.iload 5, 2) := z_dk tdX12_run_38 9 rfl
theorem dX12_run_55 : decode cX12_run 55 = .ok (.iadd, 1) := z_dk tdX12_run_38 10 rfl
theorem dX12_run_56 : decode cX12_run 56 = .ok (.aload_n 0, 1) := z_dk tdX12_run_38 11 rfl
theorem dX12_run_57 : decode cX12_run 57 = .ok (.getfield 31, 3) := z_dk tdX12_run_38 12 rfl
theorem dX12_run_60 : decode cX12_run 60 = .ok (.iconst 0, 1) := z_dk tdX12_run_38 13 rfl
theorem dX12_run_61 : decode cX12_run 61 = .ok (.aaload, 1) := z_dk tdX12_run_38 14 rfl
theorem dX12_run_62 : decode cX12_run 62 = .ok (.iconst 0, 1) := z_dk tdX12_run_38 15 rfl
theorem dX12_run_63 : decode cX12_run 63 = .ok (.iaload, 1) := z_dk tdX12_run_38 16 rfl
theorem dX12_run_64 : decode cX12_run 64 = .ok (.if_icmp .ge 27, 3) := z_dk tdX12_run_38 17 rfl
theorem dX12_run_67 : decode cX12_run 67 = .ok (.aload_n 0, 1) := z_dk tdX12_run_38 18 rfl
theorem dX12_run_68 : decode cX12_run 68 = .ok (.iload 4, 2) := z_dk tdX12_run_38 19 rfl
theorem dX12_run_70 : decode cX12_run 70 = .ok (.iload 5, 2) := z_dk tdX12_run_38 20 rfl
theorem dX12_run_72 : decode cX12_run 72 = .ok (.iadd, 1) := z_dk tdX12_run_38 21 rfl
theorem dX12_run_73 : decode cX12_run 73 = .ok (.invokevirtual 387, 3) := z_dk tdX12_run_38 22 rfl
theorem dX12_run_76 : decode cX12_run 76 = .ok (.aload_n 0, 1) := z_dk tdX12_run_38 23 rfl
theorem tdX12_run_77 : (([(77, .iload 4, 2), (79, .invokevirtual 387, 3), (82, .if_icmp .ne 9, 3), (85, .iinc 5 1, 3), (88, .goto (-37), 3), (91, .iinc 3 1, 3), (94, .iload_n 3, 1), (95, .iload_n 1, 1), (96, .if_icmp .ne 37, 3), (99, .iload_n 2, 1), (100, .ifCond .ne 8, 3), (103, .iload 4, 2), (105, .goto 27, 3), (108, .iload_n 2, 1), (109, .iconst 1, 1), (110, .if_icmp .ne 8, 3), (113, .iload 5, 2), (115, .goto 17, 3), (118, .aload_n 0, 1), (119, .iload 4, 2), (121, .invokevirtual 387, 3), (124, .ifCond .eq 7, 3), (127, .iconst 1, 1), (128, .goto 4, 3)] : List (Nat × Instr × Nat)).all fun e => decide (decode cX12_run e.1 = .ok e.2)) = true := by decide +kernel
theorem dX12_run_77 : decode cX12_run 77 = .ok (.iload 4, 2) := z_dk tdX12_run_77 0 rfl
theorem dX12_run_79 : decode cX12_run 79 = .ok (.invokevirtual 387, 3) := z_dk tdX12_run_77 1 rfl
theorem dX12_run_82 : decode cX12_run 82 = .ok (.if_icmp .ne 9, 3) := z_dk tdX12_run_77 2 rfl
theorem dX12_run_85 : decode cX12_run 85 = .ok (.iinc 5 1, 3) := z_dk tdX12_run_77 3 rfl
theorem dX12_run_88 : decode cX12_run 88 = .ok (.goto (-37), 3) := z_dk tdX12_run_77 4 rfl
theorem dX12_run_91 : decode cX12_run 91 = .ok (.iinc 3 1, 3) := z_dk tdX12_run_77 5 rfl
theorem dX12_run_94 : decode cX12_run 94 = .ok (.iload_n 3, 1) := z_dk tdX12_run_77 6 rfl
theorem dX12_run_95 : decode cX12_run 95 = .ok (.iload_n 1, 1) := z_dk tdX12_run_77 7 rfl
theorem dX12_run_96 : decode cX12_run 96 = .ok (.if_icmp .ne 37, 3) := z_dk tdX12_run_77 8 rfl
theorem dX12_run_99 : decode cX12_run 99 = .ok (.iload_n 2, 1) := z_dk tdX12_run_77 9 rfl
theorem dX12_run_100 : decode cX12_run 100 = .ok (.ifCond .ne 8, 3) := z_dk tdX12_run_77 10 rfl
theorem dX12_run_103 : decode cX12_run 103 = .ok (.iload 4, 2) := z_dk tdX12_run_77 11 rfl
theorem dX12_run_105 : decode cX12_run 105 = .ok (.goto 27, 3) := z_dk tdX12_run_77 12 rfl
theorem dX12_run_108 : decode cX12_run 108 = .ok (.iload_n 2, 1) := z_dk tdX12_run_77 13 rfl
theorem dX12_run_109 : decode cX12_run 109 = .ok (.iconst 1, 1) := z_dk tdX12_run_77 14 rfl
theorem dX12_run_110 : decode cX12_run 110 = .ok (.if_icmp .ne 8, 3) := z_dk tdX12_run_77 15 rfl
theorem dX12_run_113 : decode cX12_run 113 = .ok (.iload 5, 2) := z_dk tdX12_run_77 16 rfl
theorem dX12_run_115 : decode cX12_run 115 = .ok (.goto 17, 3) := z_dk tdX12_run_77 17 rfl
theorem dX12_run_118 : decode cX12_run 118 = .ok (.aload_n 0, 1) := z_dk tdX12_run_77 18 rfl
theorem dX12_run_119 : decode cX12_run 119 = .ok (.iload 4, 2) := z_dk tdX12_run_77 19 rfl
theorem dX12_run_121 : decode cX12_run 121 = .ok (.invokevirtual 387, 3) := z_dk tdX12_run_77 20 rfl
theorem dX12_run_124 : decode cX12_run 124 = .ok (.ifCond .eq 7, 3) := z_dk tdX12_run_77 21 rfl
theorem dX12_run_127 : decode cX12_run 127 = .ok (.iconst 1, 1) := z_dk tdX12_run_77 22 rfl
theorem dX12_run_128 : decode cX12_run 128 = .ok (.goto 4, 3) := z_dk tdX12_run_77 23 rfl
theorem tdX12_run_131 : (([(131, .iconst 0, 1), (132, .ireturn, 1), (133, .iload 4, 2), (135, .iload 5, 2), (137, .iadd, 1), (138, .istore 4, 2), (140, .goto (-105), 3), (143, .iconst (-1), 1), (144, .ireturn, 1)] : List (Nat × Instr × Nat)).all fun e => decide (decode cX12_run e.1 = .ok e.2)) = true := by decide +kernel
theorem dX12_run_131 : decode cX12_run 131 = .ok (.iconst 0, 1) := z_dk tdX12_run_131 0 rfl
theorem dX12_run_132 : decode cX12_run 132 = .ok (.ireturn, 1) := z_dk tdX12_run_131 1 rfl
theorem dX12_run_133 : decode cX12_run 133 = .ok (.iload 4, 2) := z_dk tdX12_run_131 2 rfl
theorem dX12_run_135 : decode cX12_run 135 = .ok (.iload 5, 2) := z_dk tdX12_run_131 3 rfl
theorem dX12_run_137 : decode cX12_run 137 = .ok (.iadd, 1) := z_dk tdX12_run_131 4 rfl
theorem dX12_run_138 : decode cX12_run 138 = .ok (.istore 4, 2) := z_dk tdX12_run_131 5 rfl
theorem dX12_run_140 : decode cX12_run 140 = .ok (.goto (-105), 3) := z_dk tdX12_run_131 6 rfl
theorem dX12_run_143 : decode cX12_run 143 = .ok (.iconst (-1), 1) := z_dk tdX12_run_131 7 rfl
theorem dX12_run_144 : decode cX12_run 144 = .ok (.ireturn, 1) := z_dk tdX12_run_131 8 rfl
theorem tdX12_at_0 : (([(0, .aload_n 0, 1), (1, .iconst 0, 1), (2, .putfield 170, 3), (5, .aload_n 0, 1), (6, .invokevirtual 371, 3), (9, .aload_n 0, 1), (10, .iload_n 1, 1), (11, .iconst 0, 1), (12, .aload_n 0, 1), (13, .getfield 365, 3), (16, .iconst 1, 1), (17, .isub, 1), (18, .invokestatic 245, 3), (21, .ifCond .ne 7, 3), (24, .iconst 1, 1), (25, .goto 4, 3), (28, .iconst 0, 1), (29, .iconst 1, 1), (30, .iconst 0, 1), (31, .invokevirtual 249, 3), (34, .ifCond .eq 5, 3), (37, .iconst 0, 1), (38, .ireturn, 1), (39, .aload_n 0, 1)] : List (Nat × Instr × Nat)).all fun e => decide (decode cX12_at e.1 = .ok e.2)) = true := by decide +kernel
theorem dX12_at_0 : decode cX12_at 0 = .ok (.aload_n 0, 1) := z_dk tdX12_at_0 0 rfl
theorem dX12_at_1 : decode cX12_at 1 = .ok (.iconst 0, 1) := z_dk tdX12_at_0 1 rfl
theorem dX12_at_2 : decode cX12_at 2 = .ok (.putfield 170, 3) := z_dk tdX12_at_0 2 rfl
theorem dX12_at_5 : decode cX12_at 5 = .ok (.aload_n 0, 1) := z_dk tdX12_at_0 3 rfl
theorem dX12_at_6 : decode cX12_at 6 = .ok (.invokevirtual 371, 3) := z_dk tdX12_at_0 4 rfl
theorem dX12_at_9 : decode cX12_at 9 = .ok (.aload_n 0, 1) := z_dk tdX12_at_0 5 rfl
theorem dX12_at_10 : decode cX12_at 10 = .ok (.iload_n 1, 1) := z_dk tdX12_at_0 6 rfl
theorem dX12_at_11 : decode cX12_at 11 = .ok (.iconst 0, 1) := z_dk tdX12_at_0 7 rfl
theorem dX12_at_12 : decode cX12_at 12 = .ok (.aload_n 0, 1) := z_dk tdX12_at_0 8 rfl
theorem dX12_at_13 : decode cX12_at 13 = .ok (.getfield 365, 3) := z_dk tdX12_at_0 9 rfl
theorem dX12_at_16 : decode cX12_at 16 = .ok (.iconst 1, 1) := z_dk tdX12_at_0 10 rfl
theorem dX12_at_17 : decode cX12_at 17 = .ok (.isub, 1) := z_dk tdX12_at_0 11 rfl
theorem dX12_at_18 : decode cX12_at 18 = .ok (.invokestatic 245, 3) := z_dk tdX12_at_0 12 rfl
theorem dX12_at_21 : decode cX12_at 21 = .ok (.ifCond .ne 7, 3) := z_dk tdX12_at_0 13 rfl
theorem dX12_at_24 : decode cX12_at 24 = .ok (.iconst 1, 1) := z_dk tdX12_at_0 14 rfl
theorem dX12_at_25 : decode cX12_at 25 = .ok (.goto 4, 3) := z_dk tdX12_at_0 15 rfl
theorem dX12_at_28 : decode cX12_at 28 = .ok (.iconst 0, 1) := z_dk tdX12_at_0 16 rfl
theorem dX12_at_29 : decode cX12_at 29 = .ok (.iconst 1, 1) := z_dk tdX12_at_0 17 rfl
theorem dX12_at_30 : decode cX12_at 30 = .ok (.iconst 0, 1) := z_dk tdX12_at_0 18 rfl
theorem dX12_at_31 : decode cX12_at 31 = .ok (.invokevirtual 249, 3) := z_dk tdX12_at_0 19 rfl
theorem dX12_at_34 : decode cX12_at 34 = .ok (.ifCond .eq 5, 3) := z_dk tdX12_at_0 20 rfl
theorem dX12_at_37 : decode cX12_at 37 = .ok (.iconst 0, 1) := z_dk tdX12_at_0 21 rfl
theorem dX12_at_38 : decode cX12_at 38 = .ok (.ireturn, 1) := z_dk tdX12_at_0 22 rfl
theorem dX12_at_39 : decode cX12_at 39 = .ok (.aload_n 0, 1) := z_dk tdX12_at_0 23 rfl
theorem tdX12_at_40 : (([(40, .getfield 109, 3), (43, .iload_n 1, 1), (44, .iaload, 1), (45, .istore_n 3, 1), (46, .iload_n 3, 1), (47, .aload_n 0, 1), (48, .getfield 109, 3), (51, .iload_n 1, 1), (52, .iconst 1, 1), (53, .iadd, 1), (54, .iaload, 1), (55, .if_icmp .ge 97, 3), (58, .aload_n 0, 1), (59, .getfield 54, 3), (62, .iload_n 3, 1), (63, .iaload, 1), (64, .bipush 6, 2), (66, .if_icmp .ne 15, 3), (69, .aload_n 0, 1), (70, .getfield 131, 3), (73, .iload_n 3, 1), (74, .iaload, 1), (75, .ifCond .ne 6, 3), (78, .goto 68, 3)] : List (Nat × Instr × Nat)).all fun e => decide (decode cX12_at e.1 = .ok e.2)) = true := by decide +kernel
theorem dX12_at_40 : decode cX12_at 40 = .ok (.getfield 109, 3) := z_dk tdX12_at_40 0 rfl
theorem dX12_at_43 : decode cX12_at 43 = .ok (.iload_n 1, 1) := z_dk tdX12_at_40 1 rfl
theorem dX12_at_44 : decode cX12_at 44 = .ok (.iaload, 1) := z_dk tdX12_at_40 2 rfl
theorem dX12_at_45 : decode cX12_at 45 = .ok (.istore_n 3, 1) := z_dk tdX12_at_40 3 rfl
theorem dX12_at_46 : decode cX12_at 46 = .ok (.iload_n 3, 1) := z_dk tdX12_at_40 4 rfl
theorem dX12_at_47 : decode cX12_at 47 = .ok (.aload_n 0, 1) := z_dk tdX12_at_40 5 rfl
theorem dX12_at_48 : decode cX12_at 48 = .ok (.getfield 109, 3) := z_dk tdX12_at_40 6 rfl
theorem dX12_at_51 : decode cX12_at 51 = .ok (.iload_n 1, 1) := z_dk tdX12_at_40 7 rfl
theorem dX12_at_52 : decode cX12_at 52 = .ok (.iconst 1, 1) := z_dk tdX12_at_40 8 rfl
theorem dX12_at_53 : decode cX12_at 53 = .ok (.iadd, 1) := z_dk tdX12_at_40 9 rfl
theorem dX12_at_54 : decode cX12_at 54 = .ok (.iaload, 1) := z_dk tdX12_at_40 10 rfl
theorem dX12_at_55 : decode cX12_at 55 = .ok (.if_icmp .ge 97, 3) := z_dk tdX12_at_40 11 rfl
theorem dX12_at_58 : decode cX12_at 58 = .ok (.aload_n 0, 1) := z_dk tdX12_at_40 12 rfl
theorem dX12_at_59 : decode cX12_at 59 = .ok (.getfield 54, 3) := z_dk tdX12_at_40 13 rfl
theorem dX12_at_62 : decode cX12_at 62 = .ok (.iload_n 3, 1) := z_dk tdX12_at_40 14 rfl
theorem dX12_at_63 : decode cX12_at 63 = .ok (.iaload, 1) := z_dk tdX12_at_40 15 rfl
theorem dX12_at_64 : decode cX12_at 64 = .ok (.bipush 6, 2) := z_dk tdX12_at_40 16 rfl
theorem dX12_at_66 : decode cX12_at 66 = .ok (.if_icmp .ne 15, 3) := z_dk tdX12_at_40 17 rfl
theorem dX12_at_69 : decode cX12_at 69 = .ok (.aload_n 0, 1) := z_dk tdX12_at_40 18 rfl
theorem dX12_at_70 : decode cX12_at 70 = .ok (.getfield 131, 3) := z_dk tdX12_at_40 19 rfl
theorem dX12_at_73 : decode cX12_at 73 = .ok (.iload_n 3, 1) := z_dk tdX12_at_40 20 rfl
theorem dX12_at_74 : decode cX12_at 74 = .ok (.iaload, 1) := z_dk tdX12_at_40 21 rfl
theorem dX12_at_75 : decode cX12_at 75 = .ok (.ifCond .ne 6, 3) := z_dk tdX12_at_40 22 rfl
theorem dX12_at_78 : decode cX12_at 78 = .ok (.goto 68, 3) := z_dk tdX12_at_40 23 rfl
theorem tdX12_at_81 : (([(81, .aload_n 0, 1), (82, .getfield 57, 3), (85, .iload_n 3, 1), (86, .iaload, 1), (87, .istore 4, 2), (89, .iload 4, 2), (91, .aload_n 0, 1), (92, .getfield 57, 3), (95, .iload_n 3, 1), (96, .iaload, 1), (97, .aload_n 0, 1), (98, .getfield 60, 3), (101, .iload_n 3, 1), (102, .iaload, 1), (103, .iadd, 1), (104, .if_icmp .ge 42, 3), (107, .iload_n 2, 1), (108, .aload_n 0, 1), (109, .getfield 125, 3), (112, .iload 4, 2), (114, .iaload, 1), (115, .aload_n 0, 1), (116, .getfield 125, 3), (119, .iload 4, 2)] : List (Nat × Instr × Nat)).all fun e => decide (decode cX12_at e.1 = .ok e.2)) = true := by decide +kernel
theorem dX12_at_81 : decode cX12_at 81 = .ok (.aload_n 0, 1) := z_dk tdX12_at_81 0 rfl
theorem dX12_at_82 : decode cX12_at 82 = .ok (.getfield 57, 3) := z_dk tdX12_at_81 1 rfl
theorem dX12_at_85 : decode cX12_at 85 = .ok (.iload_n 3, 1) := z_dk tdX12_at_81 2 rfl
theorem dX12_at_86 : decode cX12_at 86 = .ok (.iaload, 1) := z_dk tdX12_at_81 3 rfl
theorem dX12_at_87 : decode cX12_at 87 = .ok (.istore 4, 2) := z_dk tdX12_at_81 4 rfl
theorem dX12_at_89 : decode cX12_at 89 = .ok (.iload 4, 2) := z_dk tdX12_at_81 5 rfl
theorem dX12_at_91 : decode cX12_at 91 = .ok (.aload_n 0, 1) := z_dk tdX12_at_81 6 rfl
theorem dX12_at_92 : decode cX12_at 92 = .ok (.getfield 57, 3) := z_dk tdX12_at_81 7 rfl
theorem dX12_at_95 : decode cX12_at 95 = .ok (.iload_n 3, 1) := z_dk tdX12_at_81 8 rfl
theorem dX12_at_96 : decode cX12_at 96 = .ok (.iaload, 1) := z_dk tdX12_at_81 9 rfl
theorem dX12_at_97 : decode cX12_at 97 = .ok (.aload_n 0, 1) := z_dk tdX12_at_81 10 rfl
theorem dX12_at_98 : decode cX12_at 98 = .ok (.getfield 60, 3) := z_dk tdX12_at_81 11 rfl
theorem dX12_at_101 : decode cX12_at 101 = .ok (.iload_n 3, 1) := z_dk tdX12_at_81 12 rfl
theorem dX12_at_102 : decode cX12_at 102 = .ok (.iaload, 1) := z_dk tdX12_at_81 13 rfl
theorem dX12_at_103 : decode cX12_at 103 = .ok (.iadd, 1) := z_dk tdX12_at_81 14 rfl
theorem dX12_at_104 : decode cX12_at 104 = .ok (.if_icmp .ge 42, 3) := z_dk tdX12_at_81 15 rfl
theorem dX12_at_107 : decode cX12_at 107 = .ok (.iload_n 2, 1) := z_dk tdX12_at_81 16 rfl
theorem dX12_at_108 : decode cX12_at 108 = .ok (.aload_n 0, 1) := z_dk tdX12_at_81 17 rfl
theorem dX12_at_109 : decode cX12_at 109 = .ok (.getfield 125, 3) := z_dk tdX12_at_81 18 rfl
theorem dX12_at_112 : decode cX12_at 112 = .ok (.iload 4, 2) := z_dk tdX12_at_81 19 rfl
theorem dX12_at_114 : decode cX12_at 114 = .ok (.iaload, 1) := z_dk tdX12_at_81 20 rfl
theorem dX12_at_115 : decode cX12_at 115 = .ok (.aload_n 0, 1) := z_dk tdX12_at_81 21 rfl
theorem dX12_at_116 : decode cX12_at 116 = .ok (.getfield 125, 3) := z_dk tdX12_at_81 22 rfl
theorem dX12_at_119 : decode cX12_at 119 = .ok (.iload 4, 2) := z_dk tdX12_at_81 23 rfl
theorem tdX12_at_121 : (([(121, .iaload, 1), (122, .aload_n 0, 1), (123, .iload 4, 2), (125, .invokevirtual 276, 3), (128, .iadd, 1), (129, .iconst 1, 1), (130, .isub, 1), (131, .invokestatic 245, 3), (134, .ifCond .eq 6, 3), (137, .iload 4, 2), (139, .ireturn, 1), (140, .iinc 4 1, 3), (143, .goto (-54), 3), (146, .iinc 3 1, 3), (149, .goto (-103), 3), (152, .iconst (-1), 1), (153, .ireturn, 1)] : List (Nat × Instr × Nat)).all fun e => decide (decode cX12_at e.1 = .ok e.2)) = true := by decide +kernel
theorem dX12_at_121 : decode cX12_at 121 = .ok (.iaload, 1) := z_dk tdX12_at_121 0 rfl
theorem dX12_at_122 : decode cX12_at 122 = .ok (.aload_n 0, 1) := z_dk tdX12_at_121 1 rfl
theorem dX12_at_123 : decode cX12_at 123 = .ok (.iload 4, 2) := z_dk tdX12_at_121 2 rfl
theorem dX12_at_125 : decode cX12_at 125 = .ok (.invokevirtual 276, 3) := z_dk tdX12_at_121 3 rfl
theorem dX12_at_128 : decode cX12_at 128 = .ok (.iadd, 1) := z_dk tdX12_at_121 4 rfl
theorem dX12_at_129 : decode cX12_at 129 = .ok (.iconst 1, 1) := z_dk tdX12_at_121 5 rfl
theorem dX12_at_130 : decode cX12_at 130 = .ok (.isub, 1) := z_dk tdX12_at_121 6 rfl
theorem dX12_at_131 : decode cX12_at 131 = .ok (.invokestatic 245, 3) := z_dk tdX12_at_121 7 rfl
theorem dX12_at_134 : decode cX12_at 134 = .ok (.ifCond .eq 6, 3) := z_dk tdX12_at_121 8 rfl
theorem dX12_at_137 : decode cX12_at 137 = .ok (.iload 4, 2) := z_dk tdX12_at_121 9 rfl
theorem dX12_at_139 : decode cX12_at 139 = .ok (.ireturn, 1) := z_dk tdX12_at_121 10 rfl
theorem dX12_at_140 : decode cX12_at 140 = .ok (.iinc 4 1, 3) := z_dk tdX12_at_121 11 rfl
theorem dX12_at_143 : decode cX12_at 143 = .ok (.goto (-54), 3) := z_dk tdX12_at_121 12 rfl
theorem dX12_at_146 : decode cX12_at 146 = .ok (.iinc 3 1, 3) := z_dk tdX12_at_121 13 rfl
theorem dX12_at_149 : decode cX12_at 149 = .ok (.goto (-103), 3) := z_dk tdX12_at_121 14 rfl
theorem dX12_at_152 : decode cX12_at 152 = .ok (.iconst (-1), 1) := z_dk tdX12_at_121 15 rfl
theorem dX12_at_153 : decode cX12_at 153 = .ok (.ireturn, 1) := z_dk tdX12_at_121 16 rfl
theorem tdX12_partner_0 : (([(0, .aload_n 0, 1), (1, .iconst 0, 1), (2, .putfield 170, 3), (5, .aload_n 0, 1), (6, .aload_n 0, 1), (7, .iload_n 1, 1), (8, .invokevirtual 384, 3), (11, .ifCond .ne 7, 3), (14, .iconst 1, 1), (15, .goto 4, 3), (18, .iconst 0, 1), (19, .iconst 1, 1), (20, .iconst 0, 1), (21, .invokevirtual 249, 3), (24, .ifCond .eq 5, 3), (27, .iconst 0, 1), (28, .ireturn, 1), (29, .aload_n 0, 1), (30, .invokevirtual 326, 3), (33, .aload_n 0, 1), (34, .getfield 99, 3), (37, .iload_n 1, 1), (38, .iaload, 1), (39, .ireturn, 1)] : List (Nat × Instr × Nat)).all fun e => decide (decode cX12_partner e.1 = .ok e.2)) = true := by decide +kernel
theorem dX12_partner_0 : decode cX12_partner 0 = .ok (.aload_n 0, 1) := z_dk tdX12_partner_0 0 rfl
theorem dX12_partner_1 : decode cX12_partner 1 = .ok (.iconst 0, 1) := z_dk tdX12_partner_0 1 rfl
theorem dX12_partner_2 : decode cX12_partner 2 = .ok (.putfield 170, 3) := z_dk tdX12_partner_0 2 rfl
theorem dX12_partner_5 : decode cX12_partner 5 = .ok (.aload_n 0, 1) := z_dk tdX12_partner_0 3 rfl
theorem dX12_partner_6 : decode cX12_partner 6 = .ok (.aload_n 0, 1) := z_dk tdX12_partner_0 4 rfl
theorem dX12_partner_7 : decode cX12_partner 7 = .ok (.iload_n 1, 1) := z_dk tdX12_partner_0 5 rfl
theorem dX12_partner_8 : decode cX12_partner 8 = .ok (.invokevirtual 384, 3) := z_dk tdX12_partner_0 6 rfl
theorem dX12_partner_11 : decode cX12_partner 11 = .ok (.ifCond .ne 7, 3) := z_dk tdX12_partner_0 7 rfl
theorem dX12_partner_14 : decode cX12_partner 14 = .ok (.iconst 1, 1) := z_dk tdX12_partner_0 8 rfl
theorem dX12_partner_15 : decode cX12_partner 15 = .ok (.goto 4, 3) := z_dk tdX12_partner_0 9 rfl
theorem dX12_partner_18 : decode cX12_partner 18 = .ok (.iconst 0, 1) := z_dk tdX12_partner_0 10 rfl
theorem dX12_partner_19 : decode cX12_partner 19 = .ok (.iconst 1, 1) := z_dk tdX12_partner_0 11 rfl
theorem dX12_partner_20 : decode cX12_partner 20 = .ok (.iconst 0, 1) := z_dk tdX12_partner_0 12 rfl
theorem dX12_partner_21 : decode cX12_partner 21 = .ok (.invokevirtual 249, 3) := z_dk tdX12_partner_0 13 rfl
theorem dX12_partner_24 : decode cX12_partner 24 = .ok (.ifCond .eq 5, 3) := z_dk tdX12_partner_0 14 rfl
theorem dX12_partner_27 : decode cX12_partner 27 = .ok (.iconst 0, 1) := z_dk tdX12_partner_0 15 rfl
theorem dX12_partner_28 : decode cX12_partner 28 = .ok (.ireturn, 1) := z_dk tdX12_partner_0 16 rfl
theorem dX12_partner_29 : decode cX12_partner 29 = .ok (.aload_n 0, 1) := z_dk tdX12_partner_0 17 rfl
theorem dX12_partner_30 : decode cX12_partner 30 = .ok (.invokevirtual 326, 3) := z_dk tdX12_partner_0 18 rfl
theorem dX12_partner_33 : decode cX12_partner 33 = .ok (.aload_n 0, 1) := z_dk tdX12_partner_0 19 rfl
theorem dX12_partner_34 : decode cX12_partner 34 = .ok (.getfield 99, 3) := z_dk tdX12_partner_0 20 rfl
theorem dX12_partner_37 : decode cX12_partner 37 = .ok (.iload_n 1, 1) := z_dk tdX12_partner_0 21 rfl
theorem dX12_partner_38 : decode cX12_partner 38 = .ok (.iaload, 1) := z_dk tdX12_partner_0 22 rfl
theorem dX12_partner_39 : decode cX12_partner 39 = .ok (.ireturn, 1) := z_dk tdX12_partner_0 23 rfl
theorem tdX12_addsThing_0 : (([(0, .aload_n 0, 1), (1, .getfield 152, 3), (4, .aload_n 0, 1), (5, .getfield 402, 3), (8, .aaload, 1), (9, .iconst 0, 1), (10, .iload_n 1, 1), (11, .iastore, 1), (12, .aload_n 0, 1), (13, .getfield 152, 3), (16, .aload_n 0, 1), (17, .getfield 402, 3), (20, .aaload, 1), (21, .iconst 1, 1), (22, .iload_n 2, 1), (23, .iastore, 1), (24, .aload_n 0, 1), (25, .dup, 1), (26, .getfield 402, 3), (29, .iconst 1, 1), (30, .iadd, 1), (31, .putfield 402, 3), (34, .return_, 1)] : List (Nat × Instr × Nat)).all fun e => decide (decode cX12_addsThing e.1 = .ok e.2)) = true := by decide +kernel
theorem dX12_addsThing_0 : decode cX12_addsThing 0 = .ok (.aload_n 0, 1) := z_dk tdX12_addsThing_0 0 rfl
theorem dX12_addsThing_1 : decode cX12_addsThing 1 = .ok (.getfield 152, 3) := z_dk tdX12_addsThing_0 1 rfl
theorem dX12_addsThing_4 : decode cX12_addsThing 4 = .ok (.aload_n 0, 1) := z_dk tdX12_addsThing_0 2 rfl
theorem dX12_addsThing_5 : decode cX12_addsThing 5 = .ok (.getfield 402, 3) := z_dk tdX12_addsThing_0 3 rfl
theorem dX12_addsThing_8 : decode cX12_addsThing 8 = .ok (.aaload, 1) := z_dk tdX12_addsThing_0 4 rfl
theorem dX12_addsThing_9 : decode cX12_addsThing 9 = .ok (.iconst 0, 1) := z_dk tdX12_addsThing_0 5 rfl
theorem dX12_addsThing_10 : decode cX12_addsThing 10 = .ok (.iload_n 1, 1) := z_dk tdX12_addsThing_0 6 rfl
theorem dX12_addsThing_11 : decode cX12_addsThing 11 = .ok (.iastore, 1) := z_dk tdX12_addsThing_0 7 rfl
theorem dX12_addsThing_12 : decode cX12_addsThing 12 = .ok (.aload_n 0, 1) := z_dk tdX12_addsThing_0 8 rfl
theorem dX12_addsThing_13 : decode cX12_addsThing 13 = .ok (.getfield 152, 3) := z_dk tdX12_addsThing_0 9 rfl
theorem dX12_addsThing_16 : decode cX12_addsThing 16 = .ok (.aload_n 0, 1) := z_dk tdX12_addsThing_0 10 rfl
theorem dX12_addsThing_17 : decode cX12_addsThing 17 = .ok (.getfield 402, 3) := z_dk tdX12_addsThing_0 11 rfl
theorem dX12_addsThing_20 : decode cX12_addsThing 20 = .ok (.aaload, 1) := z_dk tdX12_addsThing_0 12 rfl
theorem dX12_addsThing_21 : decode cX12_addsThing 21 = .ok (.iconst 1, 1) := z_dk tdX12_addsThing_0 13 rfl
theorem dX12_addsThing_22 : decode cX12_addsThing 22 = .ok (.iload_n 2, 1) := z_dk tdX12_addsThing_0 14 rfl
theorem dX12_addsThing_23 : decode cX12_addsThing 23 = .ok (.iastore, 1) := z_dk tdX12_addsThing_0 15 rfl
theorem dX12_addsThing_24 : decode cX12_addsThing 24 = .ok (.aload_n 0, 1) := z_dk tdX12_addsThing_0 16 rfl
theorem dX12_addsThing_25 : decode cX12_addsThing 25 = .ok (.dup, 1) := z_dk tdX12_addsThing_0 17 rfl
theorem dX12_addsThing_26 : decode cX12_addsThing 26 = .ok (.getfield 402, 3) := z_dk tdX12_addsThing_0 18 rfl
theorem dX12_addsThing_29 : decode cX12_addsThing 29 = .ok (.iconst 1, 1) := z_dk tdX12_addsThing_0 19 rfl
theorem dX12_addsThing_30 : decode cX12_addsThing 30 = .ok (.iadd, 1) := z_dk tdX12_addsThing_0 20 rfl
theorem dX12_addsThing_31 : decode cX12_addsThing 31 = .ok (.putfield 402, 3) := z_dk tdX12_addsThing_0 21 rfl
theorem dX12_addsThing_34 : decode cX12_addsThing 34 = .ok (.return_, 1) := z_dk tdX12_addsThing_0 22 rfl
theorem tdX12_laysLetters_0 : (([(0, .iconst 0, 1), (1, .istore_n 3, 1), (2, .iload_n 3, 1), (3, .aload_n 0, 1), (4, .getfield 359, 3), (7, .if_icmp .ge 63, 3), (10, .aload_n 0, 1), (11, .getfield 119, 3), (14, .aload_n 0, 1), (15, .getfield 149, 3), (18, .iload_n 3, 1), (19, .aaload, 1), (20, .iconst 0, 1), (21, .iaload, 1), (22, .iaload, 1), (23, .iload_n 1, 1), (24, .if_icmp .eq 6, 3), (27, .goto 37, 3), (30, .iconst 0, 1), (31, .istore 4, 2), (33, .iload 4, 2), (35, .aload_n 0, 1), (36, .iload_n 3, 1), (37, .iload_n 2, 1)] : List (Nat × Instr × Nat)).all fun e => decide (decode cX12_laysLetters e.1 = .ok e.2)) = true := by decide +kernel
theorem dX12_laysLetters_0 : decode cX12_laysLetters 0 = .ok (.iconst 0, 1) := z_dk tdX12_laysLetters_0 0 rfl
theorem dX12_laysLetters_1 : decode cX12_laysLetters 1 = .ok (.istore_n 3, 1) := z_dk tdX12_laysLetters_0 1 rfl
theorem dX12_laysLetters_2 : decode cX12_laysLetters 2 = .ok (.iload_n 3, 1) := z_dk tdX12_laysLetters_0 2 rfl
theorem dX12_laysLetters_3 : decode cX12_laysLetters 3 = .ok (.aload_n 0, 1) := z_dk tdX12_laysLetters_0 3 rfl
theorem dX12_laysLetters_4 : decode cX12_laysLetters 4 = .ok (.getfield 359, 3) := z_dk tdX12_laysLetters_0 4 rfl
theorem dX12_laysLetters_7 : decode cX12_laysLetters 7 = .ok (.if_icmp .ge 63, 3) := z_dk tdX12_laysLetters_0 5 rfl
theorem dX12_laysLetters_10 : decode cX12_laysLetters 10 = .ok (.aload_n 0, 1) := z_dk tdX12_laysLetters_0 6 rfl
theorem dX12_laysLetters_11 : decode cX12_laysLetters 11 = .ok (.getfield 119, 3) := z_dk tdX12_laysLetters_0 7 rfl
theorem dX12_laysLetters_14 : decode cX12_laysLetters 14 = .ok (.aload_n 0, 1) := z_dk tdX12_laysLetters_0 8 rfl
theorem dX12_laysLetters_15 : decode cX12_laysLetters 15 = .ok (.getfield 149, 3) := z_dk tdX12_laysLetters_0 9 rfl
theorem dX12_laysLetters_18 : decode cX12_laysLetters 18 = .ok (.iload_n 3, 1) := z_dk tdX12_laysLetters_0 10 rfl
theorem dX12_laysLetters_19 : decode cX12_laysLetters 19 = .ok (.aaload, 1) := z_dk tdX12_laysLetters_0 11 rfl
theorem dX12_laysLetters_20 : decode cX12_laysLetters 20 = .ok (.iconst 0, 1) := z_dk tdX12_laysLetters_0 12 rfl
theorem dX12_laysLetters_21 : decode cX12_laysLetters 21 = .ok (.iaload, 1) := z_dk tdX12_laysLetters_0 13 rfl
theorem dX12_laysLetters_22 : decode cX12_laysLetters 22 = .ok (.iaload, 1) := z_dk tdX12_laysLetters_0 14 rfl
theorem dX12_laysLetters_23 : decode cX12_laysLetters 23 = .ok (.iload_n 1, 1) := z_dk tdX12_laysLetters_0 15 rfl
theorem dX12_laysLetters_24 : decode cX12_laysLetters 24 = .ok (.if_icmp .eq 6, 3) := z_dk tdX12_laysLetters_0 16 rfl
theorem dX12_laysLetters_27 : decode cX12_laysLetters 27 = .ok (.goto 37, 3) := z_dk tdX12_laysLetters_0 17 rfl
theorem dX12_laysLetters_30 : decode cX12_laysLetters 30 = .ok (.iconst 0, 1) := z_dk tdX12_laysLetters_0 18 rfl
theorem dX12_laysLetters_31 : decode cX12_laysLetters 31 = .ok (.istore 4, 2) := z_dk tdX12_laysLetters_0 19 rfl
theorem dX12_laysLetters_33 : decode cX12_laysLetters 33 = .ok (.iload 4, 2) := z_dk tdX12_laysLetters_0 20 rfl
theorem dX12_laysLetters_35 : decode cX12_laysLetters 35 = .ok (.aload_n 0, 1) := z_dk tdX12_laysLetters_0 21 rfl
theorem dX12_laysLetters_36 : decode cX12_laysLetters 36 = .ok (.iload_n 3, 1) := z_dk tdX12_laysLetters_0 22 rfl
theorem dX12_laysLetters_37 : decode cX12_laysLetters 37 = .ok (.iload_n 2, 1) := z_dk tdX12_laysLetters_0 23 rfl
theorem tdX12_laysLetters_38 : (([(38, .invokevirtual 393, 3), (41, .if_icmp .ge 23, 3), (44, .aload_n 0, 1), (45, .aload_n 0, 1), (46, .iload_n 3, 1), (47, .iload_n 2, 1), (48, .iload 4, 2), (50, .invokevirtual 399, 3), (53, .bipush 6, 2), (55, .invokevirtual 405, 3), (58, .iinc 4 1, 3), (61, .goto (-28), 3), (64, .iinc 3 1, 3), (67, .goto (-65), 3), (70, .aload_n 0, 1), (71, .getfield 402, 3), (74, .ireturn, 1)] : List (Nat × Instr × Nat)).all fun e => decide (decode cX12_laysLetters e.1 = .ok e.2)) = true := by decide +kernel
theorem dX12_laysLetters_38 : decode cX12_laysLetters 38 = .ok (.invokevirtual 393, 3) := z_dk tdX12_laysLetters_38 0 rfl
theorem dX12_laysLetters_41 : decode cX12_laysLetters 41 = .ok (.if_icmp .ge 23, 3) := z_dk tdX12_laysLetters_38 1 rfl
theorem dX12_laysLetters_44 : decode cX12_laysLetters 44 = .ok (.aload_n 0, 1) := z_dk tdX12_laysLetters_38 2 rfl
theorem dX12_laysLetters_45 : decode cX12_laysLetters 45 = .ok (.aload_n 0, 1) := z_dk tdX12_laysLetters_38 3 rfl
theorem dX12_laysLetters_46 : decode cX12_laysLetters 46 = .ok (.iload_n 3, 1) := z_dk tdX12_laysLetters_38 4 rfl
theorem dX12_laysLetters_47 : decode cX12_laysLetters 47 = .ok (.iload_n 2, 1) := z_dk tdX12_laysLetters_38 5 rfl
theorem dX12_laysLetters_48 : decode cX12_laysLetters 48 = .ok (.iload 4, 2) := z_dk tdX12_laysLetters_38 6 rfl
theorem dX12_laysLetters_50 : decode cX12_laysLetters 50 = .ok (.invokevirtual 399, 3) := z_dk tdX12_laysLetters_38 7 rfl
theorem dX12_laysLetters_53 : decode cX12_laysLetters 53 = .ok (.bipush 6, 2) := z_dk tdX12_laysLetters_38 8 rfl
theorem dX12_laysLetters_55 : decode cX12_laysLetters 55 = .ok (.invokevirtual 405, 3) := z_dk tdX12_laysLetters_38 9 rfl
theorem dX12_laysLetters_58 : decode cX12_laysLetters 58 = .ok (.iinc 4 1, 3) := z_dk tdX12_laysLetters_38 10 rfl
theorem dX12_laysLetters_61 : decode cX12_laysLetters 61 = .ok (.goto (-28), 3) := z_dk tdX12_laysLetters_38 11 rfl
theorem dX12_laysLetters_64 : decode cX12_laysLetters 64 = .ok (.iinc 3 1, 3) := z_dk tdX12_laysLetters_38 12 rfl
theorem dX12_laysLetters_67 : decode cX12_laysLetters 67 = .ok (.goto (-65), 3) := z_dk tdX12_laysLetters_38 13 rfl
theorem dX12_laysLetters_70 : decode cX12_laysLetters 70 = .ok (.aload_n 0, 1) := z_dk tdX12_laysLetters_38 14 rfl
theorem dX12_laysLetters_71 : decode cX12_laysLetters 71 = .ok (.getfield 402, 3) := z_dk tdX12_laysLetters_38 15 rfl
theorem dX12_laysLetters_74 : decode cX12_laysLetters 74 = .ok (.ireturn, 1) := z_dk tdX12_laysLetters_38 16 rfl
theorem tdX12_laysSide_0 : (([(0, .aload_n 0, 1), (1, .iload_n 1, 1), (2, .iload_n 2, 1), (3, .invokevirtual 408, 3), (6, .pop, 1), (7, .aload_n 0, 1), (8, .getfield 109, 3), (11, .iload_n 1, 1), (12, .iaload, 1), (13, .istore_n 3, 1), (14, .iload_n 3, 1), (15, .aload_n 0, 1), (16, .getfield 109, 3), (19, .iload_n 1, 1), (20, .iconst 1, 1), (21, .iadd, 1), (22, .iaload, 1), (23, .if_icmp .ge 69, 3), (26, .aload_n 0, 1), (27, .getfield 57, 3), (30, .iload_n 3, 1), (31, .iaload, 1), (32, .istore 4, 2), (34, .iload 4, 2)] : List (Nat × Instr × Nat)).all fun e => decide (decode cX12_laysSide e.1 = .ok e.2)) = true := by decide +kernel
theorem dX12_laysSide_0 : decode cX12_laysSide 0 = .ok (.aload_n 0, 1) := z_dk tdX12_laysSide_0 0 rfl
theorem dX12_laysSide_1 : decode cX12_laysSide 1 = .ok (.iload_n 1, 1) := z_dk tdX12_laysSide_0 1 rfl
theorem dX12_laysSide_2 : decode cX12_laysSide 2 = .ok (.iload_n 2, 1) := z_dk tdX12_laysSide_0 2 rfl
theorem dX12_laysSide_3 : decode cX12_laysSide 3 = .ok (.invokevirtual 408, 3) := z_dk tdX12_laysSide_0 3 rfl
theorem dX12_laysSide_6 : decode cX12_laysSide 6 = .ok (.pop, 1) := z_dk tdX12_laysSide_0 4 rfl
theorem dX12_laysSide_7 : decode cX12_laysSide 7 = .ok (.aload_n 0, 1) := z_dk tdX12_laysSide_0 5 rfl
theorem dX12_laysSide_8 : decode cX12_laysSide 8 = .ok (.getfield 109, 3) := z_dk tdX12_laysSide_0 6 rfl
theorem dX12_laysSide_11 : decode cX12_laysSide 11 = .ok (.iload_n 1, 1) := z_dk tdX12_laysSide_0 7 rfl
theorem dX12_laysSide_12 : decode cX12_laysSide 12 = .ok (.iaload, 1) := z_dk tdX12_laysSide_0 8 rfl
theorem dX12_laysSide_13 : decode cX12_laysSide 13 = .ok (.istore_n 3, 1) := z_dk tdX12_laysSide_0 9 rfl
theorem dX12_laysSide_14 : decode cX12_laysSide 14 = .ok (.iload_n 3, 1) := z_dk tdX12_laysSide_0 10 rfl
theorem dX12_laysSide_15 : decode cX12_laysSide 15 = .ok (.aload_n 0, 1) := z_dk tdX12_laysSide_0 11 rfl
theorem dX12_laysSide_16 : decode cX12_laysSide 16 = .ok (.getfield 109, 3) := z_dk tdX12_laysSide_0 12 rfl
theorem dX12_laysSide_19 : decode cX12_laysSide 19 = .ok (.iload_n 1, 1) := z_dk tdX12_laysSide_0 13 rfl
theorem dX12_laysSide_20 : decode cX12_laysSide 20 = .ok (.iconst 1, 1) := z_dk tdX12_laysSide_0 14 rfl
theorem dX12_laysSide_21 : decode cX12_laysSide 21 = .ok (.iadd, 1) := z_dk tdX12_laysSide_0 15 rfl
theorem dX12_laysSide_22 : decode cX12_laysSide 22 = .ok (.iaload, 1) := z_dk tdX12_laysSide_0 16 rfl
theorem dX12_laysSide_23 : decode cX12_laysSide 23 = .ok (.if_icmp .ge 69, 3) := z_dk tdX12_laysSide_0 17 rfl
theorem dX12_laysSide_26 : decode cX12_laysSide 26 = .ok (.aload_n 0, 1) := z_dk tdX12_laysSide_0 18 rfl
theorem dX12_laysSide_27 : decode cX12_laysSide 27 = .ok (.getfield 57, 3) := z_dk tdX12_laysSide_0 19 rfl
theorem dX12_laysSide_30 : decode cX12_laysSide 30 = .ok (.iload_n 3, 1) := z_dk tdX12_laysSide_0 20 rfl
theorem dX12_laysSide_31 : decode cX12_laysSide 31 = .ok (.iaload, 1) := z_dk tdX12_laysSide_0 21 rfl
theorem dX12_laysSide_32 : decode cX12_laysSide 32 = .ok (.istore 4, 2) := z_dk tdX12_laysSide_0 22 rfl
theorem dX12_laysSide_34 : decode cX12_laysSide 34 = .ok (.iload 4, 2) := z_dk tdX12_laysSide_0 23 rfl
theorem tdX12_laysSide_36 : (([(36, .aload_n 0, 1), (37, .getfield 57, 3), (40, .iload_n 3, 1), (41, .iaload, 1), (42, .aload_n 0, 1), (43, .getfield 60, 3), (46, .iload_n 3, 1), (47, .iaload, 1), (48, .iadd, 1), (49, .if_icmp .ge 37, 3), (52, .aload_n 0, 1), (53, .iload 4, 2), (55, .invokevirtual 390, 3), (58, .iload_n 2, 1), (59, .ishr, 1), (60, .iconst 1, 1), (61, .iand, 1), (62, .iconst 1, 1), (63, .if_icmp .ne 17, 3), (66, .aload_n 0, 1), (67, .aload_n 0, 1), (68, .getfield 125, 3), (71, .iload 4, 2), (73, .iaload, 1)] : List (Nat × Instr × Nat)).all fun e => decide (decode cX12_laysSide e.1 = .ok e.2)) = true := by decide +kernel
theorem dX12_laysSide_36 : decode cX12_laysSide 36 = .ok (.aload_n 0, 1) := z_dk tdX12_laysSide_36 0 rfl
theorem dX12_laysSide_37 : decode cX12_laysSide 37 = .ok (.getfield 57, 3) := z_dk tdX12_laysSide_36 1 rfl
theorem dX12_laysSide_40 : decode cX12_laysSide 40 = .ok (.iload_n 3, 1) := z_dk tdX12_laysSide_36 2 rfl
theorem dX12_laysSide_41 : decode cX12_laysSide 41 = .ok (.iaload, 1) := z_dk tdX12_laysSide_36 3 rfl
theorem dX12_laysSide_42 : decode cX12_laysSide 42 = .ok (.aload_n 0, 1) := z_dk tdX12_laysSide_36 4 rfl
theorem dX12_laysSide_43 : decode cX12_laysSide 43 = .ok (.getfield 60, 3) := z_dk tdX12_laysSide_36 5 rfl
theorem dX12_laysSide_46 : decode cX12_laysSide 46 = .ok (.iload_n 3, 1) := z_dk tdX12_laysSide_36 6 rfl
theorem dX12_laysSide_47 : decode cX12_laysSide 47 = .ok (.iaload, 1) := z_dk tdX12_laysSide_36 7 rfl
theorem dX12_laysSide_48 : decode cX12_laysSide 48 = .ok (.iadd, 1) := z_dk tdX12_laysSide_36 8 rfl
theorem dX12_laysSide_49 : decode cX12_laysSide 49 = .ok (.if_icmp .ge 37, 3) := z_dk tdX12_laysSide_36 9 rfl
theorem dX12_laysSide_52 : decode cX12_laysSide 52 = .ok (.aload_n 0, 1) := z_dk tdX12_laysSide_36 10 rfl
theorem dX12_laysSide_53 : decode cX12_laysSide 53 = .ok (.iload 4, 2) := z_dk tdX12_laysSide_36 11 rfl
theorem dX12_laysSide_55 : decode cX12_laysSide 55 = .ok (.invokevirtual 390, 3) := z_dk tdX12_laysSide_36 12 rfl
theorem dX12_laysSide_58 : decode cX12_laysSide 58 = .ok (.iload_n 2, 1) := z_dk tdX12_laysSide_36 13 rfl
theorem dX12_laysSide_59 : decode cX12_laysSide 59 = .ok (.ishr, 1) := z_dk tdX12_laysSide_36 14 rfl
theorem dX12_laysSide_60 : decode cX12_laysSide 60 = .ok (.iconst 1, 1) := z_dk tdX12_laysSide_36 15 rfl
theorem dX12_laysSide_61 : decode cX12_laysSide 61 = .ok (.iand, 1) := z_dk tdX12_laysSide_36 16 rfl
theorem dX12_laysSide_62 : decode cX12_laysSide 62 = .ok (.iconst 1, 1) := z_dk tdX12_laysSide_36 17 rfl
theorem dX12_laysSide_63 : decode cX12_laysSide 63 = .ok (.if_icmp .ne 17, 3) := z_dk tdX12_laysSide_36 18 rfl
theorem dX12_laysSide_66 : decode cX12_laysSide 66 = .ok (.aload_n 0, 1) := z_dk tdX12_laysSide_36 19 rfl
theorem dX12_laysSide_67 : decode cX12_laysSide 67 = .ok (.aload_n 0, 1) := z_dk tdX12_laysSide_36 20 rfl
theorem dX12_laysSide_68 : decode cX12_laysSide 68 = .ok (.getfield 125, 3) := z_dk tdX12_laysSide_36 21 rfl
theorem dX12_laysSide_71 : decode cX12_laysSide 71 = .ok (.iload 4, 2) := z_dk tdX12_laysSide_36 22 rfl
theorem dX12_laysSide_73 : decode cX12_laysSide 73 = .ok (.iaload, 1) := z_dk tdX12_laysSide_36 23 rfl
theorem tdX12_laysSide_74 : (([(74, .iconst 4, 1), (75, .iadd, 1), (76, .iconst 4, 1), (77, .invokevirtual 405, 3), (80, .iinc 4 1, 3), (83, .goto (-49), 3), (86, .iinc 3 1, 3), (89, .goto (-75), 3), (92, .aload_n 0, 1), (93, .getfield 402, 3), (96, .ireturn, 1)] : List (Nat × Instr × Nat)).all fun e => decide (decode cX12_laysSide e.1 = .ok e.2)) = true := by decide +kernel
theorem dX12_laysSide_74 : decode cX12_laysSide 74 = .ok (.iconst 4, 1) := z_dk tdX12_laysSide_74 0 rfl
theorem dX12_laysSide_75 : decode cX12_laysSide 75 = .ok (.iadd, 1) := z_dk tdX12_laysSide_74 1 rfl
theorem dX12_laysSide_76 : decode cX12_laysSide 76 = .ok (.iconst 4, 1) := z_dk tdX12_laysSide_74 2 rfl
theorem dX12_laysSide_77 : decode cX12_laysSide 77 = .ok (.invokevirtual 405, 3) := z_dk tdX12_laysSide_74 3 rfl
theorem dX12_laysSide_80 : decode cX12_laysSide 80 = .ok (.iinc 4 1, 3) := z_dk tdX12_laysSide_74 4 rfl
theorem dX12_laysSide_83 : decode cX12_laysSide 83 = .ok (.goto (-49), 3) := z_dk tdX12_laysSide_74 5 rfl
theorem dX12_laysSide_86 : decode cX12_laysSide 86 = .ok (.iinc 3 1, 3) := z_dk tdX12_laysSide_74 6 rfl
theorem dX12_laysSide_89 : decode cX12_laysSide 89 = .ok (.goto (-75), 3) := z_dk tdX12_laysSide_74 7 rfl
theorem dX12_laysSide_92 : decode cX12_laysSide 92 = .ok (.aload_n 0, 1) := z_dk tdX12_laysSide_74 8 rfl
theorem dX12_laysSide_93 : decode cX12_laysSide 93 = .ok (.getfield 402, 3) := z_dk tdX12_laysSide_74 9 rfl
theorem dX12_laysSide_96 : decode cX12_laysSide 96 = .ok (.ireturn, 1) := z_dk tdX12_laysSide_74 10 rfl
theorem tdX12_isLine_0 : (([(0, .aload_n 0, 1), (1, .invokevirtual 371, 3), (4, .iload_n 1, 1), (5, .iconst 0, 1), (6, .aload_n 0, 1), (7, .getfield 365, 3), (10, .iconst 1, 1), (11, .isub, 1), (12, .invokestatic 245, 3), (15, .ireturn, 1)] : List (Nat × Instr × Nat)).all fun e => decide (decode cX12_isLine e.1 = .ok e.2)) = true := by decide +kernel
theorem dX12_isLine_0 : decode cX12_isLine 0 = .ok (.aload_n 0, 1) := z_dk tdX12_isLine_0 0 rfl
theorem dX12_isLine_1 : decode cX12_isLine 1 = .ok (.invokevirtual 371, 3) := z_dk tdX12_isLine_0 1 rfl
theorem dX12_isLine_4 : decode cX12_isLine 4 = .ok (.iload_n 1, 1) := z_dk tdX12_isLine_0 2 rfl
theorem dX12_isLine_5 : decode cX12_isLine 5 = .ok (.iconst 0, 1) := z_dk tdX12_isLine_0 3 rfl
theorem dX12_isLine_6 : decode cX12_isLine 6 = .ok (.aload_n 0, 1) := z_dk tdX12_isLine_0 4 rfl
theorem dX12_isLine_7 : decode cX12_isLine 7 = .ok (.getfield 365, 3) := z_dk tdX12_isLine_0 5 rfl
theorem dX12_isLine_10 : decode cX12_isLine 10 = .ok (.iconst 1, 1) := z_dk tdX12_isLine_0 6 rfl
theorem dX12_isLine_11 : decode cX12_isLine 11 = .ok (.isub, 1) := z_dk tdX12_isLine_0 7 rfl
theorem dX12_isLine_12 : decode cX12_isLine 12 = .ok (.invokestatic 245, 3) := z_dk tdX12_isLine_0 8 rfl
theorem dX12_isLine_15 : decode cX12_isLine 15 = .ok (.ireturn, 1) := z_dk tdX12_isLine_0 9 rfl
theorem tdX12_sideOf_0 : (([(0, .aload_n 0, 1), (1, .iconst 0, 1), (2, .putfield 402, 3), (5, .aload_n 0, 1), (6, .iload_n 1, 1), (7, .iload_n 2, 1), (8, .invokevirtual 411, 3), (11, .ireturn, 1)] : List (Nat × Instr × Nat)).all fun e => decide (decode cX12_sideOf e.1 = .ok e.2)) = true := by decide +kernel
theorem dX12_sideOf_0 : decode cX12_sideOf 0 = .ok (.aload_n 0, 1) := z_dk tdX12_sideOf_0 0 rfl
theorem dX12_sideOf_1 : decode cX12_sideOf 1 = .ok (.iconst 0, 1) := z_dk tdX12_sideOf_0 1 rfl
theorem dX12_sideOf_2 : decode cX12_sideOf 2 = .ok (.putfield 402, 3) := z_dk tdX12_sideOf_0 2 rfl
theorem dX12_sideOf_5 : decode cX12_sideOf 5 = .ok (.aload_n 0, 1) := z_dk tdX12_sideOf_0 3 rfl
theorem dX12_sideOf_6 : decode cX12_sideOf 6 = .ok (.iload_n 1, 1) := z_dk tdX12_sideOf_0 4 rfl
theorem dX12_sideOf_7 : decode cX12_sideOf 7 = .ok (.iload_n 2, 1) := z_dk tdX12_sideOf_0 5 rfl
theorem dX12_sideOf_8 : decode cX12_sideOf 8 = .ok (.invokevirtual 411, 3) := z_dk tdX12_sideOf_0 6 rfl
theorem dX12_sideOf_11 : decode cX12_sideOf 11 = .ok (.ireturn, 1) := z_dk tdX12_sideOf_0 7 rfl
theorem tdX12_side_0 : (([(0, .aload_n 0, 1), (1, .iconst 0, 1), (2, .putfield 170, 3), (5, .aload_n 0, 1), (6, .aload_n 0, 1), (7, .iload_n 1, 1), (8, .invokevirtual 414, 3), (11, .ifCond .ne 7, 3), (14, .iconst 1, 1), (15, .goto 4, 3), (18, .iconst 0, 1), (19, .iconst 1, 1), (20, .iconst 0, 1), (21, .invokevirtual 249, 3), (24, .ifCond .ne 35, 3), (27, .aload_n 0, 1), (28, .iload_n 2, 1), (29, .iconst 0, 1), (30, .iconst 1, 1), (31, .invokestatic 245, 3), (34, .ifCond .eq 12, 3), (37, .iload_n 3, 1), (38, .iconst 0, 1), (39, .iconst 1, 1)] : List (Nat × Instr × Nat)).all fun e => decide (decode cX12_side e.1 = .ok e.2)) = true := by decide +kernel
theorem dX12_side_0 : decode cX12_side 0 = .ok (.aload_n 0, 1) := z_dk tdX12_side_0 0 rfl
theorem dX12_side_1 : decode cX12_side 1 = .ok (.iconst 0, 1) := z_dk tdX12_side_0 1 rfl
theorem dX12_side_2 : decode cX12_side 2 = .ok (.putfield 170, 3) := z_dk tdX12_side_0 2 rfl
theorem dX12_side_5 : decode cX12_side 5 = .ok (.aload_n 0, 1) := z_dk tdX12_side_0 3 rfl
theorem dX12_side_6 : decode cX12_side 6 = .ok (.aload_n 0, 1) := z_dk tdX12_side_0 4 rfl
theorem dX12_side_7 : decode cX12_side 7 = .ok (.iload_n 1, 1) := z_dk tdX12_side_0 5 rfl
theorem dX12_side_8 : decode cX12_side 8 = .ok (.invokevirtual 414, 3) := z_dk tdX12_side_0 6 rfl
theorem dX12_side_11 : decode cX12_side 11 = .ok (.ifCond .ne 7, 3) := z_dk tdX12_side_0 7 rfl
theorem dX12_side_14 : decode cX12_side 14 = .ok (.iconst 1, 1) := z_dk tdX12_side_0 8 rfl
theorem dX12_side_15 : decode cX12_side 15 = .ok (.goto 4, 3) := z_dk tdX12_side_0 9 rfl
theorem dX12_side_18 : decode cX12_side 18 = .ok (.iconst 0, 1) := z_dk tdX12_side_0 10 rfl
theorem dX12_side_19 : decode cX12_side 19 = .ok (.iconst 1, 1) := z_dk tdX12_side_0 11 rfl
theorem dX12_side_20 : decode cX12_side 20 = .ok (.iconst 0, 1) := z_dk tdX12_side_0 12 rfl
theorem dX12_side_21 : decode cX12_side 21 = .ok (.invokevirtual 249, 3) := z_dk tdX12_side_0 13 rfl
theorem dX12_side_24 : decode cX12_side 24 = .ok (.ifCond .ne 35, 3) := z_dk tdX12_side_0 14 rfl
theorem dX12_side_27 : decode cX12_side 27 = .ok (.aload_n 0, 1) := z_dk tdX12_side_0 15 rfl
theorem dX12_side_28 : decode cX12_side 28 = .ok (.iload_n 2, 1) := z_dk tdX12_side_0 16 rfl
theorem dX12_side_29 : decode cX12_side 29 = .ok (.iconst 0, 1) := z_dk tdX12_side_0 17 rfl
theorem dX12_side_30 : decode cX12_side 30 = .ok (.iconst 1, 1) := z_dk tdX12_side_0 18 rfl
theorem dX12_side_31 : decode cX12_side 31 = .ok (.invokestatic 245, 3) := z_dk tdX12_side_0 19 rfl
theorem dX12_side_34 : decode cX12_side 34 = .ok (.ifCond .eq 12, 3) := z_dk tdX12_side_0 20 rfl
theorem dX12_side_37 : decode cX12_side 37 = .ok (.iload_n 3, 1) := z_dk tdX12_side_0 21 rfl
theorem dX12_side_38 : decode cX12_side 38 = .ok (.iconst 0, 1) := z_dk tdX12_side_0 22 rfl
theorem dX12_side_39 : decode cX12_side 39 = .ok (.iconst 1, 1) := z_dk tdX12_side_0 23 rfl
theorem tdX12_side_40 : (([(40, .invokestatic 245, 3), (43, .ifCond .ne 7, 3), (46, .iconst 1, 1), (47, .goto 4, 3), (50, .iconst 0, 1), (51, .iconst 2, 1), (52, .iconst 1, 1), (53, .invokevirtual 249, 3), (56, .ifCond .eq 5, 3), (59, .iconst 0, 1), (60, .ireturn, 1), (61, .aload_n 0, 1), (62, .iconst 0, 1), (63, .putfield 402, 3), (66, .aload_n 0, 1), (67, .iload_n 1, 1), (68, .iload_n 2, 1), (69, .invokevirtual 408, 3), (72, .istore 4, 2), (74, .iload_n 3, 1), (75, .ifCond .ne 8, 3), (78, .iload 4, 2), (80, .goto 14, 3), (83, .aload_n 0, 1)] : List (Nat × Instr × Nat)).all fun e => decide (decode cX12_side e.1 = .ok e.2)) = true := by decide +kernel
theorem dX12_side_40 : decode cX12_side 40 = .ok (.invokestatic 245, 3) := z_dk tdX12_side_40 0 rfl
theorem dX12_side_43 : decode cX12_side 43 = .ok (.ifCond .ne 7, 3) := z_dk tdX12_side_40 1 rfl
theorem dX12_side_46 : decode cX12_side 46 = .ok (.iconst 1, 1) := z_dk tdX12_side_40 2 rfl
theorem dX12_side_47 : decode cX12_side 47 = .ok (.goto 4, 3) := z_dk tdX12_side_40 3 rfl
theorem dX12_side_50 : decode cX12_side 50 = .ok (.iconst 0, 1) := z_dk tdX12_side_40 4 rfl
theorem dX12_side_51 : decode cX12_side 51 = .ok (.iconst 2, 1) := z_dk tdX12_side_40 5 rfl
theorem dX12_side_52 : decode cX12_side 52 = .ok (.iconst 1, 1) := z_dk tdX12_side_40 6 rfl
theorem dX12_side_53 : decode cX12_side 53 = .ok (.invokevirtual 249, 3) := z_dk tdX12_side_40 7 rfl
theorem dX12_side_56 : decode cX12_side 56 = .ok (.ifCond .eq 5, 3) := z_dk tdX12_side_40 8 rfl
theorem dX12_side_59 : decode cX12_side 59 = .ok (.iconst 0, 1) := z_dk tdX12_side_40 9 rfl
theorem dX12_side_60 : decode cX12_side 60 = .ok (.ireturn, 1) := z_dk tdX12_side_40 10 rfl
theorem dX12_side_61 : decode cX12_side 61 = .ok (.aload_n 0, 1) := z_dk tdX12_side_40 11 rfl
theorem dX12_side_62 : decode cX12_side 62 = .ok (.iconst 0, 1) := z_dk tdX12_side_40 12 rfl
theorem dX12_side_63 : decode cX12_side 63 = .ok (.putfield 402, 3) := z_dk tdX12_side_40 13 rfl
theorem dX12_side_66 : decode cX12_side 66 = .ok (.aload_n 0, 1) := z_dk tdX12_side_40 14 rfl
theorem dX12_side_67 : decode cX12_side 67 = .ok (.iload_n 1, 1) := z_dk tdX12_side_40 15 rfl
theorem dX12_side_68 : decode cX12_side 68 = .ok (.iload_n 2, 1) := z_dk tdX12_side_40 16 rfl
theorem dX12_side_69 : decode cX12_side 69 = .ok (.invokevirtual 408, 3) := z_dk tdX12_side_40 17 rfl
theorem dX12_side_72 : decode cX12_side 72 = .ok (.istore 4, 2) := z_dk tdX12_side_40 18 rfl
theorem dX12_side_74 : decode cX12_side 74 = .ok (.iload_n 3, 1) := z_dk tdX12_side_40 19 rfl
theorem dX12_side_75 : decode cX12_side 75 = .ok (.ifCond .ne 8, 3) := z_dk tdX12_side_40 20 rfl
theorem dX12_side_78 : decode cX12_side 78 = .ok (.iload 4, 2) := z_dk tdX12_side_40 21 rfl
theorem dX12_side_80 : decode cX12_side 80 = .ok (.goto 14, 3) := z_dk tdX12_side_40 22 rfl
theorem dX12_side_83 : decode cX12_side 83 = .ok (.aload_n 0, 1) := z_dk tdX12_side_40 23 rfl
theorem tdX12_side_84 : (([(84, .iload_n 1, 1), (85, .iload_n 2, 1), (86, .invokevirtual 411, 3), (89, .iconst 2, 1), (90, .iload 4, 2), (92, .imul, 1), (93, .isub, 1), (94, .ireturn, 1)] : List (Nat × Instr × Nat)).all fun e => decide (decode cX12_side e.1 = .ok e.2)) = true := by decide +kernel
theorem dX12_side_84 : decode cX12_side 84 = .ok (.iload_n 1, 1) := z_dk tdX12_side_84 0 rfl
theorem dX12_side_85 : decode cX12_side 85 = .ok (.iload_n 2, 1) := z_dk tdX12_side_84 1 rfl
theorem dX12_side_86 : decode cX12_side 86 = .ok (.invokevirtual 411, 3) := z_dk tdX12_side_84 2 rfl
theorem dX12_side_89 : decode cX12_side 89 = .ok (.iconst 2, 1) := z_dk tdX12_side_84 3 rfl
theorem dX12_side_90 : decode cX12_side 90 = .ok (.iload 4, 2) := z_dk tdX12_side_84 4 rfl
theorem dX12_side_92 : decode cX12_side 92 = .ok (.imul, 1) := z_dk tdX12_side_84 5 rfl
theorem dX12_side_93 : decode cX12_side 93 = .ok (.isub, 1) := z_dk tdX12_side_84 6 rfl
theorem dX12_side_94 : decode cX12_side 94 = .ok (.ireturn, 1) := z_dk tdX12_side_84 7 rfl
theorem tdX12_clashOf_0 : (([(0, .iload_n 1, 1), (1, .iconst 1, 1), (2, .iadd, 1), (3, .aload_n 0, 1), (4, .getfield 365, 3), (7, .if_icmp .lt 7, 3), (10, .sipush (-1000), 3), (13, .ireturn, 1), (14, .aload_n 0, 1), (15, .iload_n 1, 1), (16, .iconst 1, 1), (17, .invokevirtual 417, 3), (20, .istore_n 2, 1), (21, .aload_n 0, 1), (22, .iload_n 1, 1), (23, .iconst 1, 1), (24, .iadd, 1), (25, .iconst 0, 1), (26, .invokevirtual 411, 3), (29, .istore_n 3, 1), (30, .sipush (-1000), 3), (33, .istore 4, 2), (35, .iconst 0, 1), (36, .istore 5, 2)] : List (Nat × Instr × Nat)).all fun e => decide (decode cX12_clashOf e.1 = .ok e.2)) = true := by decide +kernel
theorem dX12_clashOf_0 : decode cX12_clashOf 0 = .ok (.iload_n 1, 1) := z_dk tdX12_clashOf_0 0 rfl
theorem dX12_clashOf_1 : decode cX12_clashOf 1 = .ok (.iconst 1, 1) := z_dk tdX12_clashOf_0 1 rfl
theorem dX12_clashOf_2 : decode cX12_clashOf 2 = .ok (.iadd, 1) := z_dk tdX12_clashOf_0 2 rfl
theorem dX12_clashOf_3 : decode cX12_clashOf 3 = .ok (.aload_n 0, 1) := z_dk tdX12_clashOf_0 3 rfl
theorem dX12_clashOf_4 : decode cX12_clashOf 4 = .ok (.getfield 365, 3) := z_dk tdX12_clashOf_0 4 rfl
theorem dX12_clashOf_7 : decode cX12_clashOf 7 = .ok (.if_icmp .lt 7, 3) := z_dk tdX12_clashOf_0 5 rfl
theorem dX12_clashOf_10 : decode cX12_clashOf 10 = .ok (.sipush (-1000), 3) := z_dk tdX12_clashOf_0 6 rfl
theorem dX12_clashOf_13 : decode cX12_clashOf 13 = .ok (.ireturn, 1) := z_dk tdX12_clashOf_0 7 rfl
theorem dX12_clashOf_14 : decode cX12_clashOf 14 = .ok (.aload_n 0, 1) := z_dk tdX12_clashOf_0 8 rfl
theorem dX12_clashOf_15 : decode cX12_clashOf 15 = .ok (.iload_n 1, 1) := z_dk tdX12_clashOf_0 9 rfl
theorem dX12_clashOf_16 : decode cX12_clashOf 16 = .ok (.iconst 1, 1) := z_dk tdX12_clashOf_0 10 rfl
theorem dX12_clashOf_17 : decode cX12_clashOf 17 = .ok (.invokevirtual 417, 3) := z_dk tdX12_clashOf_0 11 rfl
theorem dX12_clashOf_20 : decode cX12_clashOf 20 = .ok (.istore_n 2, 1) := z_dk tdX12_clashOf_0 12 rfl
theorem dX12_clashOf_21 : decode cX12_clashOf 21 = .ok (.aload_n 0, 1) := z_dk tdX12_clashOf_0 13 rfl
theorem dX12_clashOf_22 : decode cX12_clashOf 22 = .ok (.iload_n 1, 1) := z_dk tdX12_clashOf_0 14 rfl
theorem dX12_clashOf_23 : decode cX12_clashOf 23 = .ok (.iconst 1, 1) := z_dk tdX12_clashOf_0 15 rfl
theorem dX12_clashOf_24 : decode cX12_clashOf 24 = .ok (.iadd, 1) := z_dk tdX12_clashOf_0 16 rfl
theorem dX12_clashOf_25 : decode cX12_clashOf 25 = .ok (.iconst 0, 1) := z_dk tdX12_clashOf_0 17 rfl
theorem dX12_clashOf_26 : decode cX12_clashOf 26 = .ok (.invokevirtual 411, 3) := z_dk tdX12_clashOf_0 18 rfl
theorem dX12_clashOf_29 : decode cX12_clashOf 29 = .ok (.istore_n 3, 1) := z_dk tdX12_clashOf_0 19 rfl
theorem dX12_clashOf_30 : decode cX12_clashOf 30 = .ok (.sipush (-1000), 3) := z_dk tdX12_clashOf_0 20 rfl
theorem dX12_clashOf_33 : decode cX12_clashOf 33 = .ok (.istore 4, 2) := z_dk tdX12_clashOf_0 21 rfl
theorem dX12_clashOf_35 : decode cX12_clashOf 35 = .ok (.iconst 0, 1) := z_dk tdX12_clashOf_0 22 rfl
theorem dX12_clashOf_36 : decode cX12_clashOf 36 = .ok (.istore 5, 2) := z_dk tdX12_clashOf_0 23 rfl
theorem tdX12_clashOf_38 : (([(38, .iload 5, 2), (40, .iload_n 2, 1), (41, .if_icmp .ge 116, 3), (44, .iload_n 2, 1), (45, .istore 6, 2), (47, .iload 6, 2), (49, .iload_n 3, 1), (50, .if_icmp .ge 101, 3), (53, .aload_n 0, 1), (54, .getfield 152, 3), (57, .iload 5, 2), (59, .aaload, 1), (60, .iconst 0, 1), (61, .iaload, 1), (62, .aload_n 0, 1), (63, .getfield 152, 3), (66, .iload 6, 2), (68, .aaload, 1), (69, .iconst 0, 1), (70, .iaload, 1), (71, .invokestatic 256, 3), (74, .istore 7, 2), (76, .aload_n 0, 1), (77, .getfield 152, 3)] : List (Nat × Instr × Nat)).all fun e => decide (decode cX12_clashOf e.1 = .ok e.2)) = true := by decide +kernel
theorem dX12_clashOf_38 : decode cX12_clashOf 38 = .ok (.iload 5, 2) := z_dk tdX12_clashOf_38 0 rfl
theorem dX12_clashOf_40 : decode cX12_clashOf 40 = .ok (.iload_n 2, 1) := z_dk tdX12_clashOf_38 1 rfl
theorem dX12_clashOf_41 : decode cX12_clashOf 41 = .ok (.if_icmp .ge 116, 3) := z_dk tdX12_clashOf_38 2 rfl
theorem dX12_clashOf_44 : decode cX12_clashOf 44 = .ok (.iload_n 2, 1) := z_dk tdX12_clashOf_38 3 rfl
theorem dX12_clashOf_45 : decode cX12_clashOf 45 = .ok (.istore 6, 2) := z_dk tdX12_clashOf_38 4 rfl
theorem dX12_clashOf_47 : decode cX12_clashOf 47 = .ok (.iload 6, 2) := z_dk tdX12_clashOf_38 5 rfl
theorem dX12_clashOf_49 : decode cX12_clashOf 49 = .ok (.iload_n 3, 1) := z_dk tdX12_clashOf_38 6 rfl
theorem dX12_clashOf_50 : decode cX12_clashOf 50 = .ok (.if_icmp .ge 101, 3) := z_dk tdX12_clashOf_38 7 rfl
theorem dX12_clashOf_53 : decode cX12_clashOf 53 = .ok (.aload_n 0, 1) := z_dk tdX12_clashOf_38 8 rfl
theorem dX12_clashOf_54 : decode cX12_clashOf 54 = .ok (.getfield 152, 3) := z_dk tdX12_clashOf_38 9 rfl
theorem dX12_clashOf_57 : decode cX12_clashOf 57 = .ok (.iload 5, 2) := z_dk tdX12_clashOf_38 10 rfl
theorem dX12_clashOf_59 : decode cX12_clashOf 59 = .ok (.aaload, 1) := z_dk tdX12_clashOf_38 11 rfl
theorem dX12_clashOf_60 : decode cX12_clashOf 60 = .ok (.iconst 0, 1) := z_dk tdX12_clashOf_38 12 rfl
theorem dX12_clashOf_61 : decode cX12_clashOf 61 = .ok (.iaload, 1) := z_dk tdX12_clashOf_38 13 rfl
theorem dX12_clashOf_62 : decode cX12_clashOf 62 = .ok (.aload_n 0, 1) := z_dk tdX12_clashOf_38 14 rfl
theorem dX12_clashOf_63 : decode cX12_clashOf 63 = .ok (.getfield 152, 3) := z_dk tdX12_clashOf_38 15 rfl
theorem dX12_clashOf_66 : decode cX12_clashOf 66 = .ok (.iload 6, 2) := z_dk tdX12_clashOf_38 16 rfl
theorem dX12_clashOf_68 : decode cX12_clashOf 68 = .ok (.aaload, 1) := z_dk tdX12_clashOf_38 17 rfl
theorem dX12_clashOf_69 : decode cX12_clashOf 69 = .ok (.iconst 0, 1) := z_dk tdX12_clashOf_38 18 rfl
theorem dX12_clashOf_70 : decode cX12_clashOf 70 = .ok (.iaload, 1) := z_dk tdX12_clashOf_38 19 rfl
theorem dX12_clashOf_71 : decode cX12_clashOf 71 = .ok (.invokestatic 256, 3) := z_dk tdX12_clashOf_38 20 rfl
theorem dX12_clashOf_74 : decode cX12_clashOf 74 = .ok (.istore 7, 2) := z_dk tdX12_clashOf_38 21 rfl
theorem dX12_clashOf_76 : decode cX12_clashOf 76 = .ok (.aload_n 0, 1) := z_dk tdX12_clashOf_38 22 rfl
theorem dX12_clashOf_77 : decode cX12_clashOf 77 = .ok (.getfield 152, 3) := z_dk tdX12_clashOf_38 23 rfl
theorem tdX12_clashOf_80 : (([(80, .iload 5, 2), (82, .aaload, 1), (83, .iconst 0, 1), (84, .iaload, 1), (85, .aload_n 0, 1), (86, .getfield 152, 3), (89, .iload 5, 2), (91, .aaload, 1), (92, .iconst 1, 1), (93, .iaload, 1), (94, .iadd, 1), (95, .aload_n 0, 1), (96, .getfield 152, 3), (99, .iload 6, 2), (101, .aaload, 1), (102, .iconst 0, 1), (103, .iaload, 1), (104, .aload_n 0, 1), (105, .getfield 152, 3), (108, .iload 6, 2), (110, .aaload, 1), (111, .iconst 1, 1), (112, .iaload, 1), (113, .iadd, 1)] : List (Nat × Instr × Nat)).all fun e => decide (decode cX12_clashOf e.1 = .ok e.2)) = true := by decide +kernel
theorem dX12_clashOf_80 : decode cX12_clashOf 80 = .ok (.iload 5, 2) := z_dk tdX12_clashOf_80 0 rfl
theorem dX12_clashOf_82 : decode cX12_clashOf 82 = .ok (.aaload, 1) := z_dk tdX12_clashOf_80 1 rfl
theorem dX12_clashOf_83 : decode cX12_clashOf 83 = .ok (.iconst 0, 1) := z_dk tdX12_clashOf_80 2 rfl
theorem dX12_clashOf_84 : decode cX12_clashOf 84 = .ok (.iaload, 1) := z_dk tdX12_clashOf_80 3 rfl
theorem dX12_clashOf_85 : decode cX12_clashOf 85 = .ok (.aload_n 0, 1) := z_dk tdX12_clashOf_80 4 rfl
theorem dX12_clashOf_86 : decode cX12_clashOf 86 = .ok (.getfield 152, 3) := z_dk tdX12_clashOf_80 5 rfl
theorem dX12_clashOf_89 : decode cX12_clashOf 89 = .ok (.iload 5, 2) := z_dk tdX12_clashOf_80 6 rfl
theorem dX12_clashOf_91 : decode cX12_clashOf 91 = .ok (.aaload, 1) := z_dk tdX12_clashOf_80 7 rfl
theorem dX12_clashOf_92 : decode cX12_clashOf 92 = .ok (.iconst 1, 1) := z_dk tdX12_clashOf_80 8 rfl
theorem dX12_clashOf_93 : decode cX12_clashOf 93 = .ok (.iaload, 1) := z_dk tdX12_clashOf_80 9 rfl
theorem dX12_clashOf_94 : decode cX12_clashOf 94 = .ok (.iadd, 1) := z_dk tdX12_clashOf_80 10 rfl
theorem dX12_clashOf_95 : decode cX12_clashOf 95 = .ok (.aload_n 0, 1) := z_dk tdX12_clashOf_80 11 rfl
theorem dX12_clashOf_96 : decode cX12_clashOf 96 = .ok (.getfield 152, 3) := z_dk tdX12_clashOf_80 12 rfl
theorem dX12_clashOf_99 : decode cX12_clashOf 99 = .ok (.iload 6, 2) := z_dk tdX12_clashOf_80 13 rfl
theorem dX12_clashOf_101 : decode cX12_clashOf 101 = .ok (.aaload, 1) := z_dk tdX12_clashOf_80 14 rfl
theorem dX12_clashOf_102 : decode cX12_clashOf 102 = .ok (.iconst 0, 1) := z_dk tdX12_clashOf_80 15 rfl
theorem dX12_clashOf_103 : decode cX12_clashOf 103 = .ok (.iaload, 1) := z_dk tdX12_clashOf_80 16 rfl
theorem dX12_clashOf_104 : decode cX12_clashOf 104 = .ok (.aload_n 0, 1) := z_dk tdX12_clashOf_80 17 rfl
theorem dX12_clashOf_105 : decode cX12_clashOf 105 = .ok (.getfield 152, 3) := z_dk tdX12_clashOf_80 18 rfl
theorem dX12_clashOf_108 : decode cX12_clashOf 108 = .ok (.iload 6, 2) := z_dk tdX12_clashOf_80 19 rfl
theorem dX12_clashOf_110 : decode cX12_clashOf 110 = .ok (.aaload, 1) := z_dk tdX12_clashOf_80 20 rfl
theorem dX12_clashOf_111 : decode cX12_clashOf 111 = .ok (.iconst 1, 1) := z_dk tdX12_clashOf_80 21 rfl
theorem dX12_clashOf_112 : decode cX12_clashOf 112 = .ok (.iaload, 1) := z_dk tdX12_clashOf_80 22 rfl
theorem dX12_clashOf_113 : decode cX12_clashOf 113 = .ok (.iadd, 1) := z_dk tdX12_clashOf_80 23 rfl
theorem tdX12_clashOf_114 : (([(114, .invokestatic 260, 3), (117, .istore 8, 2), (119, .iload 7, 2), (121, .iload 8, 2), (123, .if_icmp .ge 22, 3), (126, .iload 4, 2), (128, .sipush (-1000), 3), (131, .if_icmp .eq 10, 3), (134, .iload 7, 2), (136, .iload 4, 2), (138, .if_icmp .ge 7, 3), (141, .iload 7, 2), (143, .istore 4, 2), (145, .iinc 6 1, 3), (148, .goto (-101), 3), (151, .iinc 5 1, 3), (154, .goto (-116), 3), (157, .iload 4, 2), (159, .ireturn, 1)] : List (Nat × Instr × Nat)).all fun e => decide (decode cX12_clashOf e.1 = .ok e.2)) = true := by decide +kernel
theorem dX12_clashOf_114 : decode cX12_clashOf 114 = .ok (.invokestatic 260, 3) := z_dk tdX12_clashOf_114 0 rfl
theorem dX12_clashOf_117 : decode cX12_clashOf 117 = .ok (.istore 8, 2) := z_dk tdX12_clashOf_114 1 rfl
theorem dX12_clashOf_119 : decode cX12_clashOf 119 = .ok (.iload 7, 2) := z_dk tdX12_clashOf_114 2 rfl
theorem dX12_clashOf_121 : decode cX12_clashOf 121 = .ok (.iload 8, 2) := z_dk tdX12_clashOf_114 3 rfl
theorem dX12_clashOf_123 : decode cX12_clashOf 123 = .ok (.if_icmp .ge 22, 3) := z_dk tdX12_clashOf_114 4 rfl
theorem dX12_clashOf_126 : decode cX12_clashOf 126 = .ok (.iload 4, 2) := z_dk tdX12_clashOf_114 5 rfl
theorem dX12_clashOf_128 : decode cX12_clashOf 128 = .ok (.sipush (-1000), 3) := z_dk tdX12_clashOf_114 6 rfl
theorem dX12_clashOf_131 : decode cX12_clashOf 131 = .ok (.if_icmp .eq 10, 3) := z_dk tdX12_clashOf_114 7 rfl
theorem dX12_clashOf_134 : decode cX12_clashOf 134 = .ok (.iload 7, 2) := z_dk tdX12_clashOf_114 8 rfl
theorem dX12_clashOf_136 : decode cX12_clashOf 136 = .ok (.iload 4, 2) := z_dk tdX12_clashOf_114 9 rfl
theorem dX12_clashOf_138 : decode cX12_clashOf 138 = .ok (.if_icmp .ge 7, 3) := z_dk tdX12_clashOf_114 10 rfl
theorem dX12_clashOf_141 : decode cX12_clashOf 141 = .ok (.iload 7, 2) := z_dk tdX12_clashOf_114 11 rfl
theorem dX12_clashOf_143 : decode cX12_clashOf 143 = .ok (.istore 4, 2) := z_dk tdX12_clashOf_114 12 rfl
theorem dX12_clashOf_145 : decode cX12_clashOf 145 = .ok (.iinc 6 1, 3) := z_dk tdX12_clashOf_114 13 rfl
theorem dX12_clashOf_148 : decode cX12_clashOf 148 = .ok (.goto (-101), 3) := z_dk tdX12_clashOf_114 14 rfl
theorem dX12_clashOf_151 : decode cX12_clashOf 151 = .ok (.iinc 5 1, 3) := z_dk tdX12_clashOf_114 15 rfl
theorem dX12_clashOf_154 : decode cX12_clashOf 154 = .ok (.goto (-116), 3) := z_dk tdX12_clashOf_114 16 rfl
theorem dX12_clashOf_157 : decode cX12_clashOf 157 = .ok (.iload 4, 2) := z_dk tdX12_clashOf_114 17 rfl
theorem dX12_clashOf_159 : decode cX12_clashOf 159 = .ok (.ireturn, 1) := z_dk tdX12_clashOf_114 18 rfl
theorem tdX12_gutterOf_0 : (([(0, .aload_n 0, 1), (1, .iload_n 1, 1), (2, .invokevirtual 420, 3), (5, .sipush (-1000), 3), (8, .if_icmp .eq 14, 3), (11, .aload_n 0, 1), (12, .getfield 20, 3), (15, .bipush 8, 2), (17, .iaload, 1), (18, .bipush 12, 2), (20, .iadd, 1), (21, .ireturn, 1), (22, .aload_n 0, 1), (23, .getfield 20, 3), (26, .bipush 8, 2), (28, .iaload, 1), (29, .aload_n 0, 1), (30, .iload_n 1, 1), (31, .iconst 1, 1), (32, .invokevirtual 417, 3), (35, .aload_n 0, 1), (36, .iload_n 1, 1), (37, .iconst 1, 1), (38, .iadd, 1)] : List (Nat × Instr × Nat)).all fun e => decide (decode cX12_gutterOf e.1 = .ok e.2)) = true := by decide +kernel
theorem dX12_gutterOf_0 : decode cX12_gutterOf 0 = .ok (.aload_n 0, 1) := z_dk tdX12_gutterOf_0 0 rfl
theorem dX12_gutterOf_1 : decode cX12_gutterOf 1 = .ok (.iload_n 1, 1) := z_dk tdX12_gutterOf_0 1 rfl
theorem dX12_gutterOf_2 : decode cX12_gutterOf 2 = .ok (.invokevirtual 420, 3) := z_dk tdX12_gutterOf_0 2 rfl
theorem dX12_gutterOf_5 : decode cX12_gutterOf 5 = .ok (.sipush (-1000), 3) := z_dk tdX12_gutterOf_0 3 rfl
theorem dX12_gutterOf_8 : decode cX12_gutterOf 8 = .ok (.if_icmp .eq 14, 3) := z_dk tdX12_gutterOf_0 4 rfl
theorem dX12_gutterOf_11 : decode cX12_gutterOf 11 = .ok (.aload_n 0, 1) := z_dk tdX12_gutterOf_0 5 rfl
theorem dX12_gutterOf_12 : decode cX12_gutterOf 12 = .ok (.getfield 20, 3) := z_dk tdX12_gutterOf_0 6 rfl
theorem dX12_gutterOf_15 : decode cX12_gutterOf 15 = .ok (.bipush 8, 2) := z_dk tdX12_gutterOf_0 7 rfl
theorem dX12_gutterOf_17 : decode cX12_gutterOf 17 = .ok (.iaload, 1) := z_dk tdX12_gutterOf_0 8 rfl
theorem dX12_gutterOf_18 : decode cX12_gutterOf 18 = .ok (.bipush 12, 2) := z_dk tdX12_gutterOf_0 9 rfl
theorem dX12_gutterOf_20 : decode cX12_gutterOf 20 = .ok (.iadd, 1) := z_dk tdX12_gutterOf_0 10 rfl
theorem dX12_gutterOf_21 : decode cX12_gutterOf 21 = .ok (.ireturn, 1) := z_dk tdX12_gutterOf_0 11 rfl
theorem dX12_gutterOf_22 : decode cX12_gutterOf 22 = .ok (.aload_n 0, 1) := z_dk tdX12_gutterOf_0 12 rfl
theorem dX12_gutterOf_23 : decode cX12_gutterOf 23 = .ok (.getfield 20, 3) := z_dk tdX12_gutterOf_0 13 rfl
theorem dX12_gutterOf_26 : decode cX12_gutterOf 26 = .ok (.bipush 8, 2) := z_dk tdX12_gutterOf_0 14 rfl
theorem dX12_gutterOf_28 : decode cX12_gutterOf 28 = .ok (.iaload, 1) := z_dk tdX12_gutterOf_0 15 rfl
theorem dX12_gutterOf_29 : decode cX12_gutterOf 29 = .ok (.aload_n 0, 1) := z_dk tdX12_gutterOf_0 16 rfl
theorem dX12_gutterOf_30 : decode cX12_gutterOf 30 = .ok (.iload_n 1, 1) := z_dk tdX12_gutterOf_0 17 rfl
theorem dX12_gutterOf_31 : decode cX12_gutterOf 31 = .ok (.iconst 1, 1) := z_dk tdX12_gutterOf_0 18 rfl
theorem dX12_gutterOf_32 : decode cX12_gutterOf 32 = .ok (.invokevirtual 417, 3) := z_dk tdX12_gutterOf_0 19 rfl
theorem dX12_gutterOf_35 : decode cX12_gutterOf 35 = .ok (.aload_n 0, 1) := z_dk tdX12_gutterOf_0 20 rfl
theorem dX12_gutterOf_36 : decode cX12_gutterOf 36 = .ok (.iload_n 1, 1) := z_dk tdX12_gutterOf_0 21 rfl
theorem dX12_gutterOf_37 : decode cX12_gutterOf 37 = .ok (.iconst 1, 1) := z_dk tdX12_gutterOf_0 22 rfl
theorem dX12_gutterOf_38 : decode cX12_gutterOf 38 = .ok (.iadd, 1) := z_dk tdX12_gutterOf_0 23 rfl
theorem tdX12_gutterOf_39 : (([(39, .iconst 0, 1), (40, .invokevirtual 417, 3), (43, .iadd, 1), (44, .ifCond .le 8, 3), (47, .bipush 6, 2), (49, .goto 4, 3), (52, .iconst 0, 1), (53, .iadd, 1), (54, .ireturn, 1)] : List (Nat × Instr × Nat)).all fun e => decide (decode cX12_gutterOf e.1 = .ok e.2)) = true := by decide +kernel
theorem dX12_gutterOf_39 : decode cX12_gutterOf 39 = .ok (.iconst 0, 1) := z_dk tdX12_gutterOf_39 0 rfl
theorem dX12_gutterOf_40 : decode cX12_gutterOf 40 = .ok (.invokevirtual 417, 3) := z_dk tdX12_gutterOf_39 1 rfl
theorem dX12_gutterOf_43 : decode cX12_gutterOf 43 = .ok (.iadd, 1) := z_dk tdX12_gutterOf_39 2 rfl
theorem dX12_gutterOf_44 : decode cX12_gutterOf 44 = .ok (.ifCond .le 8, 3) := z_dk tdX12_gutterOf_39 3 rfl
theorem dX12_gutterOf_47 : decode cX12_gutterOf 47 = .ok (.bipush 6, 2) := z_dk tdX12_gutterOf_39 4 rfl
theorem dX12_gutterOf_49 : decode cX12_gutterOf 49 = .ok (.goto 4, 3) := z_dk tdX12_gutterOf_39 5 rfl
theorem dX12_gutterOf_52 : decode cX12_gutterOf 52 = .ok (.iconst 0, 1) := z_dk tdX12_gutterOf_39 6 rfl
theorem dX12_gutterOf_53 : decode cX12_gutterOf 53 = .ok (.iadd, 1) := z_dk tdX12_gutterOf_39 7 rfl
theorem dX12_gutterOf_54 : decode cX12_gutterOf 54 = .ok (.ireturn, 1) := z_dk tdX12_gutterOf_39 8 rfl
theorem tdX12_gutter_0 : (([(0, .aload_n 0, 1), (1, .iconst 0, 1), (2, .putfield 170, 3), (5, .aload_n 0, 1), (6, .aload_n 0, 1), (7, .iload_n 1, 1), (8, .invokevirtual 414, 3), (11, .ifCond .ne 7, 3), (14, .iconst 1, 1), (15, .goto 4, 3), (18, .iconst 0, 1), (19, .iconst 1, 1), (20, .iconst 0, 1), (21, .invokevirtual 249, 3), (24, .ifCond .eq 5, 3), (27, .iconst 0, 1), (28, .ireturn, 1), (29, .iload_n 1, 1), (30, .iconst 1, 1), (31, .iadd, 1), (32, .aload_n 0, 1), (33, .getfield 365, 3), (36, .if_icmp .ne 7, 3), (39, .iconst (-1), 1)] : List (Nat × Instr × Nat)).all fun e => decide (decode cX12_gutter e.1 = .ok e.2)) = true := by decide +kernel
theorem dX12_gutter_0 : decode cX12_gutter 0 = .ok (.aload_n 0, 1) := z_dk tdX12_gutter_0 0 rfl
theorem dX12_gutter_1 : decode cX12_gutter 1 = .ok (.iconst 0, 1) := z_dk tdX12_gutter_0 1 rfl
theorem dX12_gutter_2 : decode cX12_gutter 2 = .ok (.putfield 170, 3) := z_dk tdX12_gutter_0 2 rfl
theorem dX12_gutter_5 : decode cX12_gutter 5 = .ok (.aload_n 0, 1) := z_dk tdX12_gutter_0 3 rfl
theorem dX12_gutter_6 : decode cX12_gutter 6 = .ok (.aload_n 0, 1) := z_dk tdX12_gutter_0 4 rfl
theorem dX12_gutter_7 : decode cX12_gutter 7 = .ok (.iload_n 1, 1) := z_dk tdX12_gutter_0 5 rfl
theorem dX12_gutter_8 : decode cX12_gutter 8 = .ok (.invokevirtual 414, 3) := z_dk tdX12_gutter_0 6 rfl
theorem dX12_gutter_11 : decode cX12_gutter 11 = .ok (.ifCond .ne 7, 3) := z_dk tdX12_gutter_0 7 rfl
theorem dX12_gutter_14 : decode cX12_gutter 14 = .ok (.iconst 1, 1) := z_dk tdX12_gutter_0 8 rfl
theorem dX12_gutter_15 : decode cX12_gutter 15 = .ok (.goto 4, 3) := z_dk tdX12_gutter_0 9 rfl
theorem dX12_gutter_18 : decode cX12_gutter 18 = .ok (.iconst 0, 1) := z_dk tdX12_gutter_0 10 rfl
theorem dX12_gutter_19 : decode cX12_gutter 19 = .ok (.iconst 1, 1) := z_dk tdX12_gutter_0 11 rfl
theorem dX12_gutter_20 : decode cX12_gutter 20 = .ok (.iconst 0, 1) := z_dk tdX12_gutter_0 12 rfl
theorem dX12_gutter_21 : decode cX12_gutter 21 = .ok (.invokevirtual 249, 3) := z_dk tdX12_gutter_0 13 rfl
theorem dX12_gutter_24 : decode cX12_gutter 24 = .ok (.ifCond .eq 5, 3) := z_dk tdX12_gutter_0 14 rfl
theorem dX12_gutter_27 : decode cX12_gutter 27 = .ok (.iconst 0, 1) := z_dk tdX12_gutter_0 15 rfl
theorem dX12_gutter_28 : decode cX12_gutter 28 = .ok (.ireturn, 1) := z_dk tdX12_gutter_0 16 rfl
theorem dX12_gutter_29 : decode cX12_gutter 29 = .ok (.iload_n 1, 1) := z_dk tdX12_gutter_0 17 rfl
theorem dX12_gutter_30 : decode cX12_gutter 30 = .ok (.iconst 1, 1) := z_dk tdX12_gutter_0 18 rfl
theorem dX12_gutter_31 : decode cX12_gutter 31 = .ok (.iadd, 1) := z_dk tdX12_gutter_0 19 rfl
theorem dX12_gutter_32 : decode cX12_gutter 32 = .ok (.aload_n 0, 1) := z_dk tdX12_gutter_0 20 rfl
theorem dX12_gutter_33 : decode cX12_gutter 33 = .ok (.getfield 365, 3) := z_dk tdX12_gutter_0 21 rfl
theorem dX12_gutter_36 : decode cX12_gutter 36 = .ok (.if_icmp .ne 7, 3) := z_dk tdX12_gutter_0 22 rfl
theorem dX12_gutter_39 : decode cX12_gutter 39 = .ok (.iconst (-1), 1) := z_dk tdX12_gutter_0 23 rfl
theorem tdX12_gutter_40 : (([(40, .goto 8, 3), (43, .aload_n 0, 1), (44, .iload_n 1, 1), (45, .invokevirtual 423, 3), (48, .ireturn, 1)] : List (Nat × Instr × Nat)).all fun e => decide (decode cX12_gutter e.1 = .ok e.2)) = true := by decide +kernel
theorem dX12_gutter_40 : decode cX12_gutter 40 = .ok (.goto 8, 3) := z_dk tdX12_gutter_40 0 rfl
theorem dX12_gutter_43 : decode cX12_gutter 43 = .ok (.aload_n 0, 1) := z_dk tdX12_gutter_40 1 rfl
theorem dX12_gutter_44 : decode cX12_gutter 44 = .ok (.iload_n 1, 1) := z_dk tdX12_gutter_40 2 rfl
theorem dX12_gutter_45 : decode cX12_gutter 45 = .ok (.invokevirtual 423, 3) := z_dk tdX12_gutter_40 3 rfl
theorem dX12_gutter_48 : decode cX12_gutter 48 = .ok (.ireturn, 1) := z_dk tdX12_gutter_40 4 rfl
theorem tdX12_clash_0 : (([(0, .aload_n 0, 1), (1, .iconst 0, 1), (2, .putfield 170, 3), (5, .aload_n 0, 1), (6, .aload_n 0, 1), (7, .iload_n 1, 1), (8, .invokevirtual 414, 3), (11, .ifCond .ne 7, 3), (14, .iconst 1, 1), (15, .goto 4, 3), (18, .iconst 0, 1), (19, .iconst 1, 1), (20, .iconst 0, 1), (21, .invokevirtual 249, 3), (24, .ifCond .eq 5, 3), (27, .iconst 0, 1), (28, .ireturn, 1), (29, .aload_n 0, 1), (30, .iload_n 1, 1), (31, .invokevirtual 420, 3), (34, .ireturn, 1)] : List (Nat × Instr × Nat)).all fun e => decide (decode cX12_clash e.1 = .ok e.2)) = true := by decide +kernel
theorem dX12_clash_0 : decode cX12_clash 0 = .ok (.aload_n 0, 1) := z_dk tdX12_clash_0 0 rfl
theorem dX12_clash_1 : decode cX12_clash 1 = .ok (.iconst 0, 1) := z_dk tdX12_clash_0 1 rfl
theorem dX12_clash_2 : decode cX12_clash 2 = .ok (.putfield 170, 3) := z_dk tdX12_clash_0 2 rfl
theorem dX12_clash_5 : decode cX12_clash 5 = .ok (.aload_n 0, 1) := z_dk tdX12_clash_0 3 rfl
theorem dX12_clash_6 : decode cX12_clash 6 = .ok (.aload_n 0, 1) := z_dk tdX12_clash_0 4 rfl
theorem dX12_clash_7 : decode cX12_clash 7 = .ok (.iload_n 1, 1) := z_dk tdX12_clash_0 5 rfl
theorem dX12_clash_8 : decode cX12_clash 8 = .ok (.invokevirtual 414, 3) := z_dk tdX12_clash_0 6 rfl
theorem dX12_clash_11 : decode cX12_clash 11 = .ok (.ifCond .ne 7, 3) := z_dk tdX12_clash_0 7 rfl
theorem dX12_clash_14 : decode cX12_clash 14 = .ok (.iconst 1, 1) := z_dk tdX12_clash_0 8 rfl
theorem dX12_clash_15 : decode cX12_clash 15 = .ok (.goto 4, 3) := z_dk tdX12_clash_0 9 rfl
theorem dX12_clash_18 : decode cX12_clash 18 = .ok (.iconst 0, 1) := z_dk tdX12_clash_0 10 rfl
theorem dX12_clash_19 : decode cX12_clash 19 = .ok (.iconst 1, 1) := z_dk tdX12_clash_0 11 rfl
theorem dX12_clash_20 : decode cX12_clash 20 = .ok (.iconst 0, 1) := z_dk tdX12_clash_0 12 rfl
theorem dX12_clash_21 : decode cX12_clash 21 = .ok (.invokevirtual 249, 3) := z_dk tdX12_clash_0 13 rfl
theorem dX12_clash_24 : decode cX12_clash 24 = .ok (.ifCond .eq 5, 3) := z_dk tdX12_clash_0 14 rfl
theorem dX12_clash_27 : decode cX12_clash 27 = .ok (.iconst 0, 1) := z_dk tdX12_clash_0 15 rfl
theorem dX12_clash_28 : decode cX12_clash 28 = .ok (.ireturn, 1) := z_dk tdX12_clash_0 16 rfl
theorem dX12_clash_29 : decode cX12_clash 29 = .ok (.aload_n 0, 1) := z_dk tdX12_clash_0 17 rfl
theorem dX12_clash_30 : decode cX12_clash 30 = .ok (.iload_n 1, 1) := z_dk tdX12_clash_0 18 rfl
theorem dX12_clash_31 : decode cX12_clash 31 = .ok (.invokevirtual 420, 3) := z_dk tdX12_clash_0 19 rfl
theorem dX12_clash_34 : decode cX12_clash 34 = .ok (.ireturn, 1) := z_dk tdX12_clash_0 20 rfl
theorem tdX12_thickOf_0 : (([(0, .aload_n 0, 1), (1, .iload_n 1, 1), (2, .iconst 0, 1), (3, .invokevirtual 417, 3), (6, .ifCond .le 8, 3), (9, .bipush 6, 2), (11, .goto 4, 3), (14, .iconst 0, 1), (15, .aload_n 0, 1), (16, .iload_n 2, 1), (17, .iconst 1, 1), (18, .invokevirtual 417, 3), (21, .ifCond .le 8, 3), (24, .bipush 6, 2), (26, .goto 4, 3), (29, .iconst 0, 1), (30, .iadd, 1), (31, .bipush 12, 2), (33, .iadd, 1), (34, .istore_n 3, 1), (35, .iload_n 1, 1), (36, .istore 4, 2), (38, .iload 4, 2), (40, .iload_n 2, 1)] : List (Nat × Instr × Nat)).all fun e => decide (decode cX12_thickOf e.1 = .ok e.2)) = true := by decide +kernel
theorem dX12_thickOf_0 : decode cX12_thickOf 0 = .ok (.aload_n 0, 1) := z_dk tdX12_thickOf_0 0 rfl
theorem dX12_thickOf_1 : decode cX12_thickOf 1 = .ok (.iload_n 1, 1) := z_dk tdX12_thickOf_0 1 rfl
theorem dX12_thickOf_2 : decode cX12_thickOf 2 = .ok (.iconst 0, 1) := z_dk tdX12_thickOf_0 2 rfl
theorem dX12_thickOf_3 : decode cX12_thickOf 3 = .ok (.invokevirtual 417, 3) := z_dk tdX12_thickOf_0 3 rfl
theorem dX12_thickOf_6 : decode cX12_thickOf 6 = .ok (.ifCond .le 8, 3) := z_dk tdX12_thickOf_0 4 rfl
theorem dX12_thickOf_9 : decode cX12_thickOf 9 = .ok (.bipush 6, 2) := z_dk tdX12_thickOf_0 5 rfl
theorem dX12_thickOf_11 : decode cX12_thickOf 11 = .ok (.goto 4, 3) := z_dk tdX12_thickOf_0 6 rfl
theorem dX12_thickOf_14 : decode cX12_thickOf 14 = .ok (.iconst 0, 1) := z_dk tdX12_thickOf_0 7 rfl
theorem dX12_thickOf_15 : decode cX12_thickOf 15 = .ok (.aload_n 0, 1) := z_dk tdX12_thickOf_0 8 rfl
theorem dX12_thickOf_16 : decode cX12_thickOf 16 = .ok (.iload_n 2, 1) := z_dk tdX12_thickOf_0 9 rfl
theorem dX12_thickOf_17 : decode cX12_thickOf 17 = .ok (.iconst 1, 1) := z_dk tdX12_thickOf_0 10 rfl
theorem dX12_thickOf_18 : decode cX12_thickOf 18 = .ok (.invokevirtual 417, 3) := z_dk tdX12_thickOf_0 11 rfl
theorem dX12_thickOf_21 : decode cX12_thickOf 21 = .ok (.ifCond .le 8, 3) := z_dk tdX12_thickOf_0 12 rfl
theorem dX12_thickOf_24 : decode cX12_thickOf 24 = .ok (.bipush 6, 2) := z_dk tdX12_thickOf_0 13 rfl
theorem dX12_thickOf_26 : decode cX12_thickOf 26 = .ok (.goto 4, 3) := z_dk tdX12_thickOf_0 14 rfl
theorem dX12_thickOf_29 : decode cX12_thickOf 29 = .ok (.iconst 0, 1) := z_dk tdX12_thickOf_0 15 rfl
theorem dX12_thickOf_30 : decode cX12_thickOf 30 = .ok (.iadd, 1) := z_dk tdX12_thickOf_0 16 rfl
theorem dX12_thickOf_31 : decode cX12_thickOf 31 = .ok (.bipush 12, 2) := z_dk tdX12_thickOf_0 17 rfl
theorem dX12_thickOf_33 : decode cX12_thickOf 33 = .ok (.iadd, 1) := z_dk tdX12_thickOf_0 18 rfl
theorem dX12_thickOf_34 : decode cX12_thickOf 34 = .ok (.istore_n 3, 1) := z_dk tdX12_thickOf_0 19 rfl
theorem dX12_thickOf_35 : decode cX12_thickOf 35 = .ok (.iload_n 1, 1) := z_dk tdX12_thickOf_0 20 rfl
theorem dX12_thickOf_36 : decode cX12_thickOf 36 = .ok (.istore 4, 2) := z_dk tdX12_thickOf_0 21 rfl
theorem dX12_thickOf_38 : decode cX12_thickOf 38 = .ok (.iload 4, 2) := z_dk tdX12_thickOf_0 22 rfl
theorem dX12_thickOf_40 : decode cX12_thickOf 40 = .ok (.iload_n 2, 1) := z_dk tdX12_thickOf_0 23 rfl
theorem tdX12_thickOf_41 : (([(41, .if_icmp .ge 21, 3), (44, .iload_n 3, 1), (45, .bipush 12, 2), (47, .aload_n 0, 1), (48, .iload 4, 2), (50, .invokevirtual 423, 3), (53, .iadd, 1), (54, .iadd, 1), (55, .istore_n 3, 1), (56, .iinc 4 1, 3), (59, .goto (-21), 3), (62, .iload_n 3, 1), (63, .ireturn, 1)] : List (Nat × Instr × Nat)).all fun e => decide (decode cX12_thickOf e.1 = .ok e.2)) = true := by decide +kernel
theorem dX12_thickOf_41 : decode cX12_thickOf 41 = .ok (.if_icmp .ge 21, 3) := z_dk tdX12_thickOf_41 0 rfl
theorem dX12_thickOf_44 : decode cX12_thickOf 44 = .ok (.iload_n 3, 1) := z_dk tdX12_thickOf_41 1 rfl
theorem dX12_thickOf_45 : decode cX12_thickOf 45 = .ok (.bipush 12, 2) := z_dk tdX12_thickOf_41 2 rfl
theorem dX12_thickOf_47 : decode cX12_thickOf 47 = .ok (.aload_n 0, 1) := z_dk tdX12_thickOf_41 3 rfl
theorem dX12_thickOf_48 : decode cX12_thickOf 48 = .ok (.iload 4, 2) := z_dk tdX12_thickOf_41 4 rfl
theorem dX12_thickOf_50 : decode cX12_thickOf 50 = .ok (.invokevirtual 423, 3) := z_dk tdX12_thickOf_41 5 rfl
theorem dX12_thickOf_53 : decode cX12_thickOf 53 = .ok (.iadd, 1) := z_dk tdX12_thickOf_41 6 rfl
theorem dX12_thickOf_54 : decode cX12_thickOf 54 = .ok (.iadd, 1) := z_dk tdX12_thickOf_41 7 rfl
theorem dX12_thickOf_55 : decode cX12_thickOf 55 = .ok (.istore_n 3, 1) := z_dk tdX12_thickOf_41 8 rfl
theorem dX12_thickOf_56 : decode cX12_thickOf 56 = .ok (.iinc 4 1, 3) := z_dk tdX12_thickOf_41 9 rfl
theorem dX12_thickOf_59 : decode cX12_thickOf 59 = .ok (.goto (-21), 3) := z_dk tdX12_thickOf_41 10 rfl
theorem dX12_thickOf_62 : decode cX12_thickOf 62 = .ok (.iload_n 3, 1) := z_dk tdX12_thickOf_41 11 rfl
theorem dX12_thickOf_63 : decode cX12_thickOf 63 = .ok (.ireturn, 1) := z_dk tdX12_thickOf_41 12 rfl
theorem tdX12_thick_0 : (([(0, .aload_n 0, 1), (1, .iconst 0, 1), (2, .putfield 170, 3), (5, .aload_n 0, 1), (6, .aload_n 0, 1), (7, .iload_n 1, 1), (8, .invokevirtual 414, 3), (11, .ifCond .eq 11, 3), (14, .aload_n 0, 1), (15, .iload_n 2, 1), (16, .invokevirtual 414, 3), (19, .ifCond .ne 7, 3), (22, .iconst 1, 1), (23, .goto 4, 3), (26, .iconst 0, 1), (27, .iconst 1, 1), (28, .iconst 0, 1), (29, .invokevirtual 249, 3), (32, .ifCond .ne 22, 3), (35, .aload_n 0, 1), (36, .iload_n 2, 1), (37, .iload_n 1, 1), (38, .if_icmp .ge 7, 3), (41, .iconst 1, 1)] : List (Nat × Instr × Nat)).all fun e => decide (decode cX12_thick e.1 = .ok e.2)) = true := by decide +kernel
theorem dX12_thick_0 : decode cX12_thick 0 = .ok (.aload_n 0, 1) := z_dk tdX12_thick_0 0 rfl
theorem dX12_thick_1 : decode cX12_thick 1 = .ok (.iconst 0, 1) := z_dk tdX12_thick_0 1 rfl
theorem dX12_thick_2 : decode cX12_thick 2 = .ok (.putfield 170, 3) := z_dk tdX12_thick_0 2 rfl
theorem dX12_thick_5 : decode cX12_thick 5 = .ok (.aload_n 0, 1) := z_dk tdX12_thick_0 3 rfl
theorem dX12_thick_6 : decode cX12_thick 6 = .ok (.aload_n 0, 1) := z_dk tdX12_thick_0 4 rfl
theorem dX12_thick_7 : decode cX12_thick 7 = .ok (.iload_n 1, 1) := z_dk tdX12_thick_0 5 rfl
theorem dX12_thick_8 : decode cX12_thick 8 = .ok (.invokevirtual 414, 3) := z_dk tdX12_thick_0 6 rfl
theorem dX12_thick_11 : decode cX12_thick 11 = .ok (.ifCond .eq 11, 3) := z_dk tdX12_thick_0 7 rfl
theorem dX12_thick_14 : decode cX12_thick 14 = .ok (.aload_n 0, 1) := z_dk tdX12_thick_0 8 rfl
theorem dX12_thick_15 : decode cX12_thick 15 = .ok (.iload_n 2, 1) := z_dk tdX12_thick_0 9 rfl
theorem dX12_thick_16 : decode cX12_thick 16 = .ok (.invokevirtual 414, 3) := z_dk tdX12_thick_0 10 rfl
theorem dX12_thick_19 : decode cX12_thick 19 = .ok (.ifCond .ne 7, 3) := z_dk tdX12_thick_0 11 rfl
theorem dX12_thick_22 : decode cX12_thick 22 = .ok (.iconst 1, 1) := z_dk tdX12_thick_0 12 rfl
theorem dX12_thick_23 : decode cX12_thick 23 = .ok (.goto 4, 3) := z_dk tdX12_thick_0 13 rfl
theorem dX12_thick_26 : decode cX12_thick 26 = .ok (.iconst 0, 1) := z_dk tdX12_thick_0 14 rfl
theorem dX12_thick_27 : decode cX12_thick 27 = .ok (.iconst 1, 1) := z_dk tdX12_thick_0 15 rfl
theorem dX12_thick_28 : decode cX12_thick 28 = .ok (.iconst 0, 1) := z_dk tdX12_thick_0 16 rfl
theorem dX12_thick_29 : decode cX12_thick 29 = .ok (.invokevirtual 249, 3) := z_dk tdX12_thick_0 17 rfl
theorem dX12_thick_32 : decode cX12_thick 32 = .ok (.ifCond .ne 22, 3) := z_dk tdX12_thick_0 18 rfl
theorem dX12_thick_35 : decode cX12_thick 35 = .ok (.aload_n 0, 1) := z_dk tdX12_thick_0 19 rfl
theorem dX12_thick_36 : decode cX12_thick 36 = .ok (.iload_n 2, 1) := z_dk tdX12_thick_0 20 rfl
theorem dX12_thick_37 : decode cX12_thick 37 = .ok (.iload_n 1, 1) := z_dk tdX12_thick_0 21 rfl
theorem dX12_thick_38 : decode cX12_thick 38 = .ok (.if_icmp .ge 7, 3) := z_dk tdX12_thick_0 22 rfl
theorem dX12_thick_41 : decode cX12_thick 41 = .ok (.iconst 1, 1) := z_dk tdX12_thick_0 23 rfl
theorem tdX12_thick_42 : (([(42, .goto 4, 3), (45, .iconst 0, 1), (46, .iconst 2, 1), (47, .iconst 1, 1), (48, .invokevirtual 249, 3), (51, .ifCond .eq 5, 3), (54, .iconst 0, 1), (55, .ireturn, 1), (56, .aload_n 0, 1), (57, .iload_n 1, 1), (58, .iload_n 2, 1), (59, .invokevirtual 426, 3), (62, .ireturn, 1)] : List (Nat × Instr × Nat)).all fun e => decide (decode cX12_thick e.1 = .ok e.2)) = true := by decide +kernel
theorem dX12_thick_42 : decode cX12_thick 42 = .ok (.goto 4, 3) := z_dk tdX12_thick_42 0 rfl
theorem dX12_thick_45 : decode cX12_thick 45 = .ok (.iconst 0, 1) := z_dk tdX12_thick_42 1 rfl
theorem dX12_thick_46 : decode cX12_thick 46 = .ok (.iconst 2, 1) := z_dk tdX12_thick_42 2 rfl
theorem dX12_thick_47 : decode cX12_thick 47 = .ok (.iconst 1, 1) := z_dk tdX12_thick_42 3 rfl
theorem dX12_thick_48 : decode cX12_thick 48 = .ok (.invokevirtual 249, 3) := z_dk tdX12_thick_42 4 rfl
theorem dX12_thick_51 : decode cX12_thick 51 = .ok (.ifCond .eq 5, 3) := z_dk tdX12_thick_42 5 rfl
theorem dX12_thick_54 : decode cX12_thick 54 = .ok (.iconst 0, 1) := z_dk tdX12_thick_42 6 rfl
theorem dX12_thick_55 : decode cX12_thick 55 = .ok (.ireturn, 1) := z_dk tdX12_thick_42 7 rfl
theorem dX12_thick_56 : decode cX12_thick 56 = .ok (.aload_n 0, 1) := z_dk tdX12_thick_42 8 rfl
theorem dX12_thick_57 : decode cX12_thick 57 = .ok (.iload_n 1, 1) := z_dk tdX12_thick_42 9 rfl
theorem dX12_thick_58 : decode cX12_thick 58 = .ok (.iload_n 2, 1) := z_dk tdX12_thick_42 10 rfl
theorem dX12_thick_59 : decode cX12_thick 59 = .ok (.invokevirtual 426, 3) := z_dk tdX12_thick_42 11 rfl
theorem dX12_thick_62 : decode cX12_thick 62 = .ok (.ireturn, 1) := z_dk tdX12_thick_42 12 rfl
theorem tdX12_laysGutters_0 : (([(0, .aload_n 0, 1), (1, .invokevirtual 371, 3), (4, .iconst 0, 1), (5, .istore_n 1, 1), (6, .iload_n 1, 1), (7, .aload_n 0, 1), (8, .getfield 365, 3), (11, .if_icmp .ge 55, 3), (14, .aload_n 0, 1), (15, .getfield 158, 3), (18, .iload_n 1, 1), (19, .iload_n 1, 1), (20, .iconst 1, 1), (21, .iadd, 1), (22, .aload_n 0, 1), (23, .getfield 365, 3), (26, .if_icmp .ge 11, 3), (29, .aload_n 0, 1), (30, .iload_n 1, 1), (31, .invokevirtual 423, 3), (34, .goto 4, 3), (37, .iconst 0, 1), (38, .iastore, 1), (39, .aload_n 0, 1)] : List (Nat × Instr × Nat)).all fun e => decide (decode cX12_laysGutters e.1 = .ok e.2)) = true := by decide +kernel
theorem dX12_laysGutters_0 : decode cX12_laysGutters 0 = .ok (.aload_n 0, 1) := z_dk tdX12_laysGutters_0 0 rfl
theorem dX12_laysGutters_1 : decode cX12_laysGutters 1 = .ok (.invokevirtual 371, 3) := z_dk tdX12_laysGutters_0 1 rfl
theorem dX12_laysGutters_4 : decode cX12_laysGutters 4 = .ok (.iconst 0, 1) := z_dk tdX12_laysGutters_0 2 rfl
theorem dX12_laysGutters_5 : decode cX12_laysGutters 5 = .ok (.istore_n 1, 1) := z_dk tdX12_laysGutters_0 3 rfl
theorem dX12_laysGutters_6 : decode cX12_laysGutters 6 = .ok (.iload_n 1, 1) := z_dk tdX12_laysGutters_0 4 rfl
theorem dX12_laysGutters_7 : decode cX12_laysGutters 7 = .ok (.aload_n 0, 1) := z_dk tdX12_laysGutters_0 5 rfl
theorem dX12_laysGutters_8 : decode cX12_laysGutters 8 = .ok (.getfield 365, 3) := z_dk tdX12_laysGutters_0 6 rfl
theorem dX12_laysGutters_11 : decode cX12_laysGutters 11 = .ok (.if_icmp .ge 55, 3) := z_dk tdX12_laysGutters_0 7 rfl
theorem dX12_laysGutters_14 : decode cX12_laysGutters 14 = .ok (.aload_n 0, 1) := z_dk tdX12_laysGutters_0 8 rfl
theorem dX12_laysGutters_15 : decode cX12_laysGutters 15 = .ok (.getfield 158, 3) := z_dk tdX12_laysGutters_0 9 rfl
theorem dX12_laysGutters_18 : decode cX12_laysGutters 18 = .ok (.iload_n 1, 1) := z_dk tdX12_laysGutters_0 10 rfl
theorem dX12_laysGutters_19 : decode cX12_laysGutters 19 = .ok (.iload_n 1, 1) := z_dk tdX12_laysGutters_0 11 rfl
theorem dX12_laysGutters_20 : decode cX12_laysGutters 20 = .ok (.iconst 1, 1) := z_dk tdX12_laysGutters_0 12 rfl
theorem dX12_laysGutters_21 : decode cX12_laysGutters 21 = .ok (.iadd, 1) := z_dk tdX12_laysGutters_0 13 rfl
theorem dX12_laysGutters_22 : decode cX12_laysGutters 22 = .ok (.aload_n 0, 1) := z_dk tdX12_laysGutters_0 14 rfl
theorem dX12_laysGutters_23 : decode cX12_laysGutters 23 = .ok (.getfield 365, 3) := z_dk tdX12_laysGutters_0 15 rfl
theorem dX12_laysGutters_26 : decode cX12_laysGutters 26 = .ok (.if_icmp .ge 11, 3) := z_dk tdX12_laysGutters_0 16 rfl
theorem dX12_laysGutters_29 : decode cX12_laysGutters 29 = .ok (.aload_n 0, 1) := z_dk tdX12_laysGutters_0 17 rfl
theorem dX12_laysGutters_30 : decode cX12_laysGutters 30 = .ok (.iload_n 1, 1) := z_dk tdX12_laysGutters_0 18 rfl
theorem dX12_laysGutters_31 : decode cX12_laysGutters 31 = .ok (.invokevirtual 423, 3) := z_dk tdX12_laysGutters_0 19 rfl
theorem dX12_laysGutters_34 : decode cX12_laysGutters 34 = .ok (.goto 4, 3) := z_dk tdX12_laysGutters_0 20 rfl
theorem dX12_laysGutters_37 : decode cX12_laysGutters 37 = .ok (.iconst 0, 1) := z_dk tdX12_laysGutters_0 21 rfl
theorem dX12_laysGutters_38 : decode cX12_laysGutters 38 = .ok (.iastore, 1) := z_dk tdX12_laysGutters_0 22 rfl
theorem dX12_laysGutters_39 : decode cX12_laysGutters 39 = .ok (.aload_n 0, 1) := z_dk tdX12_laysGutters_0 23 rfl
theorem tdX12_laysGutters_40 : (([(40, .getfield 161, 3), (43, .iload_n 1, 1), (44, .aload_n 0, 1), (45, .iload_n 1, 1), (46, .iconst 1, 1), (47, .invokevirtual 417, 3), (50, .ifCond .le 8, 3), (53, .bipush 6, 2), (55, .goto 4, 3), (58, .iconst 0, 1), (59, .iastore, 1), (60, .iinc 1 1, 3), (63, .goto (-57), 3), (66, .return_, 1)] : List (Nat × Instr × Nat)).all fun e => decide (decode cX12_laysGutters e.1 = .ok e.2)) = true := by decide +kernel
theorem dX12_laysGutters_40 : decode cX12_laysGutters 40 = .ok (.getfield 161, 3) := z_dk tdX12_laysGutters_40 0 rfl
theorem dX12_laysGutters_43 : decode cX12_laysGutters 43 = .ok (.iload_n 1, 1) := z_dk tdX12_laysGutters_40 1 rfl
theorem dX12_laysGutters_44 : decode cX12_laysGutters 44 = .ok (.aload_n 0, 1) := z_dk tdX12_laysGutters_40 2 rfl
theorem dX12_laysGutters_45 : decode cX12_laysGutters 45 = .ok (.iload_n 1, 1) := z_dk tdX12_laysGutters_40 3 rfl
theorem dX12_laysGutters_46 : decode cX12_laysGutters 46 = .ok (.iconst 1, 1) := z_dk tdX12_laysGutters_40 4 rfl
theorem dX12_laysGutters_47 : decode cX12_laysGutters 47 = .ok (.invokevirtual 417, 3) := z_dk tdX12_laysGutters_40 5 rfl
theorem dX12_laysGutters_50 : decode cX12_laysGutters 50 = .ok (.ifCond .le 8, 3) := z_dk tdX12_laysGutters_40 6 rfl
theorem dX12_laysGutters_53 : decode cX12_laysGutters 53 = .ok (.bipush 6, 2) := z_dk tdX12_laysGutters_40 7 rfl
theorem dX12_laysGutters_55 : decode cX12_laysGutters 55 = .ok (.goto 4, 3) := z_dk tdX12_laysGutters_40 8 rfl
theorem dX12_laysGutters_58 : decode cX12_laysGutters 58 = .ok (.iconst 0, 1) := z_dk tdX12_laysGutters_40 9 rfl
theorem dX12_laysGutters_59 : decode cX12_laysGutters 59 = .ok (.iastore, 1) := z_dk tdX12_laysGutters_40 10 rfl
theorem dX12_laysGutters_60 : decode cX12_laysGutters 60 = .ok (.iinc 1 1, 3) := z_dk tdX12_laysGutters_40 11 rfl
theorem dX12_laysGutters_63 : decode cX12_laysGutters 63 = .ok (.goto (-57), 3) := z_dk tdX12_laysGutters_40 12 rfl
theorem dX12_laysGutters_66 : decode cX12_laysGutters 66 = .ok (.return_, 1) := z_dk tdX12_laysGutters_40 13 rfl
theorem tdX12_pagesBy_0 : (([(0, .iconst 0, 1), (1, .istore_n 2, 1), (2, .iconst 0, 1), (3, .istore_n 3, 1), (4, .iload_n 3, 1), (5, .aload_n 0, 1), (6, .getfield 365, 3), (9, .if_icmp .ge 94, 3), (12, .aload_n 0, 1), (13, .getfield 155, 3), (16, .iload_n 2, 1), (17, .iload_n 3, 1), (18, .iastore, 1), (19, .iinc 2 1, 3), (22, .aload_n 0, 1), (23, .iload_n 3, 1), (24, .iconst 0, 1), (25, .invokevirtual 417, 3), (28, .ifCond .le 8, 3), (31, .bipush 6, 2), (33, .goto 4, 3), (36, .iconst 0, 1), (37, .bipush 12, 2), (39, .iadd, 1)] : List (Nat × Instr × Nat)).all fun e => decide (decode cX12_pagesBy e.1 = .ok e.2)) = true := by decide +kernel
theorem dX12_pagesBy_0 : decode cX12_pagesBy 0 = .ok (.iconst 0, 1) := z_dk tdX12_pagesBy_0 0 rfl
theorem dX12_pagesBy_1 : decode cX12_pagesBy 1 = .ok (.istore_n 2, 1) := z_dk tdX12_pagesBy_0 1 rfl
theorem dX12_pagesBy_2 : decode cX12_pagesBy 2 = .ok (.iconst 0, 1) := z_dk tdX12_pagesBy_0 2 rfl
theorem dX12_pagesBy_3 : decode cX12_pagesBy 3 = .ok (.istore_n 3, 1) := z_dk tdX12_pagesBy_0 3 rfl
theorem dX12_pagesBy_4 : decode cX12_pagesBy 4 = .ok (.iload_n 3, 1) := z_dk tdX12_pagesBy_0 4 rfl
theorem dX12_pagesBy_5 : decode cX12_pagesBy 5 = .ok (.aload_n 0, 1) := z_dk tdX12_pagesBy_0 5 rfl
theorem dX12_pagesBy_6 : decode cX12_pagesBy 6 = .ok (.getfield 365, 3) := z_dk tdX12_pagesBy_0 6 rfl
theorem dX12_pagesBy_9 : decode cX12_pagesBy 9 = .ok (.if_icmp .ge 94, 3) := z_dk tdX12_pagesBy_0 7 rfl
theorem dX12_pagesBy_12 : decode cX12_pagesBy 12 = .ok (.aload_n 0, 1) := z_dk tdX12_pagesBy_0 8 rfl
theorem dX12_pagesBy_13 : decode cX12_pagesBy 13 = .ok (.getfield 155, 3) := z_dk tdX12_pagesBy_0 9 rfl
theorem dX12_pagesBy_16 : decode cX12_pagesBy 16 = .ok (.iload_n 2, 1) := z_dk tdX12_pagesBy_0 10 rfl
theorem dX12_pagesBy_17 : decode cX12_pagesBy 17 = .ok (.iload_n 3, 1) := z_dk tdX12_pagesBy_0 11 rfl
theorem dX12_pagesBy_18 : decode cX12_pagesBy 18 = .ok (.iastore, 1) := z_dk tdX12_pagesBy_0 12 rfl
theorem dX12_pagesBy_19 : decode cX12_pagesBy 19 = .ok (.iinc 2 1, 3) := z_dk tdX12_pagesBy_0 13 rfl
theorem dX12_pagesBy_22 : decode cX12_pagesBy 22 = .ok (.aload_n 0, 1) := z_dk tdX12_pagesBy_0 14 rfl
theorem dX12_pagesBy_23 : decode cX12_pagesBy 23 = .ok (.iload_n 3, 1) := z_dk tdX12_pagesBy_0 15 rfl
theorem dX12_pagesBy_24 : decode cX12_pagesBy 24 = .ok (.iconst 0, 1) := z_dk tdX12_pagesBy_0 16 rfl
theorem dX12_pagesBy_25 : decode cX12_pagesBy 25 = .ok (.invokevirtual 417, 3) := z_dk tdX12_pagesBy_0 17 rfl
theorem dX12_pagesBy_28 : decode cX12_pagesBy 28 = .ok (.ifCond .le 8, 3) := z_dk tdX12_pagesBy_0 18 rfl
theorem dX12_pagesBy_31 : decode cX12_pagesBy 31 = .ok (.bipush 6, 2) := z_dk tdX12_pagesBy_0 19 rfl
theorem dX12_pagesBy_33 : decode cX12_pagesBy 33 = .ok (.goto 4, 3) := z_dk tdX12_pagesBy_0 20 rfl
theorem dX12_pagesBy_36 : decode cX12_pagesBy 36 = .ok (.iconst 0, 1) := z_dk tdX12_pagesBy_0 21 rfl
theorem dX12_pagesBy_37 : decode cX12_pagesBy 37 = .ok (.bipush 12, 2) := z_dk tdX12_pagesBy_0 22 rfl
theorem dX12_pagesBy_39 : decode cX12_pagesBy 39 = .ok (.iadd, 1) := z_dk tdX12_pagesBy_0 23 rfl
theorem tdX12_pagesBy_40 : (([(40, .istore 4, 2), (42, .iinc 3 1, 3), (45, .iload_n 3, 1), (46, .aload_n 0, 1), (47, .getfield 365, 3), (50, .if_icmp .ge 50, 3), (53, .iload 4, 2), (55, .aload_n 0, 1), (56, .getfield 158, 3), (59, .iload_n 3, 1), (60, .iconst 1, 1), (61, .isub, 1), (62, .iaload, 1), (63, .iadd, 1), (64, .bipush 12, 2), (66, .iadd, 1), (67, .aload_n 0, 1), (68, .getfield 161, 3), (71, .iload_n 3, 1), (72, .iaload, 1), (73, .iadd, 1), (74, .iload_n 1, 1), (75, .if_icmp .gt 25, 3), (78, .iload 4, 2)] : List (Nat × Instr × Nat)).all fun e => decide (decode cX12_pagesBy e.1 = .ok e.2)) = true := by decide +kernel
theorem dX12_pagesBy_40 : decode cX12_pagesBy 40 = .ok (.istore 4, 2) := z_dk tdX12_pagesBy_40 0 rfl
theorem dX12_pagesBy_42 : decode cX12_pagesBy 42 = .ok (.iinc 3 1, 3) := z_dk tdX12_pagesBy_40 1 rfl
theorem dX12_pagesBy_45 : decode cX12_pagesBy 45 = .ok (.iload_n 3, 1) := z_dk tdX12_pagesBy_40 2 rfl
theorem dX12_pagesBy_46 : decode cX12_pagesBy 46 = .ok (.aload_n 0, 1) := z_dk tdX12_pagesBy_40 3 rfl
theorem dX12_pagesBy_47 : decode cX12_pagesBy 47 = .ok (.getfield 365, 3) := z_dk tdX12_pagesBy_40 4 rfl
theorem dX12_pagesBy_50 : decode cX12_pagesBy 50 = .ok (.if_icmp .ge 50, 3) := z_dk tdX12_pagesBy_40 5 rfl
theorem dX12_pagesBy_53 : decode cX12_pagesBy 53 = .ok (.iload 4, 2) := z_dk tdX12_pagesBy_40 6 rfl
theorem dX12_pagesBy_55 : decode cX12_pagesBy 55 = .ok (.aload_n 0, 1) := z_dk tdX12_pagesBy_40 7 rfl
theorem dX12_pagesBy_56 : decode cX12_pagesBy 56 = .ok (.getfield 158, 3) := z_dk tdX12_pagesBy_40 8 rfl
theorem dX12_pagesBy_59 : decode cX12_pagesBy 59 = .ok (.iload_n 3, 1) := z_dk tdX12_pagesBy_40 9 rfl
theorem dX12_pagesBy_60 : decode cX12_pagesBy 60 = .ok (.iconst 1, 1) := z_dk tdX12_pagesBy_40 10 rfl
theorem dX12_pagesBy_61 : decode cX12_pagesBy 61 = .ok (.isub, 1) := z_dk tdX12_pagesBy_40 11 rfl
theorem dX12_pagesBy_62 : decode cX12_pagesBy 62 = .ok (.iaload, 1) := z_dk tdX12_pagesBy_40 12 rfl
theorem dX12_pagesBy_63 : decode cX12_pagesBy 63 = .ok (.iadd, 1) := z_dk tdX12_pagesBy_40 13 rfl
theorem dX12_pagesBy_64 : decode cX12_pagesBy 64 = .ok (.bipush 12, 2) := z_dk tdX12_pagesBy_40 14 rfl
theorem dX12_pagesBy_66 : decode cX12_pagesBy 66 = .ok (.iadd, 1) := z_dk tdX12_pagesBy_40 15 rfl
theorem dX12_pagesBy_67 : decode cX12_pagesBy 67 = .ok (.aload_n 0, 1) := z_dk tdX12_pagesBy_40 16 rfl
theorem dX12_pagesBy_68 : decode cX12_pagesBy 68 = .ok (.getfield 161, 3) := z_dk tdX12_pagesBy_40 17 rfl
theorem dX12_pagesBy_71 : decode cX12_pagesBy 71 = .ok (.iload_n 3, 1) := z_dk tdX12_pagesBy_40 18 rfl
theorem dX12_pagesBy_72 : decode cX12_pagesBy 72 = .ok (.iaload, 1) := z_dk tdX12_pagesBy_40 19 rfl
theorem dX12_pagesBy_73 : decode cX12_pagesBy 73 = .ok (.iadd, 1) := z_dk tdX12_pagesBy_40 20 rfl
theorem dX12_pagesBy_74 : decode cX12_pagesBy 74 = .ok (.iload_n 1, 1) := z_dk tdX12_pagesBy_40 21 rfl
theorem dX12_pagesBy_75 : decode cX12_pagesBy 75 = .ok (.if_icmp .gt 25, 3) := z_dk tdX12_pagesBy_40 22 rfl
theorem dX12_pagesBy_78 : decode cX12_pagesBy 78 = .ok (.iload 4, 2) := z_dk tdX12_pagesBy_40 23 rfl
theorem tdX12_pagesBy_80 : (([(80, .aload_n 0, 1), (81, .getfield 158, 3), (84, .iload_n 3, 1), (85, .iconst 1, 1), (86, .isub, 1), (87, .iaload, 1), (88, .bipush 12, 2), (90, .iadd, 1), (91, .iadd, 1), (92, .istore 4, 2), (94, .iinc 3 1, 3), (97, .goto (-52), 3), (100, .goto (-96), 3), (103, .aload_n 0, 1), (104, .getfield 155, 3), (107, .iload_n 2, 1), (108, .aload_n 0, 1), (109, .getfield 365, 3), (112, .iastore, 1), (113, .iload_n 2, 1), (114, .ireturn, 1)] : List (Nat × Instr × Nat)).all fun e => decide (decode cX12_pagesBy e.1 = .ok e.2)) = true := by decide +kernel
theorem dX12_pagesBy_80 : decode cX12_pagesBy 80 = .ok (.aload_n 0, 1) := z_dk tdX12_pagesBy_80 0 rfl
theorem dX12_pagesBy_81 : decode cX12_pagesBy 81 = .ok (.getfield 158, 3) := z_dk tdX12_pagesBy_80 1 rfl
theorem dX12_pagesBy_84 : decode cX12_pagesBy 84 = .ok (.iload_n 3, 1) := z_dk tdX12_pagesBy_80 2 rfl
theorem dX12_pagesBy_85 : decode cX12_pagesBy 85 = .ok (.iconst 1, 1) := z_dk tdX12_pagesBy_80 3 rfl
theorem dX12_pagesBy_86 : decode cX12_pagesBy 86 = .ok (.isub, 1) := z_dk tdX12_pagesBy_80 4 rfl
theorem dX12_pagesBy_87 : decode cX12_pagesBy 87 = .ok (.iaload, 1) := z_dk tdX12_pagesBy_80 5 rfl
theorem dX12_pagesBy_88 : decode cX12_pagesBy 88 = .ok (.bipush 12, 2) := z_dk tdX12_pagesBy_80 6 rfl
theorem dX12_pagesBy_90 : decode cX12_pagesBy 90 = .ok (.iadd, 1) := z_dk tdX12_pagesBy_80 7 rfl
theorem dX12_pagesBy_91 : decode cX12_pagesBy 91 = .ok (.iadd, 1) := z_dk tdX12_pagesBy_80 8 rfl
theorem dX12_pagesBy_92 : decode cX12_pagesBy 92 = .ok (.istore 4, 2) := z_dk tdX12_pagesBy_80 9 rfl
theorem dX12_pagesBy_94 : decode cX12_pagesBy 94 = .ok (.iinc 3 1, 3) := z_dk tdX12_pagesBy_80 10 rfl
theorem dX12_pagesBy_97 : decode cX12_pagesBy 97 = .ok (.goto (-52), 3) := z_dk tdX12_pagesBy_80 11 rfl
theorem dX12_pagesBy_100 : decode cX12_pagesBy 100 = .ok (.goto (-96), 3) := z_dk tdX12_pagesBy_80 12 rfl
theorem dX12_pagesBy_103 : decode cX12_pagesBy 103 = .ok (.aload_n 0, 1) := z_dk tdX12_pagesBy_80 13 rfl
theorem dX12_pagesBy_104 : decode cX12_pagesBy 104 = .ok (.getfield 155, 3) := z_dk tdX12_pagesBy_80 14 rfl
theorem dX12_pagesBy_107 : decode cX12_pagesBy 107 = .ok (.iload_n 2, 1) := z_dk tdX12_pagesBy_80 15 rfl
theorem dX12_pagesBy_108 : decode cX12_pagesBy 108 = .ok (.aload_n 0, 1) := z_dk tdX12_pagesBy_80 16 rfl
theorem dX12_pagesBy_109 : decode cX12_pagesBy 109 = .ok (.getfield 365, 3) := z_dk tdX12_pagesBy_80 17 rfl
theorem dX12_pagesBy_112 : decode cX12_pagesBy 112 = .ok (.iastore, 1) := z_dk tdX12_pagesBy_80 18 rfl
theorem dX12_pagesBy_113 : decode cX12_pagesBy 113 = .ok (.iload_n 2, 1) := z_dk tdX12_pagesBy_80 19 rfl
theorem dX12_pagesBy_114 : decode cX12_pagesBy 114 = .ok (.ireturn, 1) := z_dk tdX12_pagesBy_80 20 rfl
theorem tdX12_pages_0 : (([(0, .aload_n 0, 1), (1, .iconst 0, 1), (2, .putfield 170, 3), (5, .aload_n 0, 1), (6, .iload_n 1, 1), (7, .bipush 12, 2), (9, .sipush 9999, 3), (12, .invokestatic 245, 3), (15, .ifCond .ne 7, 3), (18, .iconst 1, 1), (19, .goto 4, 3), (22, .iconst 0, 1), (23, .iconst 1, 1), (24, .iconst 1, 1), (25, .invokevirtual 249, 3), (28, .ifCond .eq 5, 3), (31, .iconst 0, 1), (32, .ireturn, 1), (33, .aload_n 0, 1), (34, .invokevirtual 429, 3), (37, .aload_n 0, 1), (38, .iload_n 1, 1), (39, .invokevirtual 432, 3), (42, .ireturn, 1)] : List (Nat × Instr × Nat)).all fun e => decide (decode cX12_pages e.1 = .ok e.2)) = true := by decide +kernel
theorem dX12_pages_0 : decode cX12_pages 0 = .ok (.aload_n 0, 1) := z_dk tdX12_pages_0 0 rfl
theorem dX12_pages_1 : decode cX12_pages 1 = .ok (.iconst 0, 1) := z_dk tdX12_pages_0 1 rfl
theorem dX12_pages_2 : decode cX12_pages 2 = .ok (.putfield 170, 3) := z_dk tdX12_pages_0 2 rfl
theorem dX12_pages_5 : decode cX12_pages 5 = .ok (.aload_n 0, 1) := z_dk tdX12_pages_0 3 rfl
theorem dX12_pages_6 : decode cX12_pages 6 = .ok (.iload_n 1, 1) := z_dk tdX12_pages_0 4 rfl
theorem dX12_pages_7 : decode cX12_pages 7 = .ok (.bipush 12, 2) := z_dk tdX12_pages_0 5 rfl
theorem dX12_pages_9 : decode cX12_pages 9 = .ok (.sipush 9999, 3) := z_dk tdX12_pages_0 6 rfl
theorem dX12_pages_12 : decode cX12_pages 12 = .ok (.invokestatic 245, 3) := z_dk tdX12_pages_0 7 rfl
theorem dX12_pages_15 : decode cX12_pages 15 = .ok (.ifCond .ne 7, 3) := z_dk tdX12_pages_0 8 rfl
theorem dX12_pages_18 : decode cX12_pages 18 = .ok (.iconst 1, 1) := z_dk tdX12_pages_0 9 rfl
theorem dX12_pages_19 : decode cX12_pages 19 = .ok (.goto 4, 3) := z_dk tdX12_pages_0 10 rfl
theorem dX12_pages_22 : decode cX12_pages 22 = .ok (.iconst 0, 1) := z_dk tdX12_pages_0 11 rfl
theorem dX12_pages_23 : decode cX12_pages 23 = .ok (.iconst 1, 1) := z_dk tdX12_pages_0 12 rfl
theorem dX12_pages_24 : decode cX12_pages 24 = .ok (.iconst 1, 1) := z_dk tdX12_pages_0 13 rfl
theorem dX12_pages_25 : decode cX12_pages 25 = .ok (.invokevirtual 249, 3) := z_dk tdX12_pages_0 14 rfl
theorem dX12_pages_28 : decode cX12_pages 28 = .ok (.ifCond .eq 5, 3) := z_dk tdX12_pages_0 15 rfl
theorem dX12_pages_31 : decode cX12_pages 31 = .ok (.iconst 0, 1) := z_dk tdX12_pages_0 16 rfl
theorem dX12_pages_32 : decode cX12_pages 32 = .ok (.ireturn, 1) := z_dk tdX12_pages_0 17 rfl
theorem dX12_pages_33 : decode cX12_pages 33 = .ok (.aload_n 0, 1) := z_dk tdX12_pages_0 18 rfl
theorem dX12_pages_34 : decode cX12_pages 34 = .ok (.invokevirtual 429, 3) := z_dk tdX12_pages_0 19 rfl
theorem dX12_pages_37 : decode cX12_pages 37 = .ok (.aload_n 0, 1) := z_dk tdX12_pages_0 20 rfl
theorem dX12_pages_38 : decode cX12_pages 38 = .ok (.iload_n 1, 1) := z_dk tdX12_pages_0 21 rfl
theorem dX12_pages_39 : decode cX12_pages 39 = .ok (.invokevirtual 432, 3) := z_dk tdX12_pages_0 22 rfl
theorem dX12_pages_42 : decode cX12_pages 42 = .ok (.ireturn, 1) := z_dk tdX12_pages_0 23 rfl
theorem tdX12_page_0 : (([(0, .aload_n 0, 1), (1, .iconst 0, 1), (2, .putfield 170, 3), (5, .aload_n 0, 1), (6, .iload_n 1, 1), (7, .bipush 12, 2), (9, .sipush 9999, 3), (12, .invokestatic 245, 3), (15, .ifCond .eq 12, 3), (18, .iload_n 3, 1), (19, .iconst 0, 1), (20, .iconst 2, 1), (21, .invokestatic 245, 3), (24, .ifCond .ne 7, 3), (27, .iconst 1, 1), (28, .goto 4, 3), (31, .iconst 0, 1), (32, .iconst 1, 1), (33, .iconst 1, 1), (34, .invokevirtual 249, 3), (37, .ifCond .eq 5, 3), (40, .iconst 0, 1), (41, .ireturn, 1), (42, .aload_n 0, 1)] : List (Nat × Instr × Nat)).all fun e => decide (decode cX12_page e.1 = .ok e.2)) = true := by decide +kernel
theorem dX12_page_0 : decode cX12_page 0 = .ok (.aload_n 0, 1) := z_dk tdX12_page_0 0 rfl
theorem dX12_page_1 : decode cX12_page 1 = .ok (.iconst 0, 1) := z_dk tdX12_page_0 1 rfl
theorem dX12_page_2 : decode cX12_page 2 = .ok (.putfield 170, 3) := z_dk tdX12_page_0 2 rfl
theorem dX12_page_5 : decode cX12_page 5 = .ok (.aload_n 0, 1) := z_dk tdX12_page_0 3 rfl
theorem dX12_page_6 : decode cX12_page 6 = .ok (.iload_n 1, 1) := z_dk tdX12_page_0 4 rfl
theorem dX12_page_7 : decode cX12_page 7 = .ok (.bipush 12, 2) := z_dk tdX12_page_0 5 rfl
theorem dX12_page_9 : decode cX12_page 9 = .ok (.sipush 9999, 3) := z_dk tdX12_page_0 6 rfl
theorem dX12_page_12 : decode cX12_page 12 = .ok (.invokestatic 245, 3) := z_dk tdX12_page_0 7 rfl
theorem dX12_page_15 : decode cX12_page 15 = .ok (.ifCond .eq 12, 3) := z_dk tdX12_page_0 8 rfl
theorem dX12_page_18 : decode cX12_page 18 = .ok (.iload_n 3, 1) := z_dk tdX12_page_0 9 rfl
theorem dX12_page_19 : decode cX12_page 19 = .ok (.iconst 0, 1) := z_dk tdX12_page_0 10 rfl
theorem dX12_page_20 : decode cX12_page 20 = .ok (.iconst 2, 1) := z_dk tdX12_page_0 11 rfl
theorem dX12_page_21 : decode cX12_page 21 = .ok (.invokestatic 245, 3) := z_dk tdX12_page_0 12 rfl
theorem dX12_page_24 : decode cX12_page 24 = .ok (.ifCond .ne 7, 3) := z_dk tdX12_page_0 13 rfl
theorem dX12_page_27 : decode cX12_page 27 = .ok (.iconst 1, 1) := z_dk tdX12_page_0 14 rfl
theorem dX12_page_28 : decode cX12_page 28 = .ok (.goto 4, 3) := z_dk tdX12_page_0 15 rfl
theorem dX12_page_31 : decode cX12_page 31 = .ok (.iconst 0, 1) := z_dk tdX12_page_0 16 rfl
theorem dX12_page_32 : decode cX12_page 32 = .ok (.iconst 1, 1) := z_dk tdX12_page_0 17 rfl
theorem dX12_page_33 : decode cX12_page 33 = .ok (.iconst 1, 1) := z_dk tdX12_page_0 18 rfl
theorem dX12_page_34 : decode cX12_page 34 = .ok (.invokevirtual 249, 3) := z_dk tdX12_page_0 19 rfl
theorem dX12_page_37 : decode cX12_page 37 = .ok (.ifCond .eq 5, 3) := z_dk tdX12_page_0 20 rfl
theorem dX12_page_40 : decode cX12_page 40 = .ok (.iconst 0, 1) := z_dk tdX12_page_0 21 rfl
theorem dX12_page_41 : decode cX12_page 41 = .ok (.ireturn, 1) := z_dk tdX12_page_0 22 rfl
theorem dX12_page_42 : decode cX12_page 42 = .ok (.aload_n 0, 1) := z_dk tdX12_page_0 23 rfl
theorem tdX12_page_43 : (([(43, .invokevirtual 429, 3), (46, .iload_n 2, 1), (47, .iconst 0, 1), (48, .aload_n 0, 1), (49, .iload_n 1, 1), (50, .invokevirtual 432, 3), (53, .iconst 1, 1), (54, .isub, 1), (55, .invokestatic 245, 3), (58, .ifCond .ne 5, 3), (61, .iconst (-1), 1), (62, .ireturn, 1), (63, .iload_n 3, 1), (64, .ifCond .ne 12, 3), (67, .aload_n 0, 1), (68, .getfield 155, 3), (71, .iload_n 2, 1), (72, .iaload, 1), (73, .goto 46, 3), (76, .iload_n 3, 1), (77, .iconst 1, 1), (78, .if_icmp .ne 21, 3), (81, .aload_n 0, 1), (82, .getfield 155, 3)] : List (Nat × Instr × Nat)).all fun e => decide (decode cX12_page e.1 = .ok e.2)) = true := by decide +kernel
theorem dX12_page_43 : decode cX12_page 43 = .ok (.invokevirtual 429, 3) := z_dk tdX12_page_43 0 rfl
theorem dX12_page_46 : decode cX12_page 46 = .ok (.iload_n 2, 1) := z_dk tdX12_page_43 1 rfl
theorem dX12_page_47 : decode cX12_page 47 = .ok (.iconst 0, 1) := z_dk tdX12_page_43 2 rfl
theorem dX12_page_48 : decode cX12_page 48 = .ok (.aload_n 0, 1) := z_dk tdX12_page_43 3 rfl
theorem dX12_page_49 : decode cX12_page 49 = .ok (.iload_n 1, 1) := z_dk tdX12_page_43 4 rfl
theorem dX12_page_50 : decode cX12_page 50 = .ok (.invokevirtual 432, 3) := z_dk tdX12_page_43 5 rfl
theorem dX12_page_53 : decode cX12_page 53 = .ok (.iconst 1, 1) := z_dk tdX12_page_43 6 rfl
theorem dX12_page_54 : decode cX12_page 54 = .ok (.isub, 1) := z_dk tdX12_page_43 7 rfl
theorem dX12_page_55 : decode cX12_page 55 = .ok (.invokestatic 245, 3) := z_dk tdX12_page_43 8 rfl
theorem dX12_page_58 : decode cX12_page 58 = .ok (.ifCond .ne 5, 3) := z_dk tdX12_page_43 9 rfl
theorem dX12_page_61 : decode cX12_page 61 = .ok (.iconst (-1), 1) := z_dk tdX12_page_43 10 rfl
theorem dX12_page_62 : decode cX12_page 62 = .ok (.ireturn, 1) := z_dk tdX12_page_43 11 rfl
theorem dX12_page_63 : decode cX12_page 63 = .ok (.iload_n 3, 1) := z_dk tdX12_page_43 12 rfl
theorem dX12_page_64 : decode cX12_page 64 = .ok (.ifCond .ne 12, 3) := z_dk tdX12_page_43 13 rfl
theorem dX12_page_67 : decode cX12_page 67 = .ok (.aload_n 0, 1) := z_dk tdX12_page_43 14 rfl
theorem dX12_page_68 : decode cX12_page 68 = .ok (.getfield 155, 3) := z_dk tdX12_page_43 15 rfl
theorem dX12_page_71 : decode cX12_page 71 = .ok (.iload_n 2, 1) := z_dk tdX12_page_43 16 rfl
theorem dX12_page_72 : decode cX12_page 72 = .ok (.iaload, 1) := z_dk tdX12_page_43 17 rfl
theorem dX12_page_73 : decode cX12_page 73 = .ok (.goto 46, 3) := z_dk tdX12_page_43 18 rfl
theorem dX12_page_76 : decode cX12_page 76 = .ok (.iload_n 3, 1) := z_dk tdX12_page_43 19 rfl
theorem dX12_page_77 : decode cX12_page 77 = .ok (.iconst 1, 1) := z_dk tdX12_page_43 20 rfl
theorem dX12_page_78 : decode cX12_page 78 = .ok (.if_icmp .ne 21, 3) := z_dk tdX12_page_43 21 rfl
theorem dX12_page_81 : decode cX12_page 81 = .ok (.aload_n 0, 1) := z_dk tdX12_page_43 22 rfl
theorem dX12_page_82 : decode cX12_page 82 = .ok (.getfield 155, 3) := z_dk tdX12_page_43 23 rfl
theorem tdX12_page_85 : (([(85, .iload_n 2, 1), (86, .iconst 1, 1), (87, .iadd, 1), (88, .iaload, 1), (89, .aload_n 0, 1), (90, .getfield 155, 3), (93, .iload_n 2, 1), (94, .iaload, 1), (95, .isub, 1), (96, .goto 23, 3), (99, .aload_n 0, 1), (100, .aload_n 0, 1), (101, .getfield 155, 3), (104, .iload_n 2, 1), (105, .iaload, 1), (106, .aload_n 0, 1), (107, .getfield 155, 3), (110, .iload_n 2, 1), (111, .iconst 1, 1), (112, .iadd, 1), (113, .iaload, 1), (114, .iconst 1, 1), (115, .isub, 1), (116, .invokevirtual 426, 3)] : List (Nat × Instr × Nat)).all fun e => decide (decode cX12_page e.1 = .ok e.2)) = true := by decide +kernel
theorem dX12_page_85 : decode cX12_page 85 = .ok (.iload_n 2, 1) := z_dk tdX12_page_85 0 rfl
theorem dX12_page_86 : decode cX12_page 86 = .ok (.iconst 1, 1) := z_dk tdX12_page_85 1 rfl
theorem dX12_page_87 : decode cX12_page 87 = .ok (.iadd, 1) := z_dk tdX12_page_85 2 rfl
theorem dX12_page_88 : decode cX12_page 88 = .ok (.iaload, 1) := z_dk tdX12_page_85 3 rfl
theorem dX12_page_89 : decode cX12_page 89 = .ok (.aload_n 0, 1) := z_dk tdX12_page_85 4 rfl
theorem dX12_page_90 : decode cX12_page 90 = .ok (.getfield 155, 3) := z_dk tdX12_page_85 5 rfl
theorem dX12_page_93 : decode cX12_page 93 = .ok (.iload_n 2, 1) := z_dk tdX12_page_85 6 rfl
theorem dX12_page_94 : decode cX12_page 94 = .ok (.iaload, 1) := z_dk tdX12_page_85 7 rfl
theorem dX12_page_95 : decode cX12_page 95 = .ok (.isub, 1) := z_dk tdX12_page_85 8 rfl
theorem dX12_page_96 : decode cX12_page 96 = .ok (.goto 23, 3) := z_dk tdX12_page_85 9 rfl
theorem dX12_page_99 : decode cX12_page 99 = .ok (.aload_n 0, 1) := z_dk tdX12_page_85 10 rfl
theorem dX12_page_100 : decode cX12_page 100 = .ok (.aload_n 0, 1) := z_dk tdX12_page_85 11 rfl
theorem dX12_page_101 : decode cX12_page 101 = .ok (.getfield 155, 3) := z_dk tdX12_page_85 12 rfl
theorem dX12_page_104 : decode cX12_page 104 = .ok (.iload_n 2, 1) := z_dk tdX12_page_85 13 rfl
theorem dX12_page_105 : decode cX12_page 105 = .ok (.iaload, 1) := z_dk tdX12_page_85 14 rfl
theorem dX12_page_106 : decode cX12_page 106 = .ok (.aload_n 0, 1) := z_dk tdX12_page_85 15 rfl
theorem dX12_page_107 : decode cX12_page 107 = .ok (.getfield 155, 3) := z_dk tdX12_page_85 16 rfl
theorem dX12_page_110 : decode cX12_page 110 = .ok (.iload_n 2, 1) := z_dk tdX12_page_85 17 rfl
theorem dX12_page_111 : decode cX12_page 111 = .ok (.iconst 1, 1) := z_dk tdX12_page_85 18 rfl
theorem dX12_page_112 : decode cX12_page 112 = .ok (.iadd, 1) := z_dk tdX12_page_85 19 rfl
theorem dX12_page_113 : decode cX12_page 113 = .ok (.iaload, 1) := z_dk tdX12_page_85 20 rfl
theorem dX12_page_114 : decode cX12_page 114 = .ok (.iconst 1, 1) := z_dk tdX12_page_85 21 rfl
theorem dX12_page_115 : decode cX12_page 115 = .ok (.isub, 1) := z_dk tdX12_page_85 22 rfl
theorem dX12_page_116 : decode cX12_page 116 = .ok (.invokevirtual 426, 3) := z_dk tdX12_page_85 23 rfl
theorem tdX12_page_119 : (([(119, .ireturn, 1)] : List (Nat × Instr × Nat)).all fun e => decide (decode cX12_page e.1 = .ok e.2)) = true := by decide +kernel
theorem dX12_page_119 : decode cX12_page 119 = .ok (.ireturn, 1) := z_dk tdX12_page_119 0 rfl
theorem tdX12_narrow_0 : (([(0, .aload_n 0, 1), (1, .iconst 0, 1), (2, .putfield 170, 3), (5, .aload_n 0, 1), (6, .iload_n 1, 1), (7, .iconst 1, 1), (8, .sipush 200, 3), (11, .invokestatic 245, 3), (14, .ifCond .ne 7, 3), (17, .iconst 1, 1), (18, .goto 4, 3), (21, .iconst 0, 1), (22, .iconst 1, 1), (23, .iconst 1, 1), (24, .invokevirtual 249, 3), (27, .ifCond .eq 5, 3), (30, .iconst 0, 1), (31, .ireturn, 1), (32, .aload_n 0, 1), (33, .invokevirtual 429, 3), (36, .bipush 12, 2), (38, .istore_n 2, 1), (39, .iload_n 2, 1), (40, .sipush 9999, 3)] : List (Nat × Instr × Nat)).all fun e => decide (decode cX12_narrow e.1 = .ok e.2)) = true := by decide +kernel
theorem dX12_narrow_0 : decode cX12_narrow 0 = .ok (.aload_n 0, 1) := z_dk tdX12_narrow_0 0 rfl
theorem dX12_narrow_1 : decode cX12_narrow 1 = .ok (.iconst 0, 1) := z_dk tdX12_narrow_0 1 rfl
theorem dX12_narrow_2 : decode cX12_narrow 2 = .ok (.putfield 170, 3) := z_dk tdX12_narrow_0 2 rfl
theorem dX12_narrow_5 : decode cX12_narrow 5 = .ok (.aload_n 0, 1) := z_dk tdX12_narrow_0 3 rfl
theorem dX12_narrow_6 : decode cX12_narrow 6 = .ok (.iload_n 1, 1) := z_dk tdX12_narrow_0 4 rfl
theorem dX12_narrow_7 : decode cX12_narrow 7 = .ok (.iconst 1, 1) := z_dk tdX12_narrow_0 5 rfl
theorem dX12_narrow_8 : decode cX12_narrow 8 = .ok (.sipush 200, 3) := z_dk tdX12_narrow_0 6 rfl
theorem dX12_narrow_11 : decode cX12_narrow 11 = .ok (.invokestatic 245, 3) := z_dk tdX12_narrow_0 7 rfl
theorem dX12_narrow_14 : decode cX12_narrow 14 = .ok (.ifCond .ne 7, 3) := z_dk tdX12_narrow_0 8 rfl
theorem dX12_narrow_17 : decode cX12_narrow 17 = .ok (.iconst 1, 1) := z_dk tdX12_narrow_0 9 rfl
theorem dX12_narrow_18 : decode cX12_narrow 18 = .ok (.goto 4, 3) := z_dk tdX12_narrow_0 10 rfl
theorem dX12_narrow_21 : decode cX12_narrow 21 = .ok (.iconst 0, 1) := z_dk tdX12_narrow_0 11 rfl
theorem dX12_narrow_22 : decode cX12_narrow 22 = .ok (.iconst 1, 1) := z_dk tdX12_narrow_0 12 rfl
theorem dX12_narrow_23 : decode cX12_narrow 23 = .ok (.iconst 1, 1) := z_dk tdX12_narrow_0 13 rfl
theorem dX12_narrow_24 : decode cX12_narrow 24 = .ok (.invokevirtual 249, 3) := z_dk tdX12_narrow_0 14 rfl
theorem dX12_narrow_27 : decode cX12_narrow 27 = .ok (.ifCond .eq 5, 3) := z_dk tdX12_narrow_0 15 rfl
theorem dX12_narrow_30 : decode cX12_narrow 30 = .ok (.iconst 0, 1) := z_dk tdX12_narrow_0 16 rfl
theorem dX12_narrow_31 : decode cX12_narrow 31 = .ok (.ireturn, 1) := z_dk tdX12_narrow_0 17 rfl
theorem dX12_narrow_32 : decode cX12_narrow 32 = .ok (.aload_n 0, 1) := z_dk tdX12_narrow_0 18 rfl
theorem dX12_narrow_33 : decode cX12_narrow 33 = .ok (.invokevirtual 429, 3) := z_dk tdX12_narrow_0 19 rfl
theorem dX12_narrow_36 : decode cX12_narrow 36 = .ok (.bipush 12, 2) := z_dk tdX12_narrow_0 20 rfl
theorem dX12_narrow_38 : decode cX12_narrow 38 = .ok (.istore_n 2, 1) := z_dk tdX12_narrow_0 21 rfl
theorem dX12_narrow_39 : decode cX12_narrow 39 = .ok (.iload_n 2, 1) := z_dk tdX12_narrow_0 22 rfl
theorem dX12_narrow_40 : decode cX12_narrow 40 = .ok (.sipush 9999, 3) := z_dk tdX12_narrow_0 23 rfl
theorem tdX12_narrow_43 : (([(43, .if_icmp .gt 20, 3), (46, .aload_n 0, 1), (47, .iload_n 2, 1), (48, .invokevirtual 432, 3), (51, .iload_n 1, 1), (52, .if_icmp .gt 5, 3), (55, .iload_n 2, 1), (56, .ireturn, 1), (57, .iinc 2 1, 3), (60, .goto (-21), 3), (63, .iconst (-1), 1), (64, .ireturn, 1)] : List (Nat × Instr × Nat)).all fun e => decide (decode cX12_narrow e.1 = .ok e.2)) = true := by decide +kernel
theorem dX12_narrow_43 : decode cX12_narrow 43 = .ok (.if_icmp .gt 20, 3) := z_dk tdX12_narrow_43 0 rfl
theorem dX12_narrow_46 : decode cX12_narrow 46 = .ok (.aload_n 0, 1) := z_dk tdX12_narrow_43 1 rfl
theorem dX12_narrow_47 : decode cX12_narrow 47 = .ok (.iload_n 2, 1) := z_dk tdX12_narrow_43 2 rfl
theorem dX12_narrow_48 : decode cX12_narrow 48 = .ok (.invokevirtual 432, 3) := z_dk tdX12_narrow_43 3 rfl
theorem dX12_narrow_51 : decode cX12_narrow 51 = .ok (.iload_n 1, 1) := z_dk tdX12_narrow_43 4 rfl
theorem dX12_narrow_52 : decode cX12_narrow 52 = .ok (.if_icmp .gt 5, 3) := z_dk tdX12_narrow_43 5 rfl
theorem dX12_narrow_55 : decode cX12_narrow 55 = .ok (.iload_n 2, 1) := z_dk tdX12_narrow_43 6 rfl
theorem dX12_narrow_56 : decode cX12_narrow 56 = .ok (.ireturn, 1) := z_dk tdX12_narrow_43 7 rfl
theorem dX12_narrow_57 : decode cX12_narrow 57 = .ok (.iinc 2 1, 3) := z_dk tdX12_narrow_43 8 rfl
theorem dX12_narrow_60 : decode cX12_narrow 60 = .ok (.goto (-21), 3) := z_dk tdX12_narrow_43 9 rfl
theorem dX12_narrow_63 : decode cX12_narrow 63 = .ok (.iconst (-1), 1) := z_dk tdX12_narrow_43 10 rfl
theorem dX12_narrow_64 : decode cX12_narrow 64 = .ok (.ireturn, 1) := z_dk tdX12_narrow_43 11 rfl
theorem tdX12_ends_0 : (([(0, .aload_n 0, 1), (1, .iconst 0, 1), (2, .putfield 170, 3), (5, .aload_n 0, 1), (6, .aload_n 0, 1), (7, .iload_n 1, 1), (8, .invokevirtual 384, 3), (11, .ifCond .ne 7, 3), (14, .iconst 1, 1), (15, .goto 4, 3), (18, .iconst 0, 1), (19, .iconst 1, 1), (20, .iconst 0, 1), (21, .invokevirtual 249, 3), (24, .ifCond .eq 5, 3), (27, .iconst 0, 1), (28, .ireturn, 1), (29, .aload_n 0, 1), (30, .iload_n 1, 1), (31, .invokevirtual 335, 3), (34, .ireturn, 1)] : List (Nat × Instr × Nat)).all fun e => decide (decode cX12_ends e.1 = .ok e.2)) = true := by decide +kernel
theorem dX12_ends_0 : decode cX12_ends 0 = .ok (.aload_n 0, 1) := z_dk tdX12_ends_0 0 rfl
theorem dX12_ends_1 : decode cX12_ends 1 = .ok (.iconst 0, 1) := z_dk tdX12_ends_0 1 rfl
theorem dX12_ends_2 : decode cX12_ends 2 = .ok (.putfield 170, 3) := z_dk tdX12_ends_0 2 rfl
theorem dX12_ends_5 : decode cX12_ends 5 = .ok (.aload_n 0, 1) := z_dk tdX12_ends_0 3 rfl
theorem dX12_ends_6 : decode cX12_ends 6 = .ok (.aload_n 0, 1) := z_dk tdX12_ends_0 4 rfl
theorem dX12_ends_7 : decode cX12_ends 7 = .ok (.iload_n 1, 1) := z_dk tdX12_ends_0 5 rfl
theorem dX12_ends_8 : decode cX12_ends 8 = .ok (.invokevirtual 384, 3) := z_dk tdX12_ends_0 6 rfl
theorem dX12_ends_11 : decode cX12_ends 11 = .ok (.ifCond .ne 7, 3) := z_dk tdX12_ends_0 7 rfl
theorem dX12_ends_14 : decode cX12_ends 14 = .ok (.iconst 1, 1) := z_dk tdX12_ends_0 8 rfl
theorem dX12_ends_15 : decode cX12_ends 15 = .ok (.goto 4, 3) := z_dk tdX12_ends_0 9 rfl
theorem dX12_ends_18 : decode cX12_ends 18 = .ok (.iconst 0, 1) := z_dk tdX12_ends_0 10 rfl
theorem dX12_ends_19 : decode cX12_ends 19 = .ok (.iconst 1, 1) := z_dk tdX12_ends_0 11 rfl
theorem dX12_ends_20 : decode cX12_ends 20 = .ok (.iconst 0, 1) := z_dk tdX12_ends_0 12 rfl
theorem dX12_ends_21 : decode cX12_ends 21 = .ok (.invokevirtual 249, 3) := z_dk tdX12_ends_0 13 rfl
theorem dX12_ends_24 : decode cX12_ends 24 = .ok (.ifCond .eq 5, 3) := z_dk tdX12_ends_0 14 rfl
theorem dX12_ends_27 : decode cX12_ends 27 = .ok (.iconst 0, 1) := z_dk tdX12_ends_0 15 rfl
theorem dX12_ends_28 : decode cX12_ends 28 = .ok (.ireturn, 1) := z_dk tdX12_ends_0 16 rfl
theorem dX12_ends_29 : decode cX12_ends 29 = .ok (.aload_n 0, 1) := z_dk tdX12_ends_0 17 rfl
theorem dX12_ends_30 : decode cX12_ends 30 = .ok (.iload_n 1, 1) := z_dk tdX12_ends_0 18 rfl
theorem dX12_ends_31 : decode cX12_ends 31 = .ok (.invokevirtual 335, 3) := z_dk tdX12_ends_0 19 rfl
theorem dX12_ends_34 : decode cX12_ends 34 = .ok (.ireturn, 1) := z_dk tdX12_ends_0 20 rfl
theorem tdX12_longOf_0 : (([(0, .aload_n 0, 1), (1, .iconst 0, 1), (2, .putfield 170, 3), (5, .aload_n 0, 1), (6, .aload_n 0, 1), (7, .iload_n 1, 1), (8, .invokevirtual 384, 3), (11, .ifCond .eq 11, 3), (14, .aload_n 0, 1), (15, .iload_n 2, 1), (16, .invokevirtual 384, 3), (19, .ifCond .ne 7, 3), (22, .iconst 1, 1), (23, .goto 4, 3), (26, .iconst 0, 1), (27, .iconst 1, 1), (28, .iconst 0, 1), (29, .invokevirtual 249, 3), (32, .ifCond .ne 22, 3), (35, .aload_n 0, 1), (36, .iload_n 2, 1), (37, .iload_n 1, 1), (38, .if_icmp .ge 7, 3), (41, .iconst 1, 1)] : List (Nat × Instr × Nat)).all fun e => decide (decode cX12_longOf e.1 = .ok e.2)) = true := by decide +kernel
theorem dX12_longOf_0 : decode cX12_longOf 0 = .ok (.aload_n 0, 1) := z_dk tdX12_longOf_0 0 rfl
theorem dX12_longOf_1 : decode cX12_longOf 1 = .ok (.iconst 0, 1) := z_dk tdX12_longOf_0 1 rfl
theorem dX12_longOf_2 : decode cX12_longOf 2 = .ok (.putfield 170, 3) := z_dk tdX12_longOf_0 2 rfl
theorem dX12_longOf_5 : decode cX12_longOf 5 = .ok (.aload_n 0, 1) := z_dk tdX12_longOf_0 3 rfl
theorem dX12_longOf_6 : decode cX12_longOf 6 = .ok (.aload_n 0, 1) := z_dk tdX12_longOf_0 4 rfl
theorem dX12_longOf_7 : decode cX12_longOf 7 = .ok (.iload_n 1, 1) := z_dk tdX12_longOf_0 5 rfl
theorem dX12_longOf_8 : decode cX12_longOf 8 = .ok (.invokevirtual 384, 3) := z_dk tdX12_longOf_0 6 rfl
theorem dX12_longOf_11 : decode cX12_longOf 11 = .ok (.ifCond .eq 11, 3) := z_dk tdX12_longOf_0 7 rfl
theorem dX12_longOf_14 : decode cX12_longOf 14 = .ok (.aload_n 0, 1) := z_dk tdX12_longOf_0 8 rfl
theorem dX12_longOf_15 : decode cX12_longOf 15 = .ok (.iload_n 2, 1) := z_dk tdX12_longOf_0 9 rfl
theorem dX12_longOf_16 : decode cX12_longOf 16 = .ok (.invokevirtual 384, 3) := z_dk tdX12_longOf_0 10 rfl
theorem dX12_longOf_19 : decode cX12_longOf 19 = .ok (.ifCond .ne 7, 3) := z_dk tdX12_longOf_0 11 rfl
theorem dX12_longOf_22 : decode cX12_longOf 22 = .ok (.iconst 1, 1) := z_dk tdX12_longOf_0 12 rfl
theorem dX12_longOf_23 : decode cX12_longOf 23 = .ok (.goto 4, 3) := z_dk tdX12_longOf_0 13 rfl
theorem dX12_longOf_26 : decode cX12_longOf 26 = .ok (.iconst 0, 1) := z_dk tdX12_longOf_0 14 rfl
theorem dX12_longOf_27 : decode cX12_longOf 27 = .ok (.iconst 1, 1) := z_dk tdX12_longOf_0 15 rfl
theorem dX12_longOf_28 : decode cX12_longOf 28 = .ok (.iconst 0, 1) := z_dk tdX12_longOf_0 16 rfl
theorem dX12_longOf_29 : decode cX12_longOf 29 = .ok (.invokevirtual 249, 3) := z_dk tdX12_longOf_0 17 rfl
theorem dX12_longOf_32 : decode cX12_longOf 32 = .ok (.ifCond .ne 22, 3) := z_dk tdX12_longOf_0 18 rfl
theorem dX12_longOf_35 : decode cX12_longOf 35 = .ok (.aload_n 0, 1) := z_dk tdX12_longOf_0 19 rfl
theorem dX12_longOf_36 : decode cX12_longOf 36 = .ok (.iload_n 2, 1) := z_dk tdX12_longOf_0 20 rfl
theorem dX12_longOf_37 : decode cX12_longOf 37 = .ok (.iload_n 1, 1) := z_dk tdX12_longOf_0 21 rfl
theorem dX12_longOf_38 : decode cX12_longOf 38 = .ok (.if_icmp .ge 7, 3) := z_dk tdX12_longOf_0 22 rfl
theorem dX12_longOf_41 : decode cX12_longOf 41 = .ok (.iconst 1, 1) := z_dk tdX12_longOf_0 23 rfl
theorem tdX12_longOf_42 : (([(42, .goto 4, 3), (45, .iconst 0, 1), (46, .iconst 2, 1), (47, .iconst 1, 1), (48, .invokevirtual 249, 3), (51, .ifCond .eq 5, 3), (54, .iconst 0, 1), (55, .ireturn, 1), (56, .aload_n 0, 1), (57, .iload_n 1, 1), (58, .iload_n 2, 1), (59, .invokevirtual 332, 3), (62, .ireturn, 1)] : List (Nat × Instr × Nat)).all fun e => decide (decode cX12_longOf e.1 = .ok e.2)) = true := by decide +kernel
theorem dX12_longOf_42 : decode cX12_longOf 42 = .ok (.goto 4, 3) := z_dk tdX12_longOf_42 0 rfl
theorem dX12_longOf_45 : decode cX12_longOf 45 = .ok (.iconst 0, 1) := z_dk tdX12_longOf_42 1 rfl
theorem dX12_longOf_46 : decode cX12_longOf 46 = .ok (.iconst 2, 1) := z_dk tdX12_longOf_42 2 rfl
theorem dX12_longOf_47 : decode cX12_longOf 47 = .ok (.iconst 1, 1) := z_dk tdX12_longOf_42 3 rfl
theorem dX12_longOf_48 : decode cX12_longOf 48 = .ok (.invokevirtual 249, 3) := z_dk tdX12_longOf_42 4 rfl
theorem dX12_longOf_51 : decode cX12_longOf 51 = .ok (.ifCond .eq 5, 3) := z_dk tdX12_longOf_42 5 rfl
theorem dX12_longOf_54 : decode cX12_longOf 54 = .ok (.iconst 0, 1) := z_dk tdX12_longOf_42 6 rfl
theorem dX12_longOf_55 : decode cX12_longOf 55 = .ok (.ireturn, 1) := z_dk tdX12_longOf_42 7 rfl
theorem dX12_longOf_56 : decode cX12_longOf 56 = .ok (.aload_n 0, 1) := z_dk tdX12_longOf_42 8 rfl
theorem dX12_longOf_57 : decode cX12_longOf 57 = .ok (.iload_n 1, 1) := z_dk tdX12_longOf_42 9 rfl
theorem dX12_longOf_58 : decode cX12_longOf 58 = .ok (.iload_n 2, 1) := z_dk tdX12_longOf_42 10 rfl
theorem dX12_longOf_59 : decode cX12_longOf 59 = .ok (.invokevirtual 332, 3) := z_dk tdX12_longOf_42 11 rfl
theorem dX12_longOf_62 : decode cX12_longOf 62 = .ok (.ireturn, 1) := z_dk tdX12_longOf_42 12 rfl
theorem tdX12_lines_0 : (([(0, .aload_n 0, 1), (1, .iconst 0, 1), (2, .putfield 170, 3), (5, .aload_n 0, 1), (6, .iload_n 1, 1), (7, .bipush 12, 2), (9, .sipush 999, 3), (12, .invokestatic 245, 3), (15, .ifCond .eq 12, 3), (18, .iload_n 2, 1), (19, .iconst 0, 1), (20, .iconst 1, 1), (21, .invokestatic 245, 3), (24, .ifCond .ne 7, 3), (27, .iconst 1, 1), (28, .goto 4, 3), (31, .iconst 0, 1), (32, .iconst 1, 1), (33, .iconst 1, 1), (34, .invokevirtual 249, 3), (37, .ifCond .eq 5, 3), (40, .iconst 0, 1), (41, .ireturn, 1), (42, .aload_n 0, 1)] : List (Nat × Instr × Nat)).all fun e => decide (decode cX12_lines e.1 = .ok e.2)) = true := by decide +kernel
theorem dX12_lines_0 : decode cX12_lines 0 = .ok (.aload_n 0, 1) := z_dk tdX12_lines_0 0 rfl
theorem dX12_lines_1 : decode cX12_lines 1 = .ok (.iconst 0, 1) := z_dk tdX12_lines_0 1 rfl
theorem dX12_lines_2 : decode cX12_lines 2 = .ok (.putfield 170, 3) := z_dk tdX12_lines_0 2 rfl
theorem dX12_lines_5 : decode cX12_lines 5 = .ok (.aload_n 0, 1) := z_dk tdX12_lines_0 3 rfl
theorem dX12_lines_6 : decode cX12_lines 6 = .ok (.iload_n 1, 1) := z_dk tdX12_lines_0 4 rfl
theorem dX12_lines_7 : decode cX12_lines 7 = .ok (.bipush 12, 2) := z_dk tdX12_lines_0 5 rfl
theorem dX12_lines_9 : decode cX12_lines 9 = .ok (.sipush 999, 3) := z_dk tdX12_lines_0 6 rfl
theorem dX12_lines_12 : decode cX12_lines 12 = .ok (.invokestatic 245, 3) := z_dk tdX12_lines_0 7 rfl
theorem dX12_lines_15 : decode cX12_lines 15 = .ok (.ifCond .eq 12, 3) := z_dk tdX12_lines_0 8 rfl
theorem dX12_lines_18 : decode cX12_lines 18 = .ok (.iload_n 2, 1) := z_dk tdX12_lines_0 9 rfl
theorem dX12_lines_19 : decode cX12_lines 19 = .ok (.iconst 0, 1) := z_dk tdX12_lines_0 10 rfl
theorem dX12_lines_20 : decode cX12_lines 20 = .ok (.iconst 1, 1) := z_dk tdX12_lines_0 11 rfl
theorem dX12_lines_21 : decode cX12_lines 21 = .ok (.invokestatic 245, 3) := z_dk tdX12_lines_0 12 rfl
theorem dX12_lines_24 : decode cX12_lines 24 = .ok (.ifCond .ne 7, 3) := z_dk tdX12_lines_0 13 rfl
theorem dX12_lines_27 : decode cX12_lines 27 = .ok (.iconst 1, 1) := z_dk tdX12_lines_0 14 rfl
theorem dX12_lines_28 : decode cX12_lines 28 = .ok (.goto 4, 3) := z_dk tdX12_lines_0 15 rfl
theorem dX12_lines_31 : decode cX12_lines 31 = .ok (.iconst 0, 1) := z_dk tdX12_lines_0 16 rfl
theorem dX12_lines_32 : decode cX12_lines 32 = .ok (.iconst 1, 1) := z_dk tdX12_lines_0 17 rfl
theorem dX12_lines_33 : decode cX12_lines 33 = .ok (.iconst 1, 1) := z_dk tdX12_lines_0 18 rfl
theorem dX12_lines_34 : decode cX12_lines 34 = .ok (.invokevirtual 249, 3) := z_dk tdX12_lines_0 19 rfl
theorem dX12_lines_37 : decode cX12_lines 37 = .ok (.ifCond .eq 5, 3) := z_dk tdX12_lines_0 20 rfl
theorem dX12_lines_40 : decode cX12_lines 40 = .ok (.iconst 0, 1) := z_dk tdX12_lines_0 21 rfl
theorem dX12_lines_41 : decode cX12_lines 41 = .ok (.ireturn, 1) := z_dk tdX12_lines_0 22 rfl
theorem dX12_lines_42 : decode cX12_lines 42 = .ok (.aload_n 0, 1) := z_dk tdX12_lines_0 23 rfl
theorem tdX12_lines_43 : (([(43, .iload_n 1, 1), (44, .iload_n 2, 1), (45, .invokevirtual 362, 3), (48, .istore_n 3, 1), (49, .aload_n 0, 1), (50, .iconst 0, 1), (51, .putfield 323, 3), (54, .iload_n 3, 1), (55, .ireturn, 1)] : List (Nat × Instr × Nat)).all fun e => decide (decode cX12_lines e.1 = .ok e.2)) = true := by decide +kernel
theorem dX12_lines_43 : decode cX12_lines 43 = .ok (.iload_n 1, 1) := z_dk tdX12_lines_43 0 rfl
theorem dX12_lines_44 : decode cX12_lines 44 = .ok (.iload_n 2, 1) := z_dk tdX12_lines_43 1 rfl
theorem dX12_lines_45 : decode cX12_lines 45 = .ok (.invokevirtual 362, 3) := z_dk tdX12_lines_43 2 rfl
theorem dX12_lines_48 : decode cX12_lines 48 = .ok (.istore_n 3, 1) := z_dk tdX12_lines_43 3 rfl
theorem dX12_lines_49 : decode cX12_lines 49 = .ok (.aload_n 0, 1) := z_dk tdX12_lines_43 4 rfl
theorem dX12_lines_50 : decode cX12_lines 50 = .ok (.iconst 0, 1) := z_dk tdX12_lines_43 5 rfl
theorem dX12_lines_51 : decode cX12_lines 51 = .ok (.putfield 323, 3) := z_dk tdX12_lines_43 6 rfl
theorem dX12_lines_54 : decode cX12_lines 54 = .ok (.iload_n 3, 1) := z_dk tdX12_lines_43 7 rfl
theorem dX12_lines_55 : decode cX12_lines 55 = .ok (.ireturn, 1) := z_dk tdX12_lines_43 8 rfl
theorem tdX12_least_0 : (([(0, .aload_n 0, 1), (1, .iconst 0, 1), (2, .putfield 170, 3), (5, .aload_n 0, 1), (6, .iload_n 1, 1), (7, .iconst 1, 1), (8, .sipush 200, 3), (11, .invokestatic 245, 3), (14, .ifCond .ne 7, 3), (17, .iconst 1, 1), (18, .goto 4, 3), (21, .iconst 0, 1), (22, .iconst 1, 1), (23, .iconst 1, 1), (24, .invokevirtual 249, 3), (27, .ifCond .eq 5, 3), (30, .iconst 0, 1), (31, .ireturn, 1), (32, .aload_n 0, 1), (33, .iconst 0, 1), (34, .putfield 323, 3), (37, .bipush 12, 2), (39, .istore_n 2, 1), (40, .iload_n 2, 1)] : List (Nat × Instr × Nat)).all fun e => decide (decode cX12_least e.1 = .ok e.2)) = true := by decide +kernel
theorem dX12_least_0 : decode cX12_least 0 = .ok (.aload_n 0, 1) := z_dk tdX12_least_0 0 rfl
theorem dX12_least_1 : decode cX12_least 1 = .ok (.iconst 0, 1) := z_dk tdX12_least_0 1 rfl
theorem dX12_least_2 : decode cX12_least 2 = .ok (.putfield 170, 3) := z_dk tdX12_least_0 2 rfl
theorem dX12_least_5 : decode cX12_least 5 = .ok (.aload_n 0, 1) := z_dk tdX12_least_0 3 rfl
theorem dX12_least_6 : decode cX12_least 6 = .ok (.iload_n 1, 1) := z_dk tdX12_least_0 4 rfl
theorem dX12_least_7 : decode cX12_least 7 = .ok (.iconst 1, 1) := z_dk tdX12_least_0 5 rfl
theorem dX12_least_8 : decode cX12_least 8 = .ok (.sipush 200, 3) := z_dk tdX12_least_0 6 rfl
theorem dX12_least_11 : decode cX12_least 11 = .ok (.invokestatic 245, 3) := z_dk tdX12_least_0 7 rfl
theorem dX12_least_14 : decode cX12_least 14 = .ok (.ifCond .ne 7, 3) := z_dk tdX12_least_0 8 rfl
theorem dX12_least_17 : decode cX12_least 17 = .ok (.iconst 1, 1) := z_dk tdX12_least_0 9 rfl
theorem dX12_least_18 : decode cX12_least 18 = .ok (.goto 4, 3) := z_dk tdX12_least_0 10 rfl
theorem dX12_least_21 : decode cX12_least 21 = .ok (.iconst 0, 1) := z_dk tdX12_least_0 11 rfl
theorem dX12_least_22 : decode cX12_least 22 = .ok (.iconst 1, 1) := z_dk tdX12_least_0 12 rfl
theorem dX12_least_23 : decode cX12_least 23 = .ok (.iconst 1, 1) := z_dk tdX12_least_0 13 rfl
theorem dX12_least_24 : decode cX12_least 24 = .ok (.invokevirtual 249, 3) := z_dk tdX12_least_0 14 rfl
theorem dX12_least_27 : decode cX12_least 27 = .ok (.ifCond .eq 5, 3) := z_dk tdX12_least_0 15 rfl
theorem dX12_least_30 : decode cX12_least 30 = .ok (.iconst 0, 1) := z_dk tdX12_least_0 16 rfl
theorem dX12_least_31 : decode cX12_least 31 = .ok (.ireturn, 1) := z_dk tdX12_least_0 17 rfl
theorem dX12_least_32 : decode cX12_least 32 = .ok (.aload_n 0, 1) := z_dk tdX12_least_0 18 rfl
theorem dX12_least_33 : decode cX12_least 33 = .ok (.iconst 0, 1) := z_dk tdX12_least_0 19 rfl
theorem dX12_least_34 : decode cX12_least 34 = .ok (.putfield 323, 3) := z_dk tdX12_least_0 20 rfl
theorem dX12_least_37 : decode cX12_least 37 = .ok (.bipush 12, 2) := z_dk tdX12_least_0 21 rfl
theorem dX12_least_39 : decode cX12_least 39 = .ok (.istore_n 2, 1) := z_dk tdX12_least_0 22 rfl
theorem dX12_least_40 : decode cX12_least 40 = .ok (.iload_n 2, 1) := z_dk tdX12_least_0 23 rfl
theorem tdX12_least_41 : (([(41, .sipush 999, 3), (44, .if_icmp .gt 93, 3), (47, .aload_n 0, 1), (48, .iload_n 2, 1), (49, .aload_n 0, 1), (50, .getfield 20, 3), (53, .iconst 3, 1), (54, .iaload, 1), (55, .invokevirtual 362, 3), (58, .istore_n 3, 1), (59, .iload_n 3, 1), (60, .iload_n 1, 1), (61, .if_icmp .gt 7, 3), (64, .iconst 1, 1), (65, .goto 4, 3), (68, .iconst 0, 1), (69, .istore 4, 2), (71, .iconst 0, 1), (72, .istore 5, 2), (74, .iload 5, 2), (76, .iload_n 3, 1), (77, .if_icmp .ge 47, 3), (80, .iload 4, 2), (82, .ifCond .eq 42, 3)] : List (Nat × Instr × Nat)).all fun e => decide (decode cX12_least e.1 = .ok e.2)) = true := by decide +kernel
theorem dX12_least_41 : decode cX12_least 41 = .ok (.sipush 999, 3) := z_dk tdX12_least_41 0 rfl
theorem dX12_least_44 : decode cX12_least 44 = .ok (.if_icmp .gt 93, 3) := z_dk tdX12_least_41 1 rfl
theorem dX12_least_47 : decode cX12_least 47 = .ok (.aload_n 0, 1) := z_dk tdX12_least_41 2 rfl
theorem dX12_least_48 : decode cX12_least 48 = .ok (.iload_n 2, 1) := z_dk tdX12_least_41 3 rfl
theorem dX12_least_49 : decode cX12_least 49 = .ok (.aload_n 0, 1) := z_dk tdX12_least_41 4 rfl
theorem dX12_least_50 : decode cX12_least 50 = .ok (.getfield 20, 3) := z_dk tdX12_least_41 5 rfl
theorem dX12_least_53 : decode cX12_least 53 = .ok (.iconst 3, 1) := z_dk tdX12_least_41 6 rfl
theorem dX12_least_54 : decode cX12_least 54 = .ok (.iaload, 1) := z_dk tdX12_least_41 7 rfl
theorem dX12_least_55 : decode cX12_least 55 = .ok (.invokevirtual 362, 3) := z_dk tdX12_least_41 8 rfl
theorem dX12_least_58 : decode cX12_least 58 = .ok (.istore_n 3, 1) := z_dk tdX12_least_41 9 rfl
theorem dX12_least_59 : decode cX12_least 59 = .ok (.iload_n 3, 1) := z_dk tdX12_least_41 10 rfl
theorem dX12_least_60 : decode cX12_least 60 = .ok (.iload_n 1, 1) := z_dk tdX12_least_41 11 rfl
theorem dX12_least_61 : decode cX12_least 61 = .ok (.if_icmp .gt 7, 3) := z_dk tdX12_least_41 12 rfl
theorem dX12_least_64 : decode cX12_least 64 = .ok (.iconst 1, 1) := z_dk tdX12_least_41 13 rfl
theorem dX12_least_65 : decode cX12_least 65 = .ok (.goto 4, 3) := z_dk tdX12_least_41 14 rfl
theorem dX12_least_68 : decode cX12_least 68 = .ok (.iconst 0, 1) := z_dk tdX12_least_41 15 rfl
theorem dX12_least_69 : decode cX12_least 69 = .ok (.istore 4, 2) := z_dk tdX12_least_41 16 rfl
theorem dX12_least_71 : decode cX12_least 71 = .ok (.iconst 0, 1) := z_dk tdX12_least_41 17 rfl
theorem dX12_least_72 : decode cX12_least 72 = .ok (.istore 5, 2) := z_dk tdX12_least_41 18 rfl
theorem dX12_least_74 : decode cX12_least 74 = .ok (.iload 5, 2) := z_dk tdX12_least_41 19 rfl
theorem dX12_least_76 : decode cX12_least 76 = .ok (.iload_n 3, 1) := z_dk tdX12_least_41 20 rfl
theorem dX12_least_77 : decode cX12_least 77 = .ok (.if_icmp .ge 47, 3) := z_dk tdX12_least_41 21 rfl
theorem dX12_least_80 : decode cX12_least 80 = .ok (.iload 4, 2) := z_dk tdX12_least_41 22 rfl
theorem dX12_least_82 : decode cX12_least 82 = .ok (.ifCond .eq 42, 3) := z_dk tdX12_least_41 23 rfl
theorem tdX12_least_85 : (([(85, .aload_n 0, 1), (86, .aload_n 0, 1), (87, .getfield 109, 3), (90, .iload 5, 2), (92, .iaload, 1), (93, .aload_n 0, 1), (94, .getfield 109, 3), (97, .iload 5, 2), (99, .iconst 1, 1), (100, .iadd, 1), (101, .iaload, 1), (102, .iconst 1, 1), (103, .isub, 1), (104, .invokevirtual 332, 3), (107, .iload_n 2, 1), (108, .if_icmp .gt 7, 3), (111, .iconst 1, 1), (112, .goto 4, 3), (115, .iconst 0, 1), (116, .istore 4, 2), (118, .iinc 5 1, 3), (121, .goto (-47), 3), (124, .iload 4, 2), (126, .ifCond .eq 5, 3)] : List (Nat × Instr × Nat)).all fun e => decide (decode cX12_least e.1 = .ok e.2)) = true := by decide +kernel
theorem dX12_least_85 : decode cX12_least 85 = .ok (.aload_n 0, 1) := z_dk tdX12_least_85 0 rfl
theorem dX12_least_86 : decode cX12_least 86 = .ok (.aload_n 0, 1) := z_dk tdX12_least_85 1 rfl
theorem dX12_least_87 : decode cX12_least 87 = .ok (.getfield 109, 3) := z_dk tdX12_least_85 2 rfl
theorem dX12_least_90 : decode cX12_least 90 = .ok (.iload 5, 2) := z_dk tdX12_least_85 3 rfl
theorem dX12_least_92 : decode cX12_least 92 = .ok (.iaload, 1) := z_dk tdX12_least_85 4 rfl
theorem dX12_least_93 : decode cX12_least 93 = .ok (.aload_n 0, 1) := z_dk tdX12_least_85 5 rfl
theorem dX12_least_94 : decode cX12_least 94 = .ok (.getfield 109, 3) := z_dk tdX12_least_85 6 rfl
theorem dX12_least_97 : decode cX12_least 97 = .ok (.iload 5, 2) := z_dk tdX12_least_85 7 rfl
theorem dX12_least_99 : decode cX12_least 99 = .ok (.iconst 1, 1) := z_dk tdX12_least_85 8 rfl
theorem dX12_least_100 : decode cX12_least 100 = .ok (.iadd, 1) := z_dk tdX12_least_85 9 rfl
theorem dX12_least_101 : decode cX12_least 101 = .ok (.iaload, 1) := z_dk tdX12_least_85 10 rfl
theorem dX12_least_102 : decode cX12_least 102 = .ok (.iconst 1, 1) := z_dk tdX12_least_85 11 rfl
theorem dX12_least_103 : decode cX12_least 103 = .ok (.isub, 1) := z_dk tdX12_least_85 12 rfl
theorem dX12_least_104 : decode cX12_least 104 = .ok (.invokevirtual 332, 3) := z_dk tdX12_least_85 13 rfl
theorem dX12_least_107 : decode cX12_least 107 = .ok (.iload_n 2, 1) := z_dk tdX12_least_85 14 rfl
theorem dX12_least_108 : decode cX12_least 108 = .ok (.if_icmp .gt 7, 3) := z_dk tdX12_least_85 15 rfl
theorem dX12_least_111 : decode cX12_least 111 = .ok (.iconst 1, 1) := z_dk tdX12_least_85 16 rfl
theorem dX12_least_112 : decode cX12_least 112 = .ok (.goto 4, 3) := z_dk tdX12_least_85 17 rfl
theorem dX12_least_115 : decode cX12_least 115 = .ok (.iconst 0, 1) := z_dk tdX12_least_85 18 rfl
theorem dX12_least_116 : decode cX12_least 116 = .ok (.istore 4, 2) := z_dk tdX12_least_85 19 rfl
theorem dX12_least_118 : decode cX12_least 118 = .ok (.iinc 5 1, 3) := z_dk tdX12_least_85 20 rfl
theorem dX12_least_121 : decode cX12_least 121 = .ok (.goto (-47), 3) := z_dk tdX12_least_85 21 rfl
theorem dX12_least_124 : decode cX12_least 124 = .ok (.iload 4, 2) := z_dk tdX12_least_85 22 rfl
theorem dX12_least_126 : decode cX12_least 126 = .ok (.ifCond .eq 5, 3) := z_dk tdX12_least_85 23 rfl
theorem tdX12_least_129 : (([(129, .iload_n 2, 1), (130, .ireturn, 1), (131, .iinc 2 1, 3), (134, .goto (-94), 3), (137, .iconst (-1), 1), (138, .ireturn, 1)] : List (Nat × Instr × Nat)).all fun e => decide (decode cX12_least e.1 = .ok e.2)) = true := by decide +kernel
theorem dX12_least_129 : decode cX12_least 129 = .ok (.iload_n 2, 1) := z_dk tdX12_least_129 0 rfl
theorem dX12_least_130 : decode cX12_least 130 = .ok (.ireturn, 1) := z_dk tdX12_least_129 1 rfl
theorem dX12_least_131 : decode cX12_least 131 = .ok (.iinc 2 1, 3) := z_dk tdX12_least_129 2 rfl
theorem dX12_least_134 : decode cX12_least 134 = .ok (.goto (-94), 3) := z_dk tdX12_least_129 3 rfl
theorem dX12_least_137 : decode cX12_least 137 = .ok (.iconst (-1), 1) := z_dk tdX12_least_129 4 rfl
theorem dX12_least_138 : decode cX12_least 138 = .ok (.ireturn, 1) := z_dk tdX12_least_129 5 rfl
theorem tdX12_costsBy_0 : (([(0, .aload_n 0, 1), (1, .aload_n 0, 1), (2, .aload_n 0, 1), (3, .getfield 20, 3), (6, .iconst 0, 1), (7, .iaload, 1), (8, .iload_n 1, 1), (9, .invokevirtual 362, 3), (12, .putfield 365, 3), (15, .aload_n 0, 1), (16, .iconst 0, 1), (17, .putfield 323, 3), (20, .aload_n 0, 1), (21, .invokevirtual 377, 3), (24, .lreturn, 1)] : List (Nat × Instr × Nat)).all fun e => decide (decode cX12_costsBy e.1 = .ok e.2)) = true := by decide +kernel
theorem dX12_costsBy_0 : decode cX12_costsBy 0 = .ok (.aload_n 0, 1) := z_dk tdX12_costsBy_0 0 rfl
theorem dX12_costsBy_1 : decode cX12_costsBy 1 = .ok (.aload_n 0, 1) := z_dk tdX12_costsBy_0 1 rfl
theorem dX12_costsBy_2 : decode cX12_costsBy 2 = .ok (.aload_n 0, 1) := z_dk tdX12_costsBy_0 2 rfl
theorem dX12_costsBy_3 : decode cX12_costsBy 3 = .ok (.getfield 20, 3) := z_dk tdX12_costsBy_0 3 rfl
theorem dX12_costsBy_6 : decode cX12_costsBy 6 = .ok (.iconst 0, 1) := z_dk tdX12_costsBy_0 4 rfl
theorem dX12_costsBy_7 : decode cX12_costsBy 7 = .ok (.iaload, 1) := z_dk tdX12_costsBy_0 5 rfl
theorem dX12_costsBy_8 : decode cX12_costsBy 8 = .ok (.iload_n 1, 1) := z_dk tdX12_costsBy_0 6 rfl
theorem dX12_costsBy_9 : decode cX12_costsBy 9 = .ok (.invokevirtual 362, 3) := z_dk tdX12_costsBy_0 7 rfl
theorem dX12_costsBy_12 : decode cX12_costsBy 12 = .ok (.putfield 365, 3) := z_dk tdX12_costsBy_0 8 rfl
theorem dX12_costsBy_15 : decode cX12_costsBy 15 = .ok (.aload_n 0, 1) := z_dk tdX12_costsBy_0 9 rfl
theorem dX12_costsBy_16 : decode cX12_costsBy 16 = .ok (.iconst 0, 1) := z_dk tdX12_costsBy_0 10 rfl
theorem dX12_costsBy_17 : decode cX12_costsBy 17 = .ok (.putfield 323, 3) := z_dk tdX12_costsBy_0 11 rfl
theorem dX12_costsBy_20 : decode cX12_costsBy 20 = .ok (.aload_n 0, 1) := z_dk tdX12_costsBy_0 12 rfl
theorem dX12_costsBy_21 : decode cX12_costsBy 21 = .ok (.invokevirtual 377, 3) := z_dk tdX12_costsBy_0 13 rfl
theorem dX12_costsBy_24 : decode cX12_costsBy 24 = .ok (.lreturn, 1) := z_dk tdX12_costsBy_0 14 rfl
theorem tdX12_better_0 : (([(0, .aload_n 0, 1), (1, .iconst 0, 1), (2, .putfield 170, 3), (5, .aload_n 0, 1), (6, .iconst 0, 1), (7, .invokevirtual 435, 3), (10, .lstore_n 1, 1), (11, .lload_n 1, 1), (12, .aload_n 0, 1), (13, .iconst 1, 1), (14, .invokevirtual 435, 3), (17, .lsub, 1), (18, .lreturn, 1)] : List (Nat × Instr × Nat)).all fun e => decide (decode cX12_better e.1 = .ok e.2)) = true := by decide +kernel
theorem dX12_better_0 : decode cX12_better 0 = .ok (.aload_n 0, 1) := z_dk tdX12_better_0 0 rfl
theorem dX12_better_1 : decode cX12_better 1 = .ok (.iconst 0, 1) := z_dk tdX12_better_0 1 rfl
theorem dX12_better_2 : decode cX12_better 2 = .ok (.putfield 170, 3) := z_dk tdX12_better_0 2 rfl
theorem dX12_better_5 : decode cX12_better 5 = .ok (.aload_n 0, 1) := z_dk tdX12_better_0 3 rfl
theorem dX12_better_6 : decode cX12_better 6 = .ok (.iconst 0, 1) := z_dk tdX12_better_0 4 rfl
theorem dX12_better_7 : decode cX12_better 7 = .ok (.invokevirtual 435, 3) := z_dk tdX12_better_0 5 rfl
theorem dX12_better_10 : decode cX12_better 10 = .ok (.lstore_n 1, 1) := z_dk tdX12_better_0 6 rfl
theorem dX12_better_11 : decode cX12_better 11 = .ok (.lload_n 1, 1) := z_dk tdX12_better_0 7 rfl
theorem dX12_better_12 : decode cX12_better 12 = .ok (.aload_n 0, 1) := z_dk tdX12_better_0 8 rfl
theorem dX12_better_13 : decode cX12_better 13 = .ok (.iconst 1, 1) := z_dk tdX12_better_0 9 rfl
theorem dX12_better_14 : decode cX12_better 14 = .ok (.invokevirtual 435, 3) := z_dk tdX12_better_0 10 rfl
theorem dX12_better_17 : decode cX12_better 17 = .ok (.lsub, 1) := z_dk tdX12_better_0 11 rfl
theorem dX12_better_18 : decode cX12_better 18 = .ok (.lreturn, 1) := z_dk tdX12_better_0 12 rfl
theorem tdX12_moves_0 : (([(0, .aload_n 0, 1), (1, .iconst 0, 1), (2, .putfield 170, 3), (5, .aload_n 0, 1), (6, .invokevirtual 371, 3), (9, .iconst 0, 1), (10, .istore_n 1, 1), (11, .iload_n 1, 1), (12, .aload_n 0, 1), (13, .getfield 242, 3), (16, .if_icmp .ge 21, 3), (19, .aload_n 0, 1), (20, .getfield 164, 3), (23, .iload_n 1, 1), (24, .aload_n 0, 1), (25, .getfield 119, 3), (28, .iload_n 1, 1), (29, .iaload, 1), (30, .iastore, 1), (31, .iinc 1 1, 3), (34, .goto (-23), 3), (37, .aload_n 0, 1), (38, .invokevirtual 439, 3), (41, .iconst 0, 1)] : List (Nat × Instr × Nat)).all fun e => decide (decode cX12_moves e.1 = .ok e.2)) = true := by decide +kernel
theorem dX12_moves_0 : decode cX12_moves 0 = .ok (.aload_n 0, 1) := z_dk tdX12_moves_0 0 rfl
theorem dX12_moves_1 : decode cX12_moves 1 = .ok (.iconst 0, 1) := z_dk tdX12_moves_0 1 rfl
theorem dX12_moves_2 : decode cX12_moves 2 = .ok (.putfield 170, 3) := z_dk tdX12_moves_0 2 rfl
theorem dX12_moves_5 : decode cX12_moves 5 = .ok (.aload_n 0, 1) := z_dk tdX12_moves_0 3 rfl
theorem dX12_moves_6 : decode cX12_moves 6 = .ok (.invokevirtual 371, 3) := z_dk tdX12_moves_0 4 rfl
theorem dX12_moves_9 : decode cX12_moves 9 = .ok (.iconst 0, 1) := z_dk tdX12_moves_0 5 rfl
theorem dX12_moves_10 : decode cX12_moves 10 = .ok (.istore_n 1, 1) := z_dk tdX12_moves_0 6 rfl
theorem dX12_moves_11 : decode cX12_moves 11 = .ok (.iload_n 1, 1) := z_dk tdX12_moves_0 7 rfl
theorem dX12_moves_12 : decode cX12_moves 12 = .ok (.aload_n 0, 1) := z_dk tdX12_moves_0 8 rfl
theorem dX12_moves_13 : decode cX12_moves 13 = .ok (.getfield 242, 3) := z_dk tdX12_moves_0 9 rfl
theorem dX12_moves_16 : decode cX12_moves 16 = .ok (.if_icmp .ge 21, 3) := z_dk tdX12_moves_0 10 rfl
theorem dX12_moves_19 : decode cX12_moves 19 = .ok (.aload_n 0, 1) := z_dk tdX12_moves_0 11 rfl
theorem dX12_moves_20 : decode cX12_moves 20 = .ok (.getfield 164, 3) := z_dk tdX12_moves_0 12 rfl
theorem dX12_moves_23 : decode cX12_moves 23 = .ok (.iload_n 1, 1) := z_dk tdX12_moves_0 13 rfl
theorem dX12_moves_24 : decode cX12_moves 24 = .ok (.aload_n 0, 1) := z_dk tdX12_moves_0 14 rfl
theorem dX12_moves_25 : decode cX12_moves 25 = .ok (.getfield 119, 3) := z_dk tdX12_moves_0 15 rfl
theorem dX12_moves_28 : decode cX12_moves 28 = .ok (.iload_n 1, 1) := z_dk tdX12_moves_0 16 rfl
theorem dX12_moves_29 : decode cX12_moves 29 = .ok (.iaload, 1) := z_dk tdX12_moves_0 17 rfl
theorem dX12_moves_30 : decode cX12_moves 30 = .ok (.iastore, 1) := z_dk tdX12_moves_0 18 rfl
theorem dX12_moves_31 : decode cX12_moves 31 = .ok (.iinc 1 1, 3) := z_dk tdX12_moves_0 19 rfl
theorem dX12_moves_34 : decode cX12_moves 34 = .ok (.goto (-23), 3) := z_dk tdX12_moves_0 20 rfl
theorem dX12_moves_37 : decode cX12_moves 37 = .ok (.aload_n 0, 1) := z_dk tdX12_moves_0 21 rfl
theorem dX12_moves_38 : decode cX12_moves 38 = .ok (.invokevirtual 439, 3) := z_dk tdX12_moves_0 22 rfl
theorem dX12_moves_41 : decode cX12_moves 41 = .ok (.iconst 0, 1) := z_dk tdX12_moves_0 23 rfl
theorem tdX12_moves_42 : (([(42, .istore_n 1, 1), (43, .iconst 0, 1), (44, .istore_n 2, 1), (45, .iload_n 2, 1), (46, .aload_n 0, 1), (47, .getfield 242, 3), (50, .if_icmp .ge 37, 3), (53, .iload_n 1, 1), (54, .aload_n 0, 1), (55, .getfield 119, 3), (58, .iload_n 2, 1), (59, .iaload, 1), (60, .aload_n 0, 1), (61, .getfield 164, 3), (64, .iload_n 2, 1), (65, .iaload, 1), (66, .if_icmp .ne 7, 3), (69, .iconst 0, 1), (70, .goto 9, 3), (73, .aload_n 0, 1), (74, .getfield 60, 3), (77, .iload_n 2, 1), (78, .iaload, 1), (79, .iadd, 1)] : List (Nat × Instr × Nat)).all fun e => decide (decode cX12_moves e.1 = .ok e.2)) = true := by decide +kernel
theorem dX12_moves_42 : decode cX12_moves 42 = .ok (.istore_n 1, 1) := z_dk tdX12_moves_42 0 rfl
theorem dX12_moves_43 : decode cX12_moves 43 = .ok (.iconst 0, 1) := z_dk tdX12_moves_42 1 rfl
theorem dX12_moves_44 : decode cX12_moves 44 = .ok (.istore_n 2, 1) := z_dk tdX12_moves_42 2 rfl
theorem dX12_moves_45 : decode cX12_moves 45 = .ok (.iload_n 2, 1) := z_dk tdX12_moves_42 3 rfl
theorem dX12_moves_46 : decode cX12_moves 46 = .ok (.aload_n 0, 1) := z_dk tdX12_moves_42 4 rfl
theorem dX12_moves_47 : decode cX12_moves 47 = .ok (.getfield 242, 3) := z_dk tdX12_moves_42 5 rfl
theorem dX12_moves_50 : decode cX12_moves 50 = .ok (.if_icmp .ge 37, 3) := z_dk tdX12_moves_42 6 rfl
theorem dX12_moves_53 : decode cX12_moves 53 = .ok (.iload_n 1, 1) := z_dk tdX12_moves_42 7 rfl
theorem dX12_moves_54 : decode cX12_moves 54 = .ok (.aload_n 0, 1) := z_dk tdX12_moves_42 8 rfl
theorem dX12_moves_55 : decode cX12_moves 55 = .ok (.getfield 119, 3) := z_dk tdX12_moves_42 9 rfl
theorem dX12_moves_58 : decode cX12_moves 58 = .ok (.iload_n 2, 1) := z_dk tdX12_moves_42 10 rfl
theorem dX12_moves_59 : decode cX12_moves 59 = .ok (.iaload, 1) := z_dk tdX12_moves_42 11 rfl
theorem dX12_moves_60 : decode cX12_moves 60 = .ok (.aload_n 0, 1) := z_dk tdX12_moves_42 12 rfl
theorem dX12_moves_61 : decode cX12_moves 61 = .ok (.getfield 164, 3) := z_dk tdX12_moves_42 13 rfl
theorem dX12_moves_64 : decode cX12_moves 64 = .ok (.iload_n 2, 1) := z_dk tdX12_moves_42 14 rfl
theorem dX12_moves_65 : decode cX12_moves 65 = .ok (.iaload, 1) := z_dk tdX12_moves_42 15 rfl
theorem dX12_moves_66 : decode cX12_moves 66 = .ok (.if_icmp .ne 7, 3) := z_dk tdX12_moves_42 16 rfl
theorem dX12_moves_69 : decode cX12_moves 69 = .ok (.iconst 0, 1) := z_dk tdX12_moves_42 17 rfl
theorem dX12_moves_70 : decode cX12_moves 70 = .ok (.goto 9, 3) := z_dk tdX12_moves_42 18 rfl
theorem dX12_moves_73 : decode cX12_moves 73 = .ok (.aload_n 0, 1) := z_dk tdX12_moves_42 19 rfl
theorem dX12_moves_74 : decode cX12_moves 74 = .ok (.getfield 60, 3) := z_dk tdX12_moves_42 20 rfl
theorem dX12_moves_77 : decode cX12_moves 77 = .ok (.iload_n 2, 1) := z_dk tdX12_moves_42 21 rfl
theorem dX12_moves_78 : decode cX12_moves 78 = .ok (.iaload, 1) := z_dk tdX12_moves_42 22 rfl
theorem dX12_moves_79 : decode cX12_moves 79 = .ok (.iadd, 1) := z_dk tdX12_moves_42 23 rfl
theorem tdX12_moves_80 : (([(80, .istore_n 1, 1), (81, .iinc 2 1, 3), (84, .goto (-39), 3), (87, .aload_n 0, 1), (88, .invokevirtual 439, 3), (91, .iload_n 1, 1), (92, .ireturn, 1)] : List (Nat × Instr × Nat)).all fun e => decide (decode cX12_moves e.1 = .ok e.2)) = true := by decide +kernel
theorem dX12_moves_80 : decode cX12_moves 80 = .ok (.istore_n 1, 1) := z_dk tdX12_moves_80 0 rfl
theorem dX12_moves_81 : decode cX12_moves 81 = .ok (.iinc 2 1, 3) := z_dk tdX12_moves_80 1 rfl
theorem dX12_moves_84 : decode cX12_moves 84 = .ok (.goto (-39), 3) := z_dk tdX12_moves_80 2 rfl
theorem dX12_moves_87 : decode cX12_moves 87 = .ok (.aload_n 0, 1) := z_dk tdX12_moves_80 3 rfl
theorem dX12_moves_88 : decode cX12_moves 88 = .ok (.invokevirtual 439, 3) := z_dk tdX12_moves_80 4 rfl
theorem dX12_moves_91 : decode cX12_moves 91 = .ok (.iload_n 1, 1) := z_dk tdX12_moves_80 5 rfl
theorem dX12_moves_92 : decode cX12_moves 92 = .ok (.ireturn, 1) := z_dk tdX12_moves_80 6 rfl
theorem tdX12_turnsOver_0 : (([(0, .aload_n 0, 1), (1, .getfield 20, 3), (4, .iconst 5, 1), (5, .iconst 1, 1), (6, .aload_n 0, 1), (7, .getfield 20, 3), (10, .iconst 5, 1), (11, .iaload, 1), (12, .isub, 1), (13, .iastore, 1), (14, .aload_n 0, 1), (15, .iconst 0, 1), (16, .putfield 263, 3), (19, .aload_n 0, 1), (20, .invokevirtual 371, 3), (23, .return_, 1)] : List (Nat × Instr × Nat)).all fun e => decide (decode cX12_turnsOver e.1 = .ok e.2)) = true := by decide +kernel
theorem dX12_turnsOver_0 : decode cX12_turnsOver 0 = .ok (.aload_n 0, 1) := z_dk tdX12_turnsOver_0 0 rfl
theorem dX12_turnsOver_1 : decode cX12_turnsOver 1 = .ok (.getfield 20, 3) := z_dk tdX12_turnsOver_0 1 rfl
theorem dX12_turnsOver_4 : decode cX12_turnsOver 4 = .ok (.iconst 5, 1) := z_dk tdX12_turnsOver_0 2 rfl
theorem dX12_turnsOver_5 : decode cX12_turnsOver 5 = .ok (.iconst 1, 1) := z_dk tdX12_turnsOver_0 3 rfl
theorem dX12_turnsOver_6 : decode cX12_turnsOver 6 = .ok (.aload_n 0, 1) := z_dk tdX12_turnsOver_0 4 rfl
theorem dX12_turnsOver_7 : decode cX12_turnsOver 7 = .ok (.getfield 20, 3) := z_dk tdX12_turnsOver_0 5 rfl
theorem dX12_turnsOver_10 : decode cX12_turnsOver 10 = .ok (.iconst 5, 1) := z_dk tdX12_turnsOver_0 6 rfl
theorem dX12_turnsOver_11 : decode cX12_turnsOver 11 = .ok (.iaload, 1) := z_dk tdX12_turnsOver_0 7 rfl
theorem dX12_turnsOver_12 : decode cX12_turnsOver 12 = .ok (.isub, 1) := z_dk tdX12_turnsOver_0 8 rfl
theorem dX12_turnsOver_13 : decode cX12_turnsOver 13 = .ok (.iastore, 1) := z_dk tdX12_turnsOver_0 9 rfl
theorem dX12_turnsOver_14 : decode cX12_turnsOver 14 = .ok (.aload_n 0, 1) := z_dk tdX12_turnsOver_0 10 rfl
theorem dX12_turnsOver_15 : decode cX12_turnsOver 15 = .ok (.iconst 0, 1) := z_dk tdX12_turnsOver_0 11 rfl
theorem dX12_turnsOver_16 : decode cX12_turnsOver 16 = .ok (.putfield 263, 3) := z_dk tdX12_turnsOver_0 12 rfl
theorem dX12_turnsOver_19 : decode cX12_turnsOver 19 = .ok (.aload_n 0, 1) := z_dk tdX12_turnsOver_0 13 rfl
theorem dX12_turnsOver_20 : decode cX12_turnsOver 20 = .ok (.invokevirtual 371, 3) := z_dk tdX12_turnsOver_0 14 rfl
theorem dX12_turnsOver_23 : decode cX12_turnsOver 23 = .ok (.return_, 1) := z_dk tdX12_turnsOver_0 15 rfl
theorem tdX12_lend_0 : (([(0, .aload_n 0, 1), (1, .iconst 0, 1), (2, .putfield 170, 3), (5, .aload_n 0, 1), (6, .iload_n 1, 1), (7, .iconst 0, 1), (8, .iconst 1, 1), (9, .invokestatic 245, 3), (12, .ifCond .ne 7, 3), (15, .iconst 1, 1), (16, .goto 4, 3), (19, .iconst 0, 1), (20, .iconst 1, 1), (21, .iconst 1, 1), (22, .invokevirtual 249, 3), (25, .ifCond .eq 5, 3), (28, .iconst 0, 1), (29, .ireturn, 1), (30, .aload_n 0, 1), (31, .getfield 20, 3), (34, .iconst 2, 1), (35, .iaload, 1), (36, .istore_n 2, 1), (37, .iconst 0, 1)] : List (Nat × Instr × Nat)).all fun e => decide (decode cX12_lend e.1 = .ok e.2)) = true := by decide +kernel
theorem dX12_lend_0 : decode cX12_lend 0 = .ok (.aload_n 0, 1) := z_dk tdX12_lend_0 0 rfl
theorem dX12_lend_1 : decode cX12_lend 1 = .ok (.iconst 0, 1) := z_dk tdX12_lend_0 1 rfl
theorem dX12_lend_2 : decode cX12_lend 2 = .ok (.putfield 170, 3) := z_dk tdX12_lend_0 2 rfl
theorem dX12_lend_5 : decode cX12_lend 5 = .ok (.aload_n 0, 1) := z_dk tdX12_lend_0 3 rfl
theorem dX12_lend_6 : decode cX12_lend 6 = .ok (.iload_n 1, 1) := z_dk tdX12_lend_0 4 rfl
theorem dX12_lend_7 : decode cX12_lend 7 = .ok (.iconst 0, 1) := z_dk tdX12_lend_0 5 rfl
theorem dX12_lend_8 : decode cX12_lend 8 = .ok (.iconst 1, 1) := z_dk tdX12_lend_0 6 rfl
theorem dX12_lend_9 : decode cX12_lend 9 = .ok (.invokestatic 245, 3) := z_dk tdX12_lend_0 7 rfl
theorem dX12_lend_12 : decode cX12_lend 12 = .ok (.ifCond .ne 7, 3) := z_dk tdX12_lend_0 8 rfl
theorem dX12_lend_15 : decode cX12_lend 15 = .ok (.iconst 1, 1) := z_dk tdX12_lend_0 9 rfl
theorem dX12_lend_16 : decode cX12_lend 16 = .ok (.goto 4, 3) := z_dk tdX12_lend_0 10 rfl
theorem dX12_lend_19 : decode cX12_lend 19 = .ok (.iconst 0, 1) := z_dk tdX12_lend_0 11 rfl
theorem dX12_lend_20 : decode cX12_lend 20 = .ok (.iconst 1, 1) := z_dk tdX12_lend_0 12 rfl
theorem dX12_lend_21 : decode cX12_lend 21 = .ok (.iconst 1, 1) := z_dk tdX12_lend_0 13 rfl
theorem dX12_lend_22 : decode cX12_lend 22 = .ok (.invokevirtual 249, 3) := z_dk tdX12_lend_0 14 rfl
theorem dX12_lend_25 : decode cX12_lend 25 = .ok (.ifCond .eq 5, 3) := z_dk tdX12_lend_0 15 rfl
theorem dX12_lend_28 : decode cX12_lend 28 = .ok (.iconst 0, 1) := z_dk tdX12_lend_0 16 rfl
theorem dX12_lend_29 : decode cX12_lend 29 = .ok (.ireturn, 1) := z_dk tdX12_lend_0 17 rfl
theorem dX12_lend_30 : decode cX12_lend 30 = .ok (.aload_n 0, 1) := z_dk tdX12_lend_0 18 rfl
theorem dX12_lend_31 : decode cX12_lend 31 = .ok (.getfield 20, 3) := z_dk tdX12_lend_0 19 rfl
theorem dX12_lend_34 : decode cX12_lend 34 = .ok (.iconst 2, 1) := z_dk tdX12_lend_0 20 rfl
theorem dX12_lend_35 : decode cX12_lend 35 = .ok (.iaload, 1) := z_dk tdX12_lend_0 21 rfl
theorem dX12_lend_36 : decode cX12_lend 36 = .ok (.istore_n 2, 1) := z_dk tdX12_lend_0 22 rfl
theorem dX12_lend_37 : decode cX12_lend 37 = .ok (.iconst 0, 1) := z_dk tdX12_lend_0 23 rfl
theorem tdX12_lend_38 : (([(38, .istore_n 3, 1), (39, .iconst (-1), 1), (40, .istore 4, 2), (42, .iconst 0, 1), (43, .istore 5, 2), (45, .iload 5, 2), (47, .bipush 6, 2), (49, .if_icmp .gt 64, 3), (52, .aload_n 0, 1), (53, .getfield 20, 3), (56, .iconst 2, 1), (57, .iload 5, 2), (59, .iastore, 1), (60, .aload_n 0, 1), (61, .getfield 242, 3), (64, .ifCond .ne 7, 3), (67, .iconst 0, 1), (68, .goto 14, 3), (71, .aload_n 0, 1), (72, .iconst 0, 1), (73, .aload_n 0, 1), (74, .getfield 242, 3), (77, .iconst 1, 1), (78, .isub, 1)] : List (Nat × Instr × Nat)).all fun e => decide (decode cX12_lend e.1 = .ok e.2)) = true := by decide +kernel
theorem dX12_lend_38 : decode cX12_lend 38 = .ok (.istore_n 3, 1) := z_dk tdX12_lend_38 0 rfl
theorem dX12_lend_39 : decode cX12_lend 39 = .ok (.iconst (-1), 1) := z_dk tdX12_lend_38 1 rfl
theorem dX12_lend_40 : decode cX12_lend 40 = .ok (.istore 4, 2) := z_dk tdX12_lend_38 2 rfl
theorem dX12_lend_42 : decode cX12_lend 42 = .ok (.iconst 0, 1) := z_dk tdX12_lend_38 3 rfl
theorem dX12_lend_43 : decode cX12_lend 43 = .ok (.istore 5, 2) := z_dk tdX12_lend_38 4 rfl
theorem dX12_lend_45 : decode cX12_lend 45 = .ok (.iload 5, 2) := z_dk tdX12_lend_38 5 rfl
theorem dX12_lend_47 : decode cX12_lend 47 = .ok (.bipush 6, 2) := z_dk tdX12_lend_38 6 rfl
theorem dX12_lend_49 : decode cX12_lend 49 = .ok (.if_icmp .gt 64, 3) := z_dk tdX12_lend_38 7 rfl
theorem dX12_lend_52 : decode cX12_lend 52 = .ok (.aload_n 0, 1) := z_dk tdX12_lend_38 8 rfl
theorem dX12_lend_53 : decode cX12_lend 53 = .ok (.getfield 20, 3) := z_dk tdX12_lend_38 9 rfl
theorem dX12_lend_56 : decode cX12_lend 56 = .ok (.iconst 2, 1) := z_dk tdX12_lend_38 10 rfl
theorem dX12_lend_57 : decode cX12_lend 57 = .ok (.iload 5, 2) := z_dk tdX12_lend_38 11 rfl
theorem dX12_lend_59 : decode cX12_lend 59 = .ok (.iastore, 1) := z_dk tdX12_lend_38 12 rfl
theorem dX12_lend_60 : decode cX12_lend 60 = .ok (.aload_n 0, 1) := z_dk tdX12_lend_38 13 rfl
theorem dX12_lend_61 : decode cX12_lend 61 = .ok (.getfield 242, 3) := z_dk tdX12_lend_38 14 rfl
theorem dX12_lend_64 : decode cX12_lend 64 = .ok (.ifCond .ne 7, 3) := z_dk tdX12_lend_38 15 rfl
theorem dX12_lend_67 : decode cX12_lend 67 = .ok (.iconst 0, 1) := z_dk tdX12_lend_38 16 rfl
theorem dX12_lend_68 : decode cX12_lend 68 = .ok (.goto 14, 3) := z_dk tdX12_lend_38 17 rfl
theorem dX12_lend_71 : decode cX12_lend 71 = .ok (.aload_n 0, 1) := z_dk tdX12_lend_38 18 rfl
theorem dX12_lend_72 : decode cX12_lend 72 = .ok (.iconst 0, 1) := z_dk tdX12_lend_38 19 rfl
theorem dX12_lend_73 : decode cX12_lend 73 = .ok (.aload_n 0, 1) := z_dk tdX12_lend_38 20 rfl
theorem dX12_lend_74 : decode cX12_lend 74 = .ok (.getfield 242, 3) := z_dk tdX12_lend_38 21 rfl
theorem dX12_lend_77 : decode cX12_lend 77 = .ok (.iconst 1, 1) := z_dk tdX12_lend_38 22 rfl
theorem dX12_lend_78 : decode cX12_lend 78 = .ok (.isub, 1) := z_dk tdX12_lend_38 23 rfl
theorem tdX12_lend_79 : (([(79, .invokevirtual 329, 3), (82, .istore 6, 2), (84, .iload 4, 2), (86, .iconst (-1), 1), (87, .if_icmp .eq 13, 3), (90, .iload 6, 2), (92, .iload 4, 2), (94, .if_icmp .lt 6, 3), (97, .goto 10, 3), (100, .iload 5, 2), (102, .istore_n 3, 1), (103, .iload 6, 2), (105, .istore 4, 2), (107, .iinc 5 1, 3), (110, .goto (-65), 3), (113, .aload_n 0, 1), (114, .getfield 20, 3), (117, .iconst 2, 1), (118, .iload_n 2, 1), (119, .iastore, 1), (120, .aload_n 0, 1), (121, .iconst 0, 1), (122, .putfield 323, 3), (125, .iload_n 1, 1)] : List (Nat × Instr × Nat)).all fun e => decide (decode cX12_lend e.1 = .ok e.2)) = true := by decide +kernel
theorem dX12_lend_79 : decode cX12_lend 79 = .ok (.invokevirtual 329, 3) := z_dk tdX12_lend_79 0 rfl
theorem dX12_lend_82 : decode cX12_lend 82 = .ok (.istore 6, 2) := z_dk tdX12_lend_79 1 rfl
theorem dX12_lend_84 : decode cX12_lend 84 = .ok (.iload 4, 2) := z_dk tdX12_lend_79 2 rfl
theorem dX12_lend_86 : decode cX12_lend 86 = .ok (.iconst (-1), 1) := z_dk tdX12_lend_79 3 rfl
theorem dX12_lend_87 : decode cX12_lend 87 = .ok (.if_icmp .eq 13, 3) := z_dk tdX12_lend_79 4 rfl
theorem dX12_lend_90 : decode cX12_lend 90 = .ok (.iload 6, 2) := z_dk tdX12_lend_79 5 rfl
theorem dX12_lend_92 : decode cX12_lend 92 = .ok (.iload 4, 2) := z_dk tdX12_lend_79 6 rfl
theorem dX12_lend_94 : decode cX12_lend 94 = .ok (.if_icmp .lt 6, 3) := z_dk tdX12_lend_79 7 rfl
theorem dX12_lend_97 : decode cX12_lend 97 = .ok (.goto 10, 3) := z_dk tdX12_lend_79 8 rfl
theorem dX12_lend_100 : decode cX12_lend 100 = .ok (.iload 5, 2) := z_dk tdX12_lend_79 9 rfl
theorem dX12_lend_102 : decode cX12_lend 102 = .ok (.istore_n 3, 1) := z_dk tdX12_lend_79 10 rfl
theorem dX12_lend_103 : decode cX12_lend 103 = .ok (.iload 6, 2) := z_dk tdX12_lend_79 11 rfl
theorem dX12_lend_105 : decode cX12_lend 105 = .ok (.istore 4, 2) := z_dk tdX12_lend_79 12 rfl
theorem dX12_lend_107 : decode cX12_lend 107 = .ok (.iinc 5 1, 3) := z_dk tdX12_lend_79 13 rfl
theorem dX12_lend_110 : decode cX12_lend 110 = .ok (.goto (-65), 3) := z_dk tdX12_lend_79 14 rfl
theorem dX12_lend_113 : decode cX12_lend 113 = .ok (.aload_n 0, 1) := z_dk tdX12_lend_79 15 rfl
theorem dX12_lend_114 : decode cX12_lend 114 = .ok (.getfield 20, 3) := z_dk tdX12_lend_79 16 rfl
theorem dX12_lend_117 : decode cX12_lend 117 = .ok (.iconst 2, 1) := z_dk tdX12_lend_79 17 rfl
theorem dX12_lend_118 : decode cX12_lend 118 = .ok (.iload_n 2, 1) := z_dk tdX12_lend_79 18 rfl
theorem dX12_lend_119 : decode cX12_lend 119 = .ok (.iastore, 1) := z_dk tdX12_lend_79 19 rfl
theorem dX12_lend_120 : decode cX12_lend 120 = .ok (.aload_n 0, 1) := z_dk tdX12_lend_79 20 rfl
theorem dX12_lend_121 : decode cX12_lend 121 = .ok (.iconst 0, 1) := z_dk tdX12_lend_79 21 rfl
theorem dX12_lend_122 : decode cX12_lend 122 = .ok (.putfield 323, 3) := z_dk tdX12_lend_79 22 rfl
theorem dX12_lend_125 : decode cX12_lend 125 = .ok (.iload_n 1, 1) := z_dk tdX12_lend_79 23 rfl
theorem tdX12_lend_126 : (([(126, .ifCond .ne 7, 3), (129, .iload_n 3, 1), (130, .goto 5, 3), (133, .iload 4, 2), (135, .ireturn, 1)] : List (Nat × Instr × Nat)).all fun e => decide (decode cX12_lend e.1 = .ok e.2)) = true := by decide +kernel
theorem dX12_lend_126 : decode cX12_lend 126 = .ok (.ifCond .ne 7, 3) := z_dk tdX12_lend_126 0 rfl
theorem dX12_lend_129 : decode cX12_lend 129 = .ok (.iload_n 3, 1) := z_dk tdX12_lend_126 1 rfl
theorem dX12_lend_130 : decode cX12_lend 130 = .ok (.goto 5, 3) := z_dk tdX12_lend_126 2 rfl
theorem dX12_lend_133 : decode cX12_lend 133 = .ok (.iload 4, 2) := z_dk tdX12_lend_126 3 rfl
theorem dX12_lend_135 : decode cX12_lend 135 = .ok (.ireturn, 1) := z_dk tdX12_lend_126 4 rfl
theorem tdX12_lineOfBlock_0 : (([(0, .aload_n 0, 1), (1, .getfield 119, 3), (4, .aload_n 0, 1), (5, .getfield 149, 3), (8, .iload_n 1, 1), (9, .aaload, 1), (10, .iconst 0, 1), (11, .iaload, 1), (12, .iaload, 1), (13, .ireturn, 1)] : List (Nat × Instr × Nat)).all fun e => decide (decode cX12_lineOfBlock e.1 = .ok e.2)) = true := by decide +kernel
theorem dX12_lineOfBlock_0 : decode cX12_lineOfBlock 0 = .ok (.aload_n 0, 1) := z_dk tdX12_lineOfBlock_0 0 rfl
theorem dX12_lineOfBlock_1 : decode cX12_lineOfBlock 1 = .ok (.getfield 119, 3) := z_dk tdX12_lineOfBlock_0 1 rfl
theorem dX12_lineOfBlock_4 : decode cX12_lineOfBlock 4 = .ok (.aload_n 0, 1) := z_dk tdX12_lineOfBlock_0 2 rfl
theorem dX12_lineOfBlock_5 : decode cX12_lineOfBlock 5 = .ok (.getfield 149, 3) := z_dk tdX12_lineOfBlock_0 3 rfl
theorem dX12_lineOfBlock_8 : decode cX12_lineOfBlock 8 = .ok (.iload_n 1, 1) := z_dk tdX12_lineOfBlock_0 4 rfl
theorem dX12_lineOfBlock_9 : decode cX12_lineOfBlock 9 = .ok (.aaload, 1) := z_dk tdX12_lineOfBlock_0 5 rfl
theorem dX12_lineOfBlock_10 : decode cX12_lineOfBlock 10 = .ok (.iconst 0, 1) := z_dk tdX12_lineOfBlock_0 6 rfl
theorem dX12_lineOfBlock_11 : decode cX12_lineOfBlock 11 = .ok (.iaload, 1) := z_dk tdX12_lineOfBlock_0 7 rfl
theorem dX12_lineOfBlock_12 : decode cX12_lineOfBlock 12 = .ok (.iaload, 1) := z_dk tdX12_lineOfBlock_0 8 rfl
theorem dX12_lineOfBlock_13 : decode cX12_lineOfBlock 13 = .ok (.ireturn, 1) := z_dk tdX12_lineOfBlock_0 9 rfl
theorem tdX12_nextBlock_0 : (([(0, .iload_n 1, 1), (1, .iconst 1, 1), (2, .iadd, 1), (3, .istore_n 3, 1), (4, .iload_n 3, 1), (5, .aload_n 0, 1), (6, .getfield 359, 3), (9, .if_icmp .ge 33, 3), (12, .aload_n 0, 1), (13, .iload_n 3, 1), (14, .invokevirtual 442, 3), (17, .aload_n 0, 1), (18, .iload_n 1, 1), (19, .invokevirtual 442, 3), (22, .if_icmp .ne 20, 3), (25, .aload_n 0, 1), (26, .iload_n 3, 1), (27, .iload_n 2, 1), (28, .invokevirtual 393, 3), (31, .ifCond .le 5, 3), (34, .iload_n 3, 1), (35, .ireturn, 1), (36, .iinc 3 1, 3), (39, .goto (-35), 3)] : List (Nat × Instr × Nat)).all fun e => decide (decode cX12_nextBlock e.1 = .ok e.2)) = true := by decide +kernel
theorem dX12_nextBlock_0 : decode cX12_nextBlock 0 = .ok (.iload_n 1, 1) := z_dk tdX12_nextBlock_0 0 rfl
theorem dX12_nextBlock_1 : decode cX12_nextBlock 1 = .ok (.iconst 1, 1) := z_dk tdX12_nextBlock_0 1 rfl
theorem dX12_nextBlock_2 : decode cX12_nextBlock 2 = .ok (.iadd, 1) := z_dk tdX12_nextBlock_0 2 rfl
theorem dX12_nextBlock_3 : decode cX12_nextBlock 3 = .ok (.istore_n 3, 1) := z_dk tdX12_nextBlock_0 3 rfl
theorem dX12_nextBlock_4 : decode cX12_nextBlock 4 = .ok (.iload_n 3, 1) := z_dk tdX12_nextBlock_0 4 rfl
theorem dX12_nextBlock_5 : decode cX12_nextBlock 5 = .ok (.aload_n 0, 1) := z_dk tdX12_nextBlock_0 5 rfl
theorem dX12_nextBlock_6 : decode cX12_nextBlock 6 = .ok (.getfield 359, 3) := z_dk tdX12_nextBlock_0 6 rfl
theorem dX12_nextBlock_9 : decode cX12_nextBlock 9 = .ok (.if_icmp .ge 33, 3) := z_dk tdX12_nextBlock_0 7 rfl
theorem dX12_nextBlock_12 : decode cX12_nextBlock 12 = .ok (.aload_n 0, 1) := z_dk tdX12_nextBlock_0 8 rfl
theorem dX12_nextBlock_13 : decode cX12_nextBlock 13 = .ok (.iload_n 3, 1) := z_dk tdX12_nextBlock_0 9 rfl
theorem dX12_nextBlock_14 : decode cX12_nextBlock 14 = .ok (.invokevirtual 442, 3) := z_dk tdX12_nextBlock_0 10 rfl
theorem dX12_nextBlock_17 : decode cX12_nextBlock 17 = .ok (.aload_n 0, 1) := z_dk tdX12_nextBlock_0 11 rfl
theorem dX12_nextBlock_18 : decode cX12_nextBlock 18 = .ok (.iload_n 1, 1) := z_dk tdX12_nextBlock_0 12 rfl
theorem dX12_nextBlock_19 : decode cX12_nextBlock 19 = .ok (.invokevirtual 442, 3) := z_dk tdX12_nextBlock_0 13 rfl
theorem dX12_nextBlock_22 : decode cX12_nextBlock 22 = .ok (.if_icmp .ne 20, 3) := z_dk tdX12_nextBlock_0 14 rfl
theorem dX12_nextBlock_25 : decode cX12_nextBlock 25 = .ok (.aload_n 0, 1) := z_dk tdX12_nextBlock_0 15 rfl
theorem dX12_nextBlock_26 : decode cX12_nextBlock 26 = .ok (.iload_n 3, 1) := z_dk tdX12_nextBlock_0 16 rfl
theorem dX12_nextBlock_27 : decode cX12_nextBlock 27 = .ok (.iload_n 2, 1) := z_dk tdX12_nextBlock_0 17 rfl
theorem dX12_nextBlock_28 : decode cX12_nextBlock 28 = .ok (.invokevirtual 393, 3) := z_dk tdX12_nextBlock_0 18 rfl
theorem dX12_nextBlock_31 : decode cX12_nextBlock 31 = .ok (.ifCond .le 5, 3) := z_dk tdX12_nextBlock_0 19 rfl
theorem dX12_nextBlock_34 : decode cX12_nextBlock 34 = .ok (.iload_n 3, 1) := z_dk tdX12_nextBlock_0 20 rfl
theorem dX12_nextBlock_35 : decode cX12_nextBlock 35 = .ok (.ireturn, 1) := z_dk tdX12_nextBlock_0 21 rfl
theorem dX12_nextBlock_36 : decode cX12_nextBlock 36 = .ok (.iinc 3 1, 3) := z_dk tdX12_nextBlock_0 22 rfl
theorem dX12_nextBlock_39 : decode cX12_nextBlock 39 = .ok (.goto (-35), 3) := z_dk tdX12_nextBlock_0 23 rfl
theorem tdX12_nextBlock_42 : (([(42, .iconst (-1), 1), (43, .ireturn, 1)] : List (Nat × Instr × Nat)).all fun e => decide (decode cX12_nextBlock e.1 = .ok e.2)) = true := by decide +kernel
theorem dX12_nextBlock_42 : decode cX12_nextBlock 42 = .ok (.iconst (-1), 1) := z_dk tdX12_nextBlock_42 0 rfl
theorem dX12_nextBlock_43 : decode cX12_nextBlock 43 = .ok (.ireturn, 1) := z_dk tdX12_nextBlock_42 1 rfl
theorem tdX12_nearest_0 : (([(0, .aload_n 0, 1), (1, .iconst 0, 1), (2, .putfield 170, 3), (5, .aload_n 0, 1), (6, .iload_n 1, 1), (7, .iconst 0, 1), (8, .iconst 1, 1), (9, .invokestatic 245, 3), (12, .ifCond .ne 7, 3), (15, .iconst 1, 1), (16, .goto 4, 3), (19, .iconst 0, 1), (20, .iconst 1, 1), (21, .iconst 1, 1), (22, .invokevirtual 249, 3), (25, .ifCond .eq 5, 3), (28, .iconst 0, 1), (29, .ireturn, 1), (30, .aload_n 0, 1), (31, .invokevirtual 371, 3), (34, .iconst (-1), 1), (35, .istore_n 2, 1), (36, .sipush 999, 3), (39, .istore_n 3, 1)] : List (Nat × Instr × Nat)).all fun e => decide (decode cX12_nearest e.1 = .ok e.2)) = true := by decide +kernel
theorem dX12_nearest_0 : decode cX12_nearest 0 = .ok (.aload_n 0, 1) := z_dk tdX12_nearest_0 0 rfl
theorem dX12_nearest_1 : decode cX12_nearest 1 = .ok (.iconst 0, 1) := z_dk tdX12_nearest_0 1 rfl
theorem dX12_nearest_2 : decode cX12_nearest 2 = .ok (.putfield 170, 3) := z_dk tdX12_nearest_0 2 rfl
theorem dX12_nearest_5 : decode cX12_nearest 5 = .ok (.aload_n 0, 1) := z_dk tdX12_nearest_0 3 rfl
theorem dX12_nearest_6 : decode cX12_nearest 6 = .ok (.iload_n 1, 1) := z_dk tdX12_nearest_0 4 rfl
theorem dX12_nearest_7 : decode cX12_nearest 7 = .ok (.iconst 0, 1) := z_dk tdX12_nearest_0 5 rfl
theorem dX12_nearest_8 : decode cX12_nearest 8 = .ok (.iconst 1, 1) := z_dk tdX12_nearest_0 6 rfl
theorem dX12_nearest_9 : decode cX12_nearest 9 = .ok (.invokestatic 245, 3) := z_dk tdX12_nearest_0 7 rfl
theorem dX12_nearest_12 : decode cX12_nearest 12 = .ok (.ifCond .ne 7, 3) := z_dk tdX12_nearest_0 8 rfl
theorem dX12_nearest_15 : decode cX12_nearest 15 = .ok (.iconst 1, 1) := z_dk tdX12_nearest_0 9 rfl
theorem dX12_nearest_16 : decode cX12_nearest 16 = .ok (.goto 4, 3) := z_dk tdX12_nearest_0 10 rfl
theorem dX12_nearest_19 : decode cX12_nearest 19 = .ok (.iconst 0, 1) := z_dk tdX12_nearest_0 11 rfl
theorem dX12_nearest_20 : decode cX12_nearest 20 = .ok (.iconst 1, 1) := z_dk tdX12_nearest_0 12 rfl
theorem dX12_nearest_21 : decode cX12_nearest 21 = .ok (.iconst 1, 1) := z_dk tdX12_nearest_0 13 rfl
theorem dX12_nearest_22 : decode cX12_nearest 22 = .ok (.invokevirtual 249, 3) := z_dk tdX12_nearest_0 14 rfl
theorem dX12_nearest_25 : decode cX12_nearest 25 = .ok (.ifCond .eq 5, 3) := z_dk tdX12_nearest_0 15 rfl
theorem dX12_nearest_28 : decode cX12_nearest 28 = .ok (.iconst 0, 1) := z_dk tdX12_nearest_0 16 rfl
theorem dX12_nearest_29 : decode cX12_nearest 29 = .ok (.ireturn, 1) := z_dk tdX12_nearest_0 17 rfl
theorem dX12_nearest_30 : decode cX12_nearest 30 = .ok (.aload_n 0, 1) := z_dk tdX12_nearest_0 18 rfl
theorem dX12_nearest_31 : decode cX12_nearest 31 = .ok (.invokevirtual 371, 3) := z_dk tdX12_nearest_0 19 rfl
theorem dX12_nearest_34 : decode cX12_nearest 34 = .ok (.iconst (-1), 1) := z_dk tdX12_nearest_0 20 rfl
theorem dX12_nearest_35 : decode cX12_nearest 35 = .ok (.istore_n 2, 1) := z_dk tdX12_nearest_0 21 rfl
theorem dX12_nearest_36 : decode cX12_nearest 36 = .ok (.sipush 999, 3) := z_dk tdX12_nearest_0 22 rfl
theorem dX12_nearest_39 : decode cX12_nearest 39 = .ok (.istore_n 3, 1) := z_dk tdX12_nearest_0 23 rfl
theorem tdX12_nearest_40 : (([(40, .iconst 0, 1), (41, .istore 4, 2), (43, .iload 4, 2), (45, .aload_n 0, 1), (46, .getfield 359, 3), (49, .if_icmp .ge 113, 3), (52, .iconst 0, 1), (53, .istore 5, 2), (55, .iload 5, 2), (57, .iconst 2, 1), (58, .if_icmp .ge 98, 3), (61, .aload_n 0, 1), (62, .iload 4, 2), (64, .iload 5, 2), (66, .invokevirtual 393, 3), (69, .istore 6, 2), (71, .iload 6, 2), (73, .ifCond .ne 7, 3), (76, .iconst (-1), 1), (77, .goto 11, 3), (80, .aload_n 0, 1), (81, .iload 4, 2), (83, .iload 5, 2), (85, .invokevirtual 445, 3)] : List (Nat × Instr × Nat)).all fun e => decide (decode cX12_nearest e.1 = .ok e.2)) = true := by decide +kernel
theorem dX12_nearest_40 : decode cX12_nearest 40 = .ok (.iconst 0, 1) := z_dk tdX12_nearest_40 0 rfl
theorem dX12_nearest_41 : decode cX12_nearest 41 = .ok (.istore 4, 2) := z_dk tdX12_nearest_40 1 rfl
theorem dX12_nearest_43 : decode cX12_nearest 43 = .ok (.iload 4, 2) := z_dk tdX12_nearest_40 2 rfl
theorem dX12_nearest_45 : decode cX12_nearest 45 = .ok (.aload_n 0, 1) := z_dk tdX12_nearest_40 3 rfl
theorem dX12_nearest_46 : decode cX12_nearest 46 = .ok (.getfield 359, 3) := z_dk tdX12_nearest_40 4 rfl
theorem dX12_nearest_49 : decode cX12_nearest 49 = .ok (.if_icmp .ge 113, 3) := z_dk tdX12_nearest_40 5 rfl
theorem dX12_nearest_52 : decode cX12_nearest 52 = .ok (.iconst 0, 1) := z_dk tdX12_nearest_40 6 rfl
theorem dX12_nearest_53 : decode cX12_nearest 53 = .ok (.istore 5, 2) := z_dk tdX12_nearest_40 7 rfl
theorem dX12_nearest_55 : decode cX12_nearest 55 = .ok (.iload 5, 2) := z_dk tdX12_nearest_40 8 rfl
theorem dX12_nearest_57 : decode cX12_nearest 57 = .ok (.iconst 2, 1) := z_dk tdX12_nearest_40 9 rfl
theorem dX12_nearest_58 : decode cX12_nearest 58 = .ok (.if_icmp .ge 98, 3) := z_dk tdX12_nearest_40 10 rfl
theorem dX12_nearest_61 : decode cX12_nearest 61 = .ok (.aload_n 0, 1) := z_dk tdX12_nearest_40 11 rfl
theorem dX12_nearest_62 : decode cX12_nearest 62 = .ok (.iload 4, 2) := z_dk tdX12_nearest_40 12 rfl
theorem dX12_nearest_64 : decode cX12_nearest 64 = .ok (.iload 5, 2) := z_dk tdX12_nearest_40 13 rfl
theorem dX12_nearest_66 : decode cX12_nearest 66 = .ok (.invokevirtual 393, 3) := z_dk tdX12_nearest_40 14 rfl
theorem dX12_nearest_69 : decode cX12_nearest 69 = .ok (.istore 6, 2) := z_dk tdX12_nearest_40 15 rfl
theorem dX12_nearest_71 : decode cX12_nearest 71 = .ok (.iload 6, 2) := z_dk tdX12_nearest_40 16 rfl
theorem dX12_nearest_73 : decode cX12_nearest 73 = .ok (.ifCond .ne 7, 3) := z_dk tdX12_nearest_40 17 rfl
theorem dX12_nearest_76 : decode cX12_nearest 76 = .ok (.iconst (-1), 1) := z_dk tdX12_nearest_40 18 rfl
theorem dX12_nearest_77 : decode cX12_nearest 77 = .ok (.goto 11, 3) := z_dk tdX12_nearest_40 19 rfl
theorem dX12_nearest_80 : decode cX12_nearest 80 = .ok (.aload_n 0, 1) := z_dk tdX12_nearest_40 20 rfl
theorem dX12_nearest_81 : decode cX12_nearest 81 = .ok (.iload 4, 2) := z_dk tdX12_nearest_40 21 rfl
theorem dX12_nearest_83 : decode cX12_nearest 83 = .ok (.iload 5, 2) := z_dk tdX12_nearest_40 22 rfl
theorem dX12_nearest_85 : decode cX12_nearest 85 = .ok (.invokevirtual 445, 3) := z_dk tdX12_nearest_40 23 rfl
theorem tdX12_nearest_88 : (([(88, .istore 7, 2), (90, .iload 7, 2), (92, .iconst (-1), 1), (93, .if_icmp .ne 6, 3), (96, .goto 54, 3), (99, .aload_n 0, 1), (100, .iload 7, 2), (102, .iload 5, 2), (104, .iconst 0, 1), (105, .invokevirtual 399, 3), (108, .aload_n 0, 1), (109, .iload 4, 2), (111, .iload 5, 2), (113, .iload 6, 2), (115, .iconst 1, 1), (116, .isub, 1), (117, .invokevirtual 399, 3), (120, .isub, 1), (121, .bipush 6, 2), (123, .isub, 1), (124, .istore 8, 2), (126, .iload_n 2, 1), (127, .iconst (-1), 1), (128, .if_icmp .eq 12, 3)] : List (Nat × Instr × Nat)).all fun e => decide (decode cX12_nearest e.1 = .ok e.2)) = true := by decide +kernel
theorem dX12_nearest_88 : decode cX12_nearest 88 = .ok (.istore 7, 2) := z_dk tdX12_nearest_88 0 rfl
theorem dX12_nearest_90 : decode cX12_nearest 90 = .ok (.iload 7, 2) := z_dk tdX12_nearest_88 1 rfl
theorem dX12_nearest_92 : decode cX12_nearest 92 = .ok (.iconst (-1), 1) := z_dk tdX12_nearest_88 2 rfl
theorem dX12_nearest_93 : decode cX12_nearest 93 = .ok (.if_icmp .ne 6, 3) := z_dk tdX12_nearest_88 3 rfl
theorem dX12_nearest_96 : decode cX12_nearest 96 = .ok (.goto 54, 3) := z_dk tdX12_nearest_88 4 rfl
theorem dX12_nearest_99 : decode cX12_nearest 99 = .ok (.aload_n 0, 1) := z_dk tdX12_nearest_88 5 rfl
theorem dX12_nearest_100 : decode cX12_nearest 100 = .ok (.iload 7, 2) := z_dk tdX12_nearest_88 6 rfl
theorem dX12_nearest_102 : decode cX12_nearest 102 = .ok (.iload 5, 2) := z_dk tdX12_nearest_88 7 rfl
theorem dX12_nearest_104 : decode cX12_nearest 104 = .ok (.iconst 0, 1) := z_dk tdX12_nearest_88 8 rfl
theorem dX12_nearest_105 : decode cX12_nearest 105 = .ok (.invokevirtual 399, 3) := z_dk tdX12_nearest_88 9 rfl
theorem dX12_nearest_108 : decode cX12_nearest 108 = .ok (.aload_n 0, 1) := z_dk tdX12_nearest_88 10 rfl
theorem dX12_nearest_109 : decode cX12_nearest 109 = .ok (.iload 4, 2) := z_dk tdX12_nearest_88 11 rfl
theorem dX12_nearest_111 : decode cX12_nearest 111 = .ok (.iload 5, 2) := z_dk tdX12_nearest_88 12 rfl
theorem dX12_nearest_113 : decode cX12_nearest 113 = .ok (.iload 6, 2) := z_dk tdX12_nearest_88 13 rfl
theorem dX12_nearest_115 : decode cX12_nearest 115 = .ok (.iconst 1, 1) := z_dk tdX12_nearest_88 14 rfl
theorem dX12_nearest_116 : decode cX12_nearest 116 = .ok (.isub, 1) := z_dk tdX12_nearest_88 15 rfl
theorem dX12_nearest_117 : decode cX12_nearest 117 = .ok (.invokevirtual 399, 3) := z_dk tdX12_nearest_88 16 rfl
theorem dX12_nearest_120 : decode cX12_nearest 120 = .ok (.isub, 1) := z_dk tdX12_nearest_88 17 rfl
theorem dX12_nearest_121 : decode cX12_nearest 121 = .ok (.bipush 6, 2) := z_dk tdX12_nearest_88 18 rfl
theorem dX12_nearest_123 : decode cX12_nearest 123 = .ok (.isub, 1) := z_dk tdX12_nearest_88 19 rfl
theorem dX12_nearest_124 : decode cX12_nearest 124 = .ok (.istore 8, 2) := z_dk tdX12_nearest_88 20 rfl
theorem dX12_nearest_126 : decode cX12_nearest 126 = .ok (.iload_n 2, 1) := z_dk tdX12_nearest_88 21 rfl
theorem dX12_nearest_127 : decode cX12_nearest 127 = .ok (.iconst (-1), 1) := z_dk tdX12_nearest_88 22 rfl
theorem dX12_nearest_128 : decode cX12_nearest 128 = .ok (.if_icmp .eq 12, 3) := z_dk tdX12_nearest_88 23 rfl
theorem tdX12_nearest_131 : (([(131, .iload 8, 2), (133, .iload_n 3, 1), (134, .if_icmp .lt 6, 3), (137, .goto 13, 3), (140, .aload_n 0, 1), (141, .iload 4, 2), (143, .invokevirtual 442, 3), (146, .istore_n 2, 1), (147, .iload 8, 2), (149, .istore_n 3, 1), (150, .iinc 5 1, 3), (153, .goto (-98), 3), (156, .iinc 4 1, 3), (159, .goto (-116), 3), (162, .iload_n 1, 1), (163, .ifCond .ne 7, 3), (166, .iload_n 3, 1), (167, .goto 4, 3), (170, .iload_n 2, 1), (171, .ireturn, 1)] : List (Nat × Instr × Nat)).all fun e => decide (decode cX12_nearest e.1 = .ok e.2)) = true := by decide +kernel
theorem dX12_nearest_131 : decode cX12_nearest 131 = .ok (.iload 8, 2) := z_dk tdX12_nearest_131 0 rfl
theorem dX12_nearest_133 : decode cX12_nearest 133 = .ok (.iload_n 3, 1) := z_dk tdX12_nearest_131 1 rfl
theorem dX12_nearest_134 : decode cX12_nearest 134 = .ok (.if_icmp .lt 6, 3) := z_dk tdX12_nearest_131 2 rfl
theorem dX12_nearest_137 : decode cX12_nearest 137 = .ok (.goto 13, 3) := z_dk tdX12_nearest_131 3 rfl
theorem dX12_nearest_140 : decode cX12_nearest 140 = .ok (.aload_n 0, 1) := z_dk tdX12_nearest_131 4 rfl
theorem dX12_nearest_141 : decode cX12_nearest 141 = .ok (.iload 4, 2) := z_dk tdX12_nearest_131 5 rfl
theorem dX12_nearest_143 : decode cX12_nearest 143 = .ok (.invokevirtual 442, 3) := z_dk tdX12_nearest_131 6 rfl
theorem dX12_nearest_146 : decode cX12_nearest 146 = .ok (.istore_n 2, 1) := z_dk tdX12_nearest_131 7 rfl
theorem dX12_nearest_147 : decode cX12_nearest 147 = .ok (.iload 8, 2) := z_dk tdX12_nearest_131 8 rfl
theorem dX12_nearest_149 : decode cX12_nearest 149 = .ok (.istore_n 3, 1) := z_dk tdX12_nearest_131 9 rfl
theorem dX12_nearest_150 : decode cX12_nearest 150 = .ok (.iinc 5 1, 3) := z_dk tdX12_nearest_131 10 rfl
theorem dX12_nearest_153 : decode cX12_nearest 153 = .ok (.goto (-98), 3) := z_dk tdX12_nearest_131 11 rfl
theorem dX12_nearest_156 : decode cX12_nearest 156 = .ok (.iinc 4 1, 3) := z_dk tdX12_nearest_131 12 rfl
theorem dX12_nearest_159 : decode cX12_nearest 159 = .ok (.goto (-116), 3) := z_dk tdX12_nearest_131 13 rfl
theorem dX12_nearest_162 : decode cX12_nearest 162 = .ok (.iload_n 1, 1) := z_dk tdX12_nearest_131 14 rfl
theorem dX12_nearest_163 : decode cX12_nearest 163 = .ok (.ifCond .ne 7, 3) := z_dk tdX12_nearest_131 15 rfl
theorem dX12_nearest_166 : decode cX12_nearest 166 = .ok (.iload_n 3, 1) := z_dk tdX12_nearest_131 16 rfl
theorem dX12_nearest_167 : decode cX12_nearest 167 = .ok (.goto 4, 3) := z_dk tdX12_nearest_131 17 rfl
theorem dX12_nearest_170 : decode cX12_nearest 170 = .ok (.iload_n 2, 1) := z_dk tdX12_nearest_131 18 rfl
theorem dX12_nearest_171 : decode cX12_nearest 171 = .ok (.ireturn, 1) := z_dk tdX12_nearest_131 19 rfl
theorem tdX12_cut_0 : (([(0, .aload_n 0, 1), (1, .iconst 0, 1), (2, .putfield 170, 3), (5, .aload_n 0, 1), (6, .aload_n 0, 1), (7, .iload_n 1, 1), (8, .invokevirtual 384, 3), (11, .ifCond .eq 11, 3), (14, .aload_n 0, 1), (15, .iload_n 2, 1), (16, .invokevirtual 384, 3), (19, .ifCond .ne 7, 3), (22, .iconst 1, 1), (23, .goto 4, 3), (26, .iconst 0, 1), (27, .iconst 1, 1), (28, .iconst 0, 1), (29, .invokevirtual 249, 3), (32, .ifCond .ne 22, 3), (35, .aload_n 0, 1), (36, .iload_n 2, 1), (37, .iload_n 1, 1), (38, .if_icmp .ge 7, 3), (41, .iconst 1, 1)] : List (Nat × Instr × Nat)).all fun e => decide (decode cX12_cut e.1 = .ok e.2)) = true := by decide +kernel
theorem dX12_cut_0 : decode cX12_cut 0 = .ok (.aload_n 0, 1) := z_dk tdX12_cut_0 0 rfl
theorem dX12_cut_1 : decode cX12_cut 1 = .ok (.iconst 0, 1) := z_dk tdX12_cut_0 1 rfl
theorem dX12_cut_2 : decode cX12_cut 2 = .ok (.putfield 170, 3) := z_dk tdX12_cut_0 2 rfl
theorem dX12_cut_5 : decode cX12_cut 5 = .ok (.aload_n 0, 1) := z_dk tdX12_cut_0 3 rfl
theorem dX12_cut_6 : decode cX12_cut 6 = .ok (.aload_n 0, 1) := z_dk tdX12_cut_0 4 rfl
theorem dX12_cut_7 : decode cX12_cut 7 = .ok (.iload_n 1, 1) := z_dk tdX12_cut_0 5 rfl
theorem dX12_cut_8 : decode cX12_cut 8 = .ok (.invokevirtual 384, 3) := z_dk tdX12_cut_0 6 rfl
theorem dX12_cut_11 : decode cX12_cut 11 = .ok (.ifCond .eq 11, 3) := z_dk tdX12_cut_0 7 rfl
theorem dX12_cut_14 : decode cX12_cut 14 = .ok (.aload_n 0, 1) := z_dk tdX12_cut_0 8 rfl
theorem dX12_cut_15 : decode cX12_cut 15 = .ok (.iload_n 2, 1) := z_dk tdX12_cut_0 9 rfl
theorem dX12_cut_16 : decode cX12_cut 16 = .ok (.invokevirtual 384, 3) := z_dk tdX12_cut_0 10 rfl
theorem dX12_cut_19 : decode cX12_cut 19 = .ok (.ifCond .ne 7, 3) := z_dk tdX12_cut_0 11 rfl
theorem dX12_cut_22 : decode cX12_cut 22 = .ok (.iconst 1, 1) := z_dk tdX12_cut_0 12 rfl
theorem dX12_cut_23 : decode cX12_cut 23 = .ok (.goto 4, 3) := z_dk tdX12_cut_0 13 rfl
theorem dX12_cut_26 : decode cX12_cut 26 = .ok (.iconst 0, 1) := z_dk tdX12_cut_0 14 rfl
theorem dX12_cut_27 : decode cX12_cut 27 = .ok (.iconst 1, 1) := z_dk tdX12_cut_0 15 rfl
theorem dX12_cut_28 : decode cX12_cut 28 = .ok (.iconst 0, 1) := z_dk tdX12_cut_0 16 rfl
theorem dX12_cut_29 : decode cX12_cut 29 = .ok (.invokevirtual 249, 3) := z_dk tdX12_cut_0 17 rfl
theorem dX12_cut_32 : decode cX12_cut 32 = .ok (.ifCond .ne 22, 3) := z_dk tdX12_cut_0 18 rfl
theorem dX12_cut_35 : decode cX12_cut 35 = .ok (.aload_n 0, 1) := z_dk tdX12_cut_0 19 rfl
theorem dX12_cut_36 : decode cX12_cut 36 = .ok (.iload_n 2, 1) := z_dk tdX12_cut_0 20 rfl
theorem dX12_cut_37 : decode cX12_cut 37 = .ok (.iload_n 1, 1) := z_dk tdX12_cut_0 21 rfl
theorem dX12_cut_38 : decode cX12_cut 38 = .ok (.if_icmp .ge 7, 3) := z_dk tdX12_cut_0 22 rfl
theorem dX12_cut_41 : decode cX12_cut 41 = .ok (.iconst 1, 1) := z_dk tdX12_cut_0 23 rfl
theorem tdX12_cut_42 : (([(42, .goto 4, 3), (45, .iconst 0, 1), (46, .iconst 2, 1), (47, .iconst 1, 1), (48, .invokevirtual 249, 3), (51, .ifCond .eq 5, 3), (54, .iconst 0, 1), (55, .ireturn, 1), (56, .aload_n 0, 1), (57, .iconst 0, 1), (58, .bipush 13, 2), (60, .invokevirtual 230, 3), (63, .aload_n 0, 1), (64, .getfield 57, 3), (67, .iload_n 1, 1), (68, .iaload, 1), (69, .istore_n 3, 1), (70, .aload_n 0, 1), (71, .getfield 57, 3), (74, .iload_n 2, 1), (75, .iaload, 1), (76, .aload_n 0, 1), (77, .getfield 60, 3), (80, .iload_n 2, 1)] : List (Nat × Instr × Nat)).all fun e => decide (decode cX12_cut e.1 = .ok e.2)) = true := by decide +kernel
theorem dX12_cut_42 : decode cX12_cut 42 = .ok (.goto 4, 3) := z_dk tdX12_cut_42 0 rfl
theorem dX12_cut_45 : decode cX12_cut 45 = .ok (.iconst 0, 1) := z_dk tdX12_cut_42 1 rfl
theorem dX12_cut_46 : decode cX12_cut 46 = .ok (.iconst 2, 1) := z_dk tdX12_cut_42 2 rfl
theorem dX12_cut_47 : decode cX12_cut 47 = .ok (.iconst 1, 1) := z_dk tdX12_cut_42 3 rfl
theorem dX12_cut_48 : decode cX12_cut 48 = .ok (.invokevirtual 249, 3) := z_dk tdX12_cut_42 4 rfl
theorem dX12_cut_51 : decode cX12_cut 51 = .ok (.ifCond .eq 5, 3) := z_dk tdX12_cut_42 5 rfl
theorem dX12_cut_54 : decode cX12_cut 54 = .ok (.iconst 0, 1) := z_dk tdX12_cut_42 6 rfl
theorem dX12_cut_55 : decode cX12_cut 55 = .ok (.ireturn, 1) := z_dk tdX12_cut_42 7 rfl
theorem dX12_cut_56 : decode cX12_cut 56 = .ok (.aload_n 0, 1) := z_dk tdX12_cut_42 8 rfl
theorem dX12_cut_57 : decode cX12_cut 57 = .ok (.iconst 0, 1) := z_dk tdX12_cut_42 9 rfl
theorem dX12_cut_58 : decode cX12_cut 58 = .ok (.bipush 13, 2) := z_dk tdX12_cut_42 10 rfl
theorem dX12_cut_60 : decode cX12_cut 60 = .ok (.invokevirtual 230, 3) := z_dk tdX12_cut_42 11 rfl
theorem dX12_cut_63 : decode cX12_cut 63 = .ok (.aload_n 0, 1) := z_dk tdX12_cut_42 12 rfl
theorem dX12_cut_64 : decode cX12_cut 64 = .ok (.getfield 57, 3) := z_dk tdX12_cut_42 13 rfl
theorem dX12_cut_67 : decode cX12_cut 67 = .ok (.iload_n 1, 1) := z_dk tdX12_cut_42 14 rfl
theorem dX12_cut_68 : decode cX12_cut 68 = .ok (.iaload, 1) := z_dk tdX12_cut_42 15 rfl
theorem dX12_cut_69 : decode cX12_cut 69 = .ok (.istore_n 3, 1) := z_dk tdX12_cut_42 16 rfl
theorem dX12_cut_70 : decode cX12_cut 70 = .ok (.aload_n 0, 1) := z_dk tdX12_cut_42 17 rfl
theorem dX12_cut_71 : decode cX12_cut 71 = .ok (.getfield 57, 3) := z_dk tdX12_cut_42 18 rfl
theorem dX12_cut_74 : decode cX12_cut 74 = .ok (.iload_n 2, 1) := z_dk tdX12_cut_42 19 rfl
theorem dX12_cut_75 : decode cX12_cut 75 = .ok (.iaload, 1) := z_dk tdX12_cut_42 20 rfl
theorem dX12_cut_76 : decode cX12_cut 76 = .ok (.aload_n 0, 1) := z_dk tdX12_cut_42 21 rfl
theorem dX12_cut_77 : decode cX12_cut 77 = .ok (.getfield 60, 3) := z_dk tdX12_cut_42 22 rfl
theorem dX12_cut_80 : decode cX12_cut 80 = .ok (.iload_n 2, 1) := z_dk tdX12_cut_42 23 rfl
theorem tdX12_cut_81 : (([(81, .iaload, 1), (82, .iadd, 1), (83, .istore 4, 2), (85, .iconst 0, 1), (86, .istore 5, 2), (88, .iconst 0, 1), (89, .istore 6, 2), (91, .iconst (-1), 1), (92, .istore 7, 2), (94, .iconst (-1), 1), (95, .istore 8, 2), (97, .iconst 0, 1), (98, .istore 9, 2), (100, .iload 9, 2), (102, .sipush 200, 3), (105, .if_icmp .ge 17, 3), (108, .aload_n 0, 1), (109, .getfield 167, 3), (112, .iload 9, 2), (114, .iconst (-1), 1), (115, .iastore, 1), (116, .iinc 9 1, 3), (119, .goto (-19), 3), (122, .iconst 0, 1)] : List (Nat × Instr × Nat)).all fun e => decide (decode cX12_cut e.1 = .ok e.2)) = true := by decide +kernel
theorem dX12_cut_81 : decode cX12_cut 81 = .ok (.iaload, 1) := z_dk tdX12_cut_81 0 rfl
theorem dX12_cut_82 : decode cX12_cut 82 = .ok (.iadd, 1) := z_dk tdX12_cut_81 1 rfl
theorem dX12_cut_83 : decode cX12_cut 83 = .ok (.istore 4, 2) := z_dk tdX12_cut_81 2 rfl
theorem dX12_cut_85 : decode cX12_cut 85 = .ok (.iconst 0, 1) := z_dk tdX12_cut_81 3 rfl
theorem dX12_cut_86 : decode cX12_cut 86 = .ok (.istore 5, 2) := z_dk tdX12_cut_81 4 rfl
theorem dX12_cut_88 : decode cX12_cut 88 = .ok (.iconst 0, 1) := z_dk tdX12_cut_81 5 rfl
theorem dX12_cut_89 : decode cX12_cut 89 = .ok (.istore 6, 2) := z_dk tdX12_cut_81 6 rfl
theorem dX12_cut_91 : decode cX12_cut 91 = .ok (.iconst (-1), 1) := z_dk tdX12_cut_81 7 rfl
theorem dX12_cut_92 : decode cX12_cut 92 = .ok (.istore 7, 2) := z_dk tdX12_cut_81 8 rfl
theorem dX12_cut_94 : decode cX12_cut 94 = .ok (.iconst (-1), 1) := z_dk tdX12_cut_81 9 rfl
theorem dX12_cut_95 : decode cX12_cut 95 = .ok (.istore 8, 2) := z_dk tdX12_cut_81 10 rfl
theorem dX12_cut_97 : decode cX12_cut 97 = .ok (.iconst 0, 1) := z_dk tdX12_cut_81 11 rfl
theorem dX12_cut_98 : decode cX12_cut 98 = .ok (.istore 9, 2) := z_dk tdX12_cut_81 12 rfl
theorem dX12_cut_100 : decode cX12_cut 100 = .ok (.iload 9, 2) := z_dk tdX12_cut_81 13 rfl
theorem dX12_cut_102 : decode cX12_cut 102 = .ok (.sipush 200, 3) := z_dk tdX12_cut_81 14 rfl
theorem dX12_cut_105 : decode cX12_cut 105 = .ok (.if_icmp .ge 17, 3) := z_dk tdX12_cut_81 15 rfl
theorem dX12_cut_108 : decode cX12_cut 108 = .ok (.aload_n 0, 1) := z_dk tdX12_cut_81 16 rfl
theorem dX12_cut_109 : decode cX12_cut 109 = .ok (.getfield 167, 3) := z_dk tdX12_cut_81 17 rfl
theorem dX12_cut_112 : decode cX12_cut 112 = .ok (.iload 9, 2) := z_dk tdX12_cut_81 18 rfl
theorem dX12_cut_114 : decode cX12_cut 114 = .ok (.iconst (-1), 1) := z_dk tdX12_cut_81 19 rfl
theorem dX12_cut_115 : decode cX12_cut 115 = .ok (.iastore, 1) := z_dk tdX12_cut_81 20 rfl
theorem dX12_cut_116 : decode cX12_cut 116 = .ok (.iinc 9 1, 3) := z_dk tdX12_cut_81 21 rfl
theorem dX12_cut_119 : decode cX12_cut 119 = .ok (.goto (-19), 3) := z_dk tdX12_cut_81 22 rfl
theorem dX12_cut_122 : decode cX12_cut 122 = .ok (.iconst 0, 1) := z_dk tdX12_cut_81 23 rfl
theorem tdX12_cut_123 : (([(123, .istore 9, 2), (125, .iload 9, 2), (127, .aload_n 0, 1), (128, .getfield 31, 3), (131, .iconst 0, 1), (132, .aaload, 1), (133, .iconst 0, 1), (134, .iaload, 1), (135, .if_icmp .ge 240, 3), (138, .iload 9, 2), (140, .iload_n 3, 1), (141, .if_icmp .lt 13, 3), (144, .iload 9, 2), (146, .iload 4, 2), (148, .if_icmp .ge 6, 3), (151, .goto 218, 3), (154, .aload_n 0, 1), (155, .getfield 40, 3), (158, .iconst 0, 1), (159, .aaload, 1), (160, .iload 9, 2), (162, .iaload, 1), (163, .istore 10, 2), (165, .iload 10, 2)] : List (Nat × Instr × Nat)).all fun e => decide (decode cX12_cut e.1 = .ok e.2)) = true := by decide +kernel
theorem dX12_cut_123 : decode cX12_cut 123 = .ok (.istore 9, 2) := z_dk tdX12_cut_123 0 rfl
theorem dX12_cut_125 : decode cX12_cut 125 = .ok (.iload 9, 2) := z_dk tdX12_cut_123 1 rfl
theorem dX12_cut_127 : decode cX12_cut 127 = .ok (.aload_n 0, 1) := z_dk tdX12_cut_123 2 rfl
theorem dX12_cut_128 : decode cX12_cut 128 = .ok (.getfield 31, 3) := z_dk tdX12_cut_123 3 rfl
theorem dX12_cut_131 : decode cX12_cut 131 = .ok (.iconst 0, 1) := z_dk tdX12_cut_123 4 rfl
theorem dX12_cut_132 : decode cX12_cut 132 = .ok (.aaload, 1) := z_dk tdX12_cut_123 5 rfl
theorem dX12_cut_133 : decode cX12_cut 133 = .ok (.iconst 0, 1) := z_dk tdX12_cut_123 6 rfl
theorem dX12_cut_134 : decode cX12_cut 134 = .ok (.iaload, 1) := z_dk tdX12_cut_123 7 rfl
theorem dX12_cut_135 : decode cX12_cut 135 = .ok (.if_icmp .ge 240, 3) := z_dk tdX12_cut_123 8 rfl
theorem dX12_cut_138 : decode cX12_cut 138 = .ok (.iload 9, 2) := z_dk tdX12_cut_123 9 rfl
theorem dX12_cut_140 : decode cX12_cut 140 = .ok (.iload_n 3, 1) := z_dk tdX12_cut_123 10 rfl
theorem dX12_cut_141 : decode cX12_cut 141 = .ok (.if_icmp .lt 13, 3) := z_dk tdX12_cut_123 11 rfl
theorem dX12_cut_144 : decode cX12_cut 144 = .ok (.iload 9, 2) := z_dk tdX12_cut_123 12 rfl
theorem dX12_cut_146 : decode cX12_cut 146 = .ok (.iload 4, 2) := z_dk tdX12_cut_123 13 rfl
theorem dX12_cut_148 : decode cX12_cut 148 = .ok (.if_icmp .ge 6, 3) := z_dk tdX12_cut_123 14 rfl
theorem dX12_cut_151 : decode cX12_cut 151 = .ok (.goto 218, 3) := z_dk tdX12_cut_123 15 rfl
theorem dX12_cut_154 : decode cX12_cut 154 = .ok (.aload_n 0, 1) := z_dk tdX12_cut_123 16 rfl
theorem dX12_cut_155 : decode cX12_cut 155 = .ok (.getfield 40, 3) := z_dk tdX12_cut_123 17 rfl
theorem dX12_cut_158 : decode cX12_cut 158 = .ok (.iconst 0, 1) := z_dk tdX12_cut_123 18 rfl
theorem dX12_cut_159 : decode cX12_cut 159 = .ok (.aaload, 1) := z_dk tdX12_cut_123 19 rfl
theorem dX12_cut_160 : decode cX12_cut 160 = .ok (.iload 9, 2) := z_dk tdX12_cut_123 20 rfl
theorem dX12_cut_162 : decode cX12_cut 162 = .ok (.iaload, 1) := z_dk tdX12_cut_123 21 rfl
theorem dX12_cut_163 : decode cX12_cut 163 = .ok (.istore 10, 2) := z_dk tdX12_cut_123 22 rfl
theorem dX12_cut_165 : decode cX12_cut 165 = .ok (.iload 10, 2) := z_dk tdX12_cut_123 23 rfl
theorem tdX12_cut_167 : (([(167, .iconst (-1), 1), (168, .if_icmp .eq 114, 3), (171, .aload_n 0, 1), (172, .getfield 167, 3), (175, .iload 10, 2), (177, .iaload, 1), (178, .iconst (-1), 1), (179, .if_icmp .ne 103, 3), (182, .aload_n 0, 1), (183, .getfield 167, 3), (186, .iload 10, 2), (188, .iload 6, 2), (190, .iastore, 1), (191, .iload 7, 2), (193, .aload_n 0, 1), (194, .getfield 46, 3), (197, .iconst 0, 1), (198, .aaload, 1), (199, .iload 10, 2), (201, .iaload, 1), (202, .iload 8, 2), (204, .if_icmp .ne 7, 3), (207, .iconst 0, 1), (208, .goto 4, 3)] : List (Nat × Instr × Nat)).all fun e => decide (decode cX12_cut e.1 = .ok e.2)) = true := by decide +kernel
theorem dX12_cut_167 : decode cX12_cut 167 = .ok (.iconst (-1), 1) := z_dk tdX12_cut_167 0 rfl
theorem dX12_cut_168 : decode cX12_cut 168 = .ok (.if_icmp .eq 114, 3) := z_dk tdX12_cut_167 1 rfl
theorem dX12_cut_171 : decode cX12_cut 171 = .ok (.aload_n 0, 1) := z_dk tdX12_cut_167 2 rfl
theorem dX12_cut_172 : decode cX12_cut 172 = .ok (.getfield 167, 3) := z_dk tdX12_cut_167 3 rfl
theorem dX12_cut_175 : decode cX12_cut 175 = .ok (.iload 10, 2) := z_dk tdX12_cut_167 4 rfl
theorem dX12_cut_177 : decode cX12_cut 177 = .ok (.iaload, 1) := z_dk tdX12_cut_167 5 rfl
theorem dX12_cut_178 : decode cX12_cut 178 = .ok (.iconst (-1), 1) := z_dk tdX12_cut_167 6 rfl
theorem dX12_cut_179 : decode cX12_cut 179 = .ok (.if_icmp .ne 103, 3) := z_dk tdX12_cut_167 7 rfl
theorem dX12_cut_182 : decode cX12_cut 182 = .ok (.aload_n 0, 1) := z_dk tdX12_cut_167 8 rfl
theorem dX12_cut_183 : decode cX12_cut 183 = .ok (.getfield 167, 3) := z_dk tdX12_cut_167 9 rfl
theorem dX12_cut_186 : decode cX12_cut 186 = .ok (.iload 10, 2) := z_dk tdX12_cut_167 10 rfl
theorem dX12_cut_188 : decode cX12_cut 188 = .ok (.iload 6, 2) := z_dk tdX12_cut_167 11 rfl
theorem dX12_cut_190 : decode cX12_cut 190 = .ok (.iastore, 1) := z_dk tdX12_cut_167 12 rfl
theorem dX12_cut_191 : decode cX12_cut 191 = .ok (.iload 7, 2) := z_dk tdX12_cut_167 13 rfl
theorem dX12_cut_193 : decode cX12_cut 193 = .ok (.aload_n 0, 1) := z_dk tdX12_cut_167 14 rfl
theorem dX12_cut_194 : decode cX12_cut 194 = .ok (.getfield 46, 3) := z_dk tdX12_cut_167 15 rfl
theorem dX12_cut_197 : decode cX12_cut 197 = .ok (.iconst 0, 1) := z_dk tdX12_cut_167 16 rfl
theorem dX12_cut_198 : decode cX12_cut 198 = .ok (.aaload, 1) := z_dk tdX12_cut_167 17 rfl
theorem dX12_cut_199 : decode cX12_cut 199 = .ok (.iload 10, 2) := z_dk tdX12_cut_167 18 rfl
theorem dX12_cut_201 : decode cX12_cut 201 = .ok (.iaload, 1) := z_dk tdX12_cut_167 19 rfl
theorem dX12_cut_202 : decode cX12_cut 202 = .ok (.iload 8, 2) := z_dk tdX12_cut_167 20 rfl
theorem dX12_cut_204 : decode cX12_cut 204 = .ok (.if_icmp .ne 7, 3) := z_dk tdX12_cut_167 21 rfl
theorem dX12_cut_207 : decode cX12_cut 207 = .ok (.iconst 0, 1) := z_dk tdX12_cut_167 22 rfl
theorem dX12_cut_208 : decode cX12_cut 208 = .ok (.goto 4, 3) := z_dk tdX12_cut_167 23 rfl
theorem tdX12_cut_211 : (([(211, .iconst 1, 1), (212, .iadd, 1), (213, .istore 7, 2), (215, .aload_n 0, 1), (216, .getfield 46, 3), (219, .iconst 0, 1), (220, .aaload, 1), (221, .iload 10, 2), (223, .iaload, 1), (224, .istore 8, 2), (226, .aload_n 0, 1), (227, .getfield 46, 3), (230, .bipush 13, 2), (232, .aaload, 1), (233, .iload 6, 2), (235, .iload 7, 2), (237, .iastore, 1), (238, .iconst 0, 1), (239, .istore 11, 2), (241, .iload 11, 2), (243, .bipush 20, 2), (245, .if_icmp .ge 34, 3), (248, .aload_n 0, 1), (249, .getfield 51, 3)] : List (Nat × Instr × Nat)).all fun e => decide (decode cX12_cut e.1 = .ok e.2)) = true := by decide +kernel
theorem dX12_cut_211 : decode cX12_cut 211 = .ok (.iconst 1, 1) := z_dk tdX12_cut_211 0 rfl
theorem dX12_cut_212 : decode cX12_cut 212 = .ok (.iadd, 1) := z_dk tdX12_cut_211 1 rfl
theorem dX12_cut_213 : decode cX12_cut 213 = .ok (.istore 7, 2) := z_dk tdX12_cut_211 2 rfl
theorem dX12_cut_215 : decode cX12_cut 215 = .ok (.aload_n 0, 1) := z_dk tdX12_cut_211 3 rfl
theorem dX12_cut_216 : decode cX12_cut 216 = .ok (.getfield 46, 3) := z_dk tdX12_cut_211 4 rfl
theorem dX12_cut_219 : decode cX12_cut 219 = .ok (.iconst 0, 1) := z_dk tdX12_cut_211 5 rfl
theorem dX12_cut_220 : decode cX12_cut 220 = .ok (.aaload, 1) := z_dk tdX12_cut_211 6 rfl
theorem dX12_cut_221 : decode cX12_cut 221 = .ok (.iload 10, 2) := z_dk tdX12_cut_211 7 rfl
theorem dX12_cut_223 : decode cX12_cut 223 = .ok (.iaload, 1) := z_dk tdX12_cut_211 8 rfl
theorem dX12_cut_224 : decode cX12_cut 224 = .ok (.istore 8, 2) := z_dk tdX12_cut_211 9 rfl
theorem dX12_cut_226 : decode cX12_cut 226 = .ok (.aload_n 0, 1) := z_dk tdX12_cut_211 10 rfl
theorem dX12_cut_227 : decode cX12_cut 227 = .ok (.getfield 46, 3) := z_dk tdX12_cut_211 11 rfl
theorem dX12_cut_230 : decode cX12_cut 230 = .ok (.bipush 13, 2) := z_dk tdX12_cut_211 12 rfl
theorem dX12_cut_232 : decode cX12_cut 232 = .ok (.aaload, 1) := z_dk tdX12_cut_211 13 rfl
theorem dX12_cut_233 : decode cX12_cut 233 = .ok (.iload 6, 2) := z_dk tdX12_cut_211 14 rfl
theorem dX12_cut_235 : decode cX12_cut 235 = .ok (.iload 7, 2) := z_dk tdX12_cut_211 15 rfl
theorem dX12_cut_237 : decode cX12_cut 237 = .ok (.iastore, 1) := z_dk tdX12_cut_211 16 rfl
theorem dX12_cut_238 : decode cX12_cut 238 = .ok (.iconst 0, 1) := z_dk tdX12_cut_211 17 rfl
theorem dX12_cut_239 : decode cX12_cut 239 = .ok (.istore 11, 2) := z_dk tdX12_cut_211 18 rfl
theorem dX12_cut_241 : decode cX12_cut 241 = .ok (.iload 11, 2) := z_dk tdX12_cut_211 19 rfl
theorem dX12_cut_243 : decode cX12_cut 243 = .ok (.bipush 20, 2) := z_dk tdX12_cut_211 20 rfl
theorem dX12_cut_245 : decode cX12_cut 245 = .ok (.if_icmp .ge 34, 3) := z_dk tdX12_cut_211 21 rfl
theorem dX12_cut_248 : decode cX12_cut 248 = .ok (.aload_n 0, 1) := z_dk tdX12_cut_211 22 rfl
theorem dX12_cut_249 : decode cX12_cut 249 = .ok (.getfield 51, 3) := z_dk tdX12_cut_211 23 rfl
theorem tdX12_cut_252 : (([(252, .bipush 13, 2), (254, .aaload, 1), (255, .iload 6, 2), (257, .aaload, 1), (258, .iload 11, 2), (260, .aload_n 0, 1), (261, .getfield 51, 3), (264, .iconst 0, 1), (265, .aaload, 1), (266, .iload 10, 2), (268, .aaload, 1), (269, .iload 11, 2), (271, .iaload, 1), (272, .iastore, 1), (273, .iinc 11 1, 3), (276, .goto (-35), 3), (279, .iinc 6 1, 3), (282, .aload_n 0, 1), (283, .getfield 34, 3), (286, .bipush 13, 2), (288, .aaload, 1), (289, .iload 5, 2), (291, .aload_n 0, 1), (292, .getfield 34, 3)] : List (Nat × Instr × Nat)).all fun e => decide (decode cX12_cut e.1 = .ok e.2)) = true := by decide +kernel
theorem dX12_cut_252 : decode cX12_cut 252 = .ok (.bipush 13, 2) := z_dk tdX12_cut_252 0 rfl
theorem dX12_cut_254 : decode cX12_cut 254 = .ok (.aaload, 1) := z_dk tdX12_cut_252 1 rfl
theorem dX12_cut_255 : decode cX12_cut 255 = .ok (.iload 6, 2) := z_dk tdX12_cut_252 2 rfl
theorem dX12_cut_257 : decode cX12_cut 257 = .ok (.aaload, 1) := z_dk tdX12_cut_252 3 rfl
theorem dX12_cut_258 : decode cX12_cut 258 = .ok (.iload 11, 2) := z_dk tdX12_cut_252 4 rfl
theorem dX12_cut_260 : decode cX12_cut 260 = .ok (.aload_n 0, 1) := z_dk tdX12_cut_252 5 rfl
theorem dX12_cut_261 : decode cX12_cut 261 = .ok (.getfield 51, 3) := z_dk tdX12_cut_252 6 rfl
theorem dX12_cut_264 : decode cX12_cut 264 = .ok (.iconst 0, 1) := z_dk tdX12_cut_252 7 rfl
theorem dX12_cut_265 : decode cX12_cut 265 = .ok (.aaload, 1) := z_dk tdX12_cut_252 8 rfl
theorem dX12_cut_266 : decode cX12_cut 266 = .ok (.iload 10, 2) := z_dk tdX12_cut_252 9 rfl
theorem dX12_cut_268 : decode cX12_cut 268 = .ok (.aaload, 1) := z_dk tdX12_cut_252 10 rfl
theorem dX12_cut_269 : decode cX12_cut 269 = .ok (.iload 11, 2) := z_dk tdX12_cut_252 11 rfl
theorem dX12_cut_271 : decode cX12_cut 271 = .ok (.iaload, 1) := z_dk tdX12_cut_252 12 rfl
theorem dX12_cut_272 : decode cX12_cut 272 = .ok (.iastore, 1) := z_dk tdX12_cut_252 13 rfl
theorem dX12_cut_273 : decode cX12_cut 273 = .ok (.iinc 11 1, 3) := z_dk tdX12_cut_252 14 rfl
theorem dX12_cut_276 : decode cX12_cut 276 = .ok (.goto (-35), 3) := z_dk tdX12_cut_252 15 rfl
theorem dX12_cut_279 : decode cX12_cut 279 = .ok (.iinc 6 1, 3) := z_dk tdX12_cut_252 16 rfl
theorem dX12_cut_282 : decode cX12_cut 282 = .ok (.aload_n 0, 1) := z_dk tdX12_cut_252 17 rfl
theorem dX12_cut_283 : decode cX12_cut 283 = .ok (.getfield 34, 3) := z_dk tdX12_cut_252 18 rfl
theorem dX12_cut_286 : decode cX12_cut 286 = .ok (.bipush 13, 2) := z_dk tdX12_cut_252 19 rfl
theorem dX12_cut_288 : decode cX12_cut 288 = .ok (.aaload, 1) := z_dk tdX12_cut_252 20 rfl
theorem dX12_cut_289 : decode cX12_cut 289 = .ok (.iload 5, 2) := z_dk tdX12_cut_252 21 rfl
theorem dX12_cut_291 : decode cX12_cut 291 = .ok (.aload_n 0, 1) := z_dk tdX12_cut_252 22 rfl
theorem dX12_cut_292 : decode cX12_cut 292 = .ok (.getfield 34, 3) := z_dk tdX12_cut_252 23 rfl
theorem tdX12_cut_295 : (([(295, .iconst 0, 1), (296, .aaload, 1), (297, .iload 9, 2), (299, .iaload, 1), (300, .iastore, 1), (301, .aload_n 0, 1), (302, .getfield 37, 3), (305, .bipush 13, 2), (307, .aaload, 1), (308, .iload 5, 2), (310, .aload_n 0, 1), (311, .getfield 37, 3), (314, .iconst 0, 1), (315, .aaload, 1), (316, .iload 9, 2), (318, .iaload, 1), (319, .iastore, 1), (320, .aload_n 0, 1), (321, .getfield 40, 3), (324, .bipush 13, 2), (326, .aaload, 1), (327, .iload 5, 2), (329, .iload 10, 2), (331, .iconst (-1), 1)] : List (Nat × Instr × Nat)).all fun e => decide (decode cX12_cut e.1 = .ok e.2)) = true := by decide +kernel
theorem dX12_cut_295 : decode cX12_cut 295 = .ok (.iconst 0, 1) := z_dk tdX12_cut_295 0 rfl
theorem dX12_cut_296 : decode cX12_cut 296 = .ok (.aaload, 1) := z_dk tdX12_cut_295 1 rfl
theorem dX12_cut_297 : decode cX12_cut 297 = .ok (.iload 9, 2) := z_dk tdX12_cut_295 2 rfl
theorem dX12_cut_299 : decode cX12_cut 299 = .ok (.iaload, 1) := z_dk tdX12_cut_295 3 rfl
theorem dX12_cut_300 : decode cX12_cut 300 = .ok (.iastore, 1) := z_dk tdX12_cut_295 4 rfl
theorem dX12_cut_301 : decode cX12_cut 301 = .ok (.aload_n 0, 1) := z_dk tdX12_cut_295 5 rfl
theorem dX12_cut_302 : decode cX12_cut 302 = .ok (.getfield 37, 3) := z_dk tdX12_cut_295 6 rfl
theorem dX12_cut_305 : decode cX12_cut 305 = .ok (.bipush 13, 2) := z_dk tdX12_cut_295 7 rfl
theorem dX12_cut_307 : decode cX12_cut 307 = .ok (.aaload, 1) := z_dk tdX12_cut_295 8 rfl
theorem dX12_cut_308 : decode cX12_cut 308 = .ok (.iload 5, 2) := z_dk tdX12_cut_295 9 rfl
theorem dX12_cut_310 : decode cX12_cut 310 = .ok (.aload_n 0, 1) := z_dk tdX12_cut_295 10 rfl
theorem dX12_cut_311 : decode cX12_cut 311 = .ok (.getfield 37, 3) := z_dk tdX12_cut_295 11 rfl
theorem dX12_cut_314 : decode cX12_cut 314 = .ok (.iconst 0, 1) := z_dk tdX12_cut_295 12 rfl
theorem dX12_cut_315 : decode cX12_cut 315 = .ok (.aaload, 1) := z_dk tdX12_cut_295 13 rfl
theorem dX12_cut_316 : decode cX12_cut 316 = .ok (.iload 9, 2) := z_dk tdX12_cut_295 14 rfl
theorem dX12_cut_318 : decode cX12_cut 318 = .ok (.iaload, 1) := z_dk tdX12_cut_295 15 rfl
theorem dX12_cut_319 : decode cX12_cut 319 = .ok (.iastore, 1) := z_dk tdX12_cut_295 16 rfl
theorem dX12_cut_320 : decode cX12_cut 320 = .ok (.aload_n 0, 1) := z_dk tdX12_cut_295 17 rfl
theorem dX12_cut_321 : decode cX12_cut 321 = .ok (.getfield 40, 3) := z_dk tdX12_cut_295 18 rfl
theorem dX12_cut_324 : decode cX12_cut 324 = .ok (.bipush 13, 2) := z_dk tdX12_cut_295 19 rfl
theorem dX12_cut_326 : decode cX12_cut 326 = .ok (.aaload, 1) := z_dk tdX12_cut_295 20 rfl
theorem dX12_cut_327 : decode cX12_cut 327 = .ok (.iload 5, 2) := z_dk tdX12_cut_295 21 rfl
theorem dX12_cut_329 : decode cX12_cut 329 = .ok (.iload 10, 2) := z_dk tdX12_cut_295 22 rfl
theorem dX12_cut_331 : decode cX12_cut 331 = .ok (.iconst (-1), 1) := z_dk tdX12_cut_295 23 rfl
theorem tdX12_cut_332 : (([(332, .if_icmp .ne 7, 3), (335, .iconst (-1), 1), (336, .goto 10, 3), (339, .aload_n 0, 1), (340, .getfield 167, 3), (343, .iload 10, 2), (345, .iaload, 1), (346, .iastore, 1), (347, .aload_n 0, 1), (348, .getfield 43, 3), (351, .bipush 13, 2), (353, .aaload, 1), (354, .iload 5, 2), (356, .aload_n 0, 1), (357, .getfield 43, 3), (360, .iconst 0, 1), (361, .aaload, 1), (362, .iload 9, 2), (364, .iaload, 1), (365, .iastore, 1), (366, .iinc 5 1, 3), (369, .iinc 9 1, 3), (372, .goto (-247), 3), (375, .aload_n 0, 1)] : List (Nat × Instr × Nat)).all fun e => decide (decode cX12_cut e.1 = .ok e.2)) = true := by decide +kernel
theorem dX12_cut_332 : decode cX12_cut 332 = .ok (.if_icmp .ne 7, 3) := z_dk tdX12_cut_332 0 rfl
theorem dX12_cut_335 : decode cX12_cut 335 = .ok (.iconst (-1), 1) := z_dk tdX12_cut_332 1 rfl
theorem dX12_cut_336 : decode cX12_cut 336 = .ok (.goto 10, 3) := z_dk tdX12_cut_332 2 rfl
theorem dX12_cut_339 : decode cX12_cut 339 = .ok (.aload_n 0, 1) := z_dk tdX12_cut_332 3 rfl
theorem dX12_cut_340 : decode cX12_cut 340 = .ok (.getfield 167, 3) := z_dk tdX12_cut_332 4 rfl
theorem dX12_cut_343 : decode cX12_cut 343 = .ok (.iload 10, 2) := z_dk tdX12_cut_332 5 rfl
theorem dX12_cut_345 : decode cX12_cut 345 = .ok (.iaload, 1) := z_dk tdX12_cut_332 6 rfl
theorem dX12_cut_346 : decode cX12_cut 346 = .ok (.iastore, 1) := z_dk tdX12_cut_332 7 rfl
theorem dX12_cut_347 : decode cX12_cut 347 = .ok (.aload_n 0, 1) := z_dk tdX12_cut_332 8 rfl
theorem dX12_cut_348 : decode cX12_cut 348 = .ok (.getfield 43, 3) := z_dk tdX12_cut_332 9 rfl
theorem dX12_cut_351 : decode cX12_cut 351 = .ok (.bipush 13, 2) := z_dk tdX12_cut_332 10 rfl
theorem dX12_cut_353 : decode cX12_cut 353 = .ok (.aaload, 1) := z_dk tdX12_cut_332 11 rfl
theorem dX12_cut_354 : decode cX12_cut 354 = .ok (.iload 5, 2) := z_dk tdX12_cut_332 12 rfl
theorem dX12_cut_356 : decode cX12_cut 356 = .ok (.aload_n 0, 1) := z_dk tdX12_cut_332 13 rfl
theorem dX12_cut_357 : decode cX12_cut 357 = .ok (.getfield 43, 3) := z_dk tdX12_cut_332 14 rfl
theorem dX12_cut_360 : decode cX12_cut 360 = .ok (.iconst 0, 1) := z_dk tdX12_cut_332 15 rfl
theorem dX12_cut_361 : decode cX12_cut 361 = .ok (.aaload, 1) := z_dk tdX12_cut_332 16 rfl
theorem dX12_cut_362 : decode cX12_cut 362 = .ok (.iload 9, 2) := z_dk tdX12_cut_332 17 rfl
theorem dX12_cut_364 : decode cX12_cut 364 = .ok (.iaload, 1) := z_dk tdX12_cut_332 18 rfl
theorem dX12_cut_365 : decode cX12_cut 365 = .ok (.iastore, 1) := z_dk tdX12_cut_332 19 rfl
theorem dX12_cut_366 : decode cX12_cut 366 = .ok (.iinc 5 1, 3) := z_dk tdX12_cut_332 20 rfl
theorem dX12_cut_369 : decode cX12_cut 369 = .ok (.iinc 9 1, 3) := z_dk tdX12_cut_332 21 rfl
theorem dX12_cut_372 : decode cX12_cut 372 = .ok (.goto (-247), 3) := z_dk tdX12_cut_332 22 rfl
theorem dX12_cut_375 : decode cX12_cut 375 = .ok (.aload_n 0, 1) := z_dk tdX12_cut_332 23 rfl
theorem tdX12_cut_376 : (([(376, .getfield 31, 3), (379, .bipush 13, 2), (381, .aaload, 1), (382, .iconst 0, 1), (383, .iload 5, 2), (385, .iastore, 1), (386, .aload_n 0, 1), (387, .getfield 31, 3), (390, .bipush 13, 2), (392, .aaload, 1), (393, .iconst 1, 1), (394, .iload 6, 2), (396, .iastore, 1), (397, .aload_n 0, 1), (398, .invokevirtual 239, 3), (401, .aload_n 0, 1), (402, .getfield 242, 3), (405, .ireturn, 1)] : List (Nat × Instr × Nat)).all fun e => decide (decode cX12_cut e.1 = .ok e.2)) = true := by decide +kernel
theorem dX12_cut_376 : decode cX12_cut 376 = .ok (.getfield 31, 3) := z_dk tdX12_cut_376 0 rfl
theorem dX12_cut_379 : decode cX12_cut 379 = .ok (.bipush 13, 2) := z_dk tdX12_cut_376 1 rfl
theorem dX12_cut_381 : decode cX12_cut 381 = .ok (.aaload, 1) := z_dk tdX12_cut_376 2 rfl
theorem dX12_cut_382 : decode cX12_cut 382 = .ok (.iconst 0, 1) := z_dk tdX12_cut_376 3 rfl
theorem dX12_cut_383 : decode cX12_cut 383 = .ok (.iload 5, 2) := z_dk tdX12_cut_376 4 rfl
theorem dX12_cut_385 : decode cX12_cut 385 = .ok (.iastore, 1) := z_dk tdX12_cut_376 5 rfl
theorem dX12_cut_386 : decode cX12_cut 386 = .ok (.aload_n 0, 1) := z_dk tdX12_cut_376 6 rfl
theorem dX12_cut_387 : decode cX12_cut 387 = .ok (.getfield 31, 3) := z_dk tdX12_cut_376 7 rfl
theorem dX12_cut_390 : decode cX12_cut 390 = .ok (.bipush 13, 2) := z_dk tdX12_cut_376 8 rfl
theorem dX12_cut_392 : decode cX12_cut 392 = .ok (.aaload, 1) := z_dk tdX12_cut_376 9 rfl
theorem dX12_cut_393 : decode cX12_cut 393 = .ok (.iconst 1, 1) := z_dk tdX12_cut_376 10 rfl
theorem dX12_cut_394 : decode cX12_cut 394 = .ok (.iload 6, 2) := z_dk tdX12_cut_376 11 rfl
theorem dX12_cut_396 : decode cX12_cut 396 = .ok (.iastore, 1) := z_dk tdX12_cut_376 12 rfl
theorem dX12_cut_397 : decode cX12_cut 397 = .ok (.aload_n 0, 1) := z_dk tdX12_cut_376 13 rfl
theorem dX12_cut_398 : decode cX12_cut 398 = .ok (.invokevirtual 239, 3) := z_dk tdX12_cut_376 14 rfl
theorem dX12_cut_401 : decode cX12_cut 401 = .ok (.aload_n 0, 1) := z_dk tdX12_cut_376 15 rfl
theorem dX12_cut_402 : decode cX12_cut 402 = .ok (.getfield 242, 3) := z_dk tdX12_cut_376 16 rfl
theorem dX12_cut_405 : decode cX12_cut 405 = .ok (.ireturn, 1) := z_dk tdX12_cut_376 17 rfl
theorem tdX12_status_0 : (([(0, .aload_n 0, 1), (1, .iconst 0, 1), (2, .putfield 170, 3), (5, .iload_n 1, 1), (6, .iconst 0, 1), (7, .iconst 1, 1), (8, .invokestatic 245, 3), (11, .ifCond .eq 12, 3), (14, .aload_n 0, 1), (15, .getfield 7, 3), (18, .iload_n 1, 1), (19, .iaload, 1), (20, .goto 4, 3), (23, .iconst (-1), 1), (24, .ireturn, 1)] : List (Nat × Instr × Nat)).all fun e => decide (decode cX12_status e.1 = .ok e.2)) = true := by decide +kernel
theorem dX12_status_0 : decode cX12_status 0 = .ok (.aload_n 0, 1) := z_dk tdX12_status_0 0 rfl
theorem dX12_status_1 : decode cX12_status 1 = .ok (.iconst 0, 1) := z_dk tdX12_status_0 1 rfl
theorem dX12_status_2 : decode cX12_status 2 = .ok (.putfield 170, 3) := z_dk tdX12_status_0 2 rfl
theorem dX12_status_5 : decode cX12_status 5 = .ok (.iload_n 1, 1) := z_dk tdX12_status_0 3 rfl
theorem dX12_status_6 : decode cX12_status 6 = .ok (.iconst 0, 1) := z_dk tdX12_status_0 4 rfl
theorem dX12_status_7 : decode cX12_status 7 = .ok (.iconst 1, 1) := z_dk tdX12_status_0 5 rfl
theorem dX12_status_8 : decode cX12_status 8 = .ok (.invokestatic 245, 3) := z_dk tdX12_status_0 6 rfl
theorem dX12_status_11 : decode cX12_status 11 = .ok (.ifCond .eq 12, 3) := z_dk tdX12_status_0 7 rfl
theorem dX12_status_14 : decode cX12_status 14 = .ok (.aload_n 0, 1) := z_dk tdX12_status_0 8 rfl
theorem dX12_status_15 : decode cX12_status 15 = .ok (.getfield 7, 3) := z_dk tdX12_status_0 9 rfl
theorem dX12_status_18 : decode cX12_status 18 = .ok (.iload_n 1, 1) := z_dk tdX12_status_0 10 rfl
theorem dX12_status_19 : decode cX12_status 19 = .ok (.iaload, 1) := z_dk tdX12_status_0 11 rfl
theorem dX12_status_20 : decode cX12_status 20 = .ok (.goto 4, 3) := z_dk tdX12_status_0 12 rfl
theorem dX12_status_23 : decode cX12_status 23 = .ok (.iconst (-1), 1) := z_dk tdX12_status_0 13 rfl
theorem dX12_status_24 : decode cX12_status 24 = .ok (.ireturn, 1) := z_dk tdX12_status_0 14 rfl
theorem tdL_text_0 : (([(0, .aload_n 2, 1), (1, .iconst 0, 1), (2, .aload_n 0, 1), (3, .iload_n 1, 1), (4, .invokevirtual 7, 3), (7, .i2l, 1), (8, .lastore, 1), (9, .goto 6, 3), (12, .astore_n 3, 1), (13, .iconst 1, 1), (14, .ireturn, 1), (15, .iconst 0, 1), (16, .ireturn, 1)] : List (Nat × Instr × Nat)).all fun e => decide (decode cL_text e.1 = .ok e.2)) = true := by decide +kernel
theorem dL_text_0 : decode cL_text 0 = .ok (.aload_n 2, 1) := z_dk tdL_text_0 0 rfl
theorem dL_text_1 : decode cL_text 1 = .ok (.iconst 0, 1) := z_dk tdL_text_0 1 rfl
theorem dL_text_2 : decode cL_text 2 = .ok (.aload_n 0, 1) := z_dk tdL_text_0 2 rfl
theorem dL_text_3 : decode cL_text 3 = .ok (.iload_n 1, 1) := z_dk tdL_text_0 3 rfl
theorem dL_text_4 : decode cL_text 4 = .ok (.invokevirtual 7, 3) := z_dk tdL_text_0 4 rfl
theorem dL_text_7 : decode cL_text 7 = .ok (.i2l, 1) := z_dk tdL_text_0 5 rfl
theorem dL_text_8 : decode cL_text 8 = .ok (.lastore, 1) := z_dk tdL_text_0 6 rfl
theorem dL_text_9 : decode cL_text 9 = .ok (.goto 6, 3) := z_dk tdL_text_0 7 rfl
theorem dL_text_12 : decode cL_text 12 = .ok (.astore_n 3, 1) := z_dk tdL_text_0 8 rfl
theorem dL_text_13 : decode cL_text 13 = .ok (.iconst 1, 1) := z_dk tdL_text_0 9 rfl
theorem dL_text_14 : decode cL_text 14 = .ok (.ireturn, 1) := z_dk tdL_text_0 10 rfl
theorem dL_text_15 : decode cL_text 15 = .ok (.iconst 0, 1) := z_dk tdL_text_0 11 rfl
theorem dL_text_16 : decode cL_text 16 = .ok (.ireturn, 1) := z_dk tdL_text_0 12 rfl
theorem tdL_more_0 : (([(0, .aload_n 2, 1), (1, .iconst 0, 1), (2, .aload_n 0, 1), (3, .iload_n 1, 1), (4, .invokevirtual 15, 3), (7, .i2l, 1), (8, .lastore, 1), (9, .goto 6, 3), (12, .astore_n 3, 1), (13, .iconst 1, 1), (14, .ireturn, 1), (15, .iconst 0, 1), (16, .ireturn, 1)] : List (Nat × Instr × Nat)).all fun e => decide (decode cL_more e.1 = .ok e.2)) = true := by decide +kernel
theorem dL_more_0 : decode cL_more 0 = .ok (.aload_n 2, 1) := z_dk tdL_more_0 0 rfl
theorem dL_more_1 : decode cL_more 1 = .ok (.iconst 0, 1) := z_dk tdL_more_0 1 rfl
theorem dL_more_2 : decode cL_more 2 = .ok (.aload_n 0, 1) := z_dk tdL_more_0 2 rfl
theorem dL_more_3 : decode cL_more 3 = .ok (.iload_n 1, 1) := z_dk tdL_more_0 3 rfl
theorem dL_more_4 : decode cL_more 4 = .ok (.invokevirtual 15, 3) := z_dk tdL_more_0 4 rfl
theorem dL_more_7 : decode cL_more 7 = .ok (.i2l, 1) := z_dk tdL_more_0 5 rfl
theorem dL_more_8 : decode cL_more 8 = .ok (.lastore, 1) := z_dk tdL_more_0 6 rfl
theorem dL_more_9 : decode cL_more 9 = .ok (.goto 6, 3) := z_dk tdL_more_0 7 rfl
theorem dL_more_12 : decode cL_more 12 = .ok (.astore_n 3, 1) := z_dk tdL_more_0 8 rfl
theorem dL_more_13 : decode cL_more 13 = .ok (.iconst 1, 1) := z_dk tdL_more_0 9 rfl
theorem dL_more_14 : decode cL_more 14 = .ok (.ireturn, 1) := z_dk tdL_more_0 10 rfl
theorem dL_more_15 : decode cL_more 15 = .ok (.iconst 0, 1) := z_dk tdL_more_0 11 rfl
theorem dL_more_16 : decode cL_more 16 = .ok (.ireturn, 1) := z_dk tdL_more_0 12 rfl
theorem tdL_set_0 : (([(0, .aload_n 3, 1), (1, .iconst 0, 1), (2, .aload_n 0, 1), (3, .iload_n 1, 1), (4, .iload_n 2, 1), (5, .invokevirtual 18, 3), (8, .i2l, 1), (9, .lastore, 1), (10, .goto 7, 3), (13, .astore 4, 2), (15, .iconst 1, 1), (16, .ireturn, 1), (17, .iconst 0, 1), (18, .ireturn, 1)] : List (Nat × Instr × Nat)).all fun e => decide (decode cL_set e.1 = .ok e.2)) = true := by decide +kernel
theorem dL_set_0 : decode cL_set 0 = .ok (.aload_n 3, 1) := z_dk tdL_set_0 0 rfl
theorem dL_set_1 : decode cL_set 1 = .ok (.iconst 0, 1) := z_dk tdL_set_0 1 rfl
theorem dL_set_2 : decode cL_set 2 = .ok (.aload_n 0, 1) := z_dk tdL_set_0 2 rfl
theorem dL_set_3 : decode cL_set 3 = .ok (.iload_n 1, 1) := z_dk tdL_set_0 3 rfl
theorem dL_set_4 : decode cL_set 4 = .ok (.iload_n 2, 1) := z_dk tdL_set_0 4 rfl
theorem dL_set_5 : decode cL_set 5 = .ok (.invokevirtual 18, 3) := z_dk tdL_set_0 5 rfl
theorem dL_set_8 : decode cL_set 8 = .ok (.i2l, 1) := z_dk tdL_set_0 6 rfl
theorem dL_set_9 : decode cL_set 9 = .ok (.lastore, 1) := z_dk tdL_set_0 7 rfl
theorem dL_set_10 : decode cL_set 10 = .ok (.goto 7, 3) := z_dk tdL_set_0 8 rfl
theorem dL_set_13 : decode cL_set 13 = .ok (.astore 4, 2) := z_dk tdL_set_0 9 rfl
theorem dL_set_15 : decode cL_set 15 = .ok (.iconst 1, 1) := z_dk tdL_set_0 10 rfl
theorem dL_set_16 : decode cL_set 16 = .ok (.ireturn, 1) := z_dk tdL_set_0 11 rfl
theorem dL_set_17 : decode cL_set 17 = .ok (.iconst 0, 1) := z_dk tdL_set_0 12 rfl
theorem dL_set_18 : decode cL_set 18 = .ok (.ireturn, 1) := z_dk tdL_set_0 13 rfl
theorem tdL_cut_0 : (([(0, .aload_n 3, 1), (1, .iconst 0, 1), (2, .aload_n 0, 1), (3, .iload_n 1, 1), (4, .iload_n 2, 1), (5, .invokevirtual 22, 3), (8, .i2l, 1), (9, .lastore, 1), (10, .goto 11, 3), (13, .astore 4, 2), (15, .iconst 1, 1), (16, .ireturn, 1), (17, .astore 4, 2), (19, .iconst 2, 1), (20, .ireturn, 1), (21, .iconst 0, 1), (22, .ireturn, 1)] : List (Nat × Instr × Nat)).all fun e => decide (decode cL_cut e.1 = .ok e.2)) = true := by decide +kernel
theorem dL_cut_0 : decode cL_cut 0 = .ok (.aload_n 3, 1) := z_dk tdL_cut_0 0 rfl
theorem dL_cut_1 : decode cL_cut 1 = .ok (.iconst 0, 1) := z_dk tdL_cut_0 1 rfl
theorem dL_cut_2 : decode cL_cut 2 = .ok (.aload_n 0, 1) := z_dk tdL_cut_0 2 rfl
theorem dL_cut_3 : decode cL_cut 3 = .ok (.iload_n 1, 1) := z_dk tdL_cut_0 3 rfl
theorem dL_cut_4 : decode cL_cut 4 = .ok (.iload_n 2, 1) := z_dk tdL_cut_0 4 rfl
theorem dL_cut_5 : decode cL_cut 5 = .ok (.invokevirtual 22, 3) := z_dk tdL_cut_0 5 rfl
theorem dL_cut_8 : decode cL_cut 8 = .ok (.i2l, 1) := z_dk tdL_cut_0 6 rfl
theorem dL_cut_9 : decode cL_cut 9 = .ok (.lastore, 1) := z_dk tdL_cut_0 7 rfl
theorem dL_cut_10 : decode cL_cut 10 = .ok (.goto 11, 3) := z_dk tdL_cut_0 8 rfl
theorem dL_cut_13 : decode cL_cut 13 = .ok (.astore 4, 2) := z_dk tdL_cut_0 9 rfl
theorem dL_cut_15 : decode cL_cut 15 = .ok (.iconst 1, 1) := z_dk tdL_cut_0 10 rfl
theorem dL_cut_16 : decode cL_cut 16 = .ok (.ireturn, 1) := z_dk tdL_cut_0 11 rfl
theorem dL_cut_17 : decode cL_cut 17 = .ok (.astore 4, 2) := z_dk tdL_cut_0 12 rfl
theorem dL_cut_19 : decode cL_cut 19 = .ok (.iconst 2, 1) := z_dk tdL_cut_0 13 rfl
theorem dL_cut_20 : decode cL_cut 20 = .ok (.ireturn, 1) := z_dk tdL_cut_0 14 rfl
theorem dL_cut_21 : decode cL_cut 21 = .ok (.iconst 0, 1) := z_dk tdL_cut_0 15 rfl
theorem dL_cut_22 : decode cL_cut 22 = .ok (.ireturn, 1) := z_dk tdL_cut_0 16 rfl
theorem tdL_told_0 : (([(0, .aload_n 2, 1), (1, .iconst 0, 1), (2, .aload_n 0, 1), (3, .iload_n 1, 1), (4, .invokevirtual 27, 3), (7, .lastore, 1), (8, .goto 6, 3), (11, .astore_n 3, 1), (12, .iconst 1, 1), (13, .ireturn, 1), (14, .iconst 0, 1), (15, .ireturn, 1)] : List (Nat × Instr × Nat)).all fun e => decide (decode cL_told e.1 = .ok e.2)) = true := by decide +kernel
theorem dL_told_0 : decode cL_told 0 = .ok (.aload_n 2, 1) := z_dk tdL_told_0 0 rfl
theorem dL_told_1 : decode cL_told 1 = .ok (.iconst 0, 1) := z_dk tdL_told_0 1 rfl
theorem dL_told_2 : decode cL_told 2 = .ok (.aload_n 0, 1) := z_dk tdL_told_0 2 rfl
theorem dL_told_3 : decode cL_told 3 = .ok (.iload_n 1, 1) := z_dk tdL_told_0 3 rfl
theorem dL_told_4 : decode cL_told 4 = .ok (.invokevirtual 27, 3) := z_dk tdL_told_0 4 rfl
theorem dL_told_7 : decode cL_told 7 = .ok (.lastore, 1) := z_dk tdL_told_0 5 rfl
theorem dL_told_8 : decode cL_told 8 = .ok (.goto 6, 3) := z_dk tdL_told_0 6 rfl
theorem dL_told_11 : decode cL_told 11 = .ok (.astore_n 3, 1) := z_dk tdL_told_0 7 rfl
theorem dL_told_12 : decode cL_told 12 = .ok (.iconst 1, 1) := z_dk tdL_told_0 8 rfl
theorem dL_told_13 : decode cL_told 13 = .ok (.ireturn, 1) := z_dk tdL_told_0 9 rfl
theorem dL_told_14 : decode cL_told 14 = .ok (.iconst 0, 1) := z_dk tdL_told_0 10 rfl
theorem dL_told_15 : decode cL_told 15 = .ok (.ireturn, 1) := z_dk tdL_told_0 11 rfl
theorem tdL_unit_0 : (([(0, .aload_n 3, 1), (1, .iconst 0, 1), (2, .aload_n 0, 1), (3, .iload_n 1, 1), (4, .iload_n 2, 1), (5, .invokevirtual 31, 3), (8, .i2l, 1), (9, .lastore, 1), (10, .goto 11, 3), (13, .astore 4, 2), (15, .iconst 1, 1), (16, .ireturn, 1), (17, .astore 4, 2), (19, .iconst 2, 1), (20, .ireturn, 1), (21, .iconst 0, 1), (22, .ireturn, 1)] : List (Nat × Instr × Nat)).all fun e => decide (decode cL_unit e.1 = .ok e.2)) = true := by decide +kernel
theorem dL_unit_0 : decode cL_unit 0 = .ok (.aload_n 3, 1) := z_dk tdL_unit_0 0 rfl
theorem dL_unit_1 : decode cL_unit 1 = .ok (.iconst 0, 1) := z_dk tdL_unit_0 1 rfl
theorem dL_unit_2 : decode cL_unit 2 = .ok (.aload_n 0, 1) := z_dk tdL_unit_0 2 rfl
theorem dL_unit_3 : decode cL_unit 3 = .ok (.iload_n 1, 1) := z_dk tdL_unit_0 3 rfl
theorem dL_unit_4 : decode cL_unit 4 = .ok (.iload_n 2, 1) := z_dk tdL_unit_0 4 rfl
theorem dL_unit_5 : decode cL_unit 5 = .ok (.invokevirtual 31, 3) := z_dk tdL_unit_0 5 rfl
theorem dL_unit_8 : decode cL_unit 8 = .ok (.i2l, 1) := z_dk tdL_unit_0 6 rfl
theorem dL_unit_9 : decode cL_unit 9 = .ok (.lastore, 1) := z_dk tdL_unit_0 7 rfl
theorem dL_unit_10 : decode cL_unit 10 = .ok (.goto 11, 3) := z_dk tdL_unit_0 8 rfl
theorem dL_unit_13 : decode cL_unit 13 = .ok (.astore 4, 2) := z_dk tdL_unit_0 9 rfl
theorem dL_unit_15 : decode cL_unit 15 = .ok (.iconst 1, 1) := z_dk tdL_unit_0 10 rfl
theorem dL_unit_16 : decode cL_unit 16 = .ok (.ireturn, 1) := z_dk tdL_unit_0 11 rfl
theorem dL_unit_17 : decode cL_unit 17 = .ok (.astore 4, 2) := z_dk tdL_unit_0 12 rfl
theorem dL_unit_19 : decode cL_unit 19 = .ok (.iconst 2, 1) := z_dk tdL_unit_0 13 rfl
theorem dL_unit_20 : decode cL_unit 20 = .ok (.ireturn, 1) := z_dk tdL_unit_0 14 rfl
theorem dL_unit_21 : decode cL_unit 21 = .ok (.iconst 0, 1) := z_dk tdL_unit_0 15 rfl
theorem dL_unit_22 : decode cL_unit 22 = .ok (.ireturn, 1) := z_dk tdL_unit_0 16 rfl
theorem tdL_sign_0 : (([(0, .aload_n 3, 1), (1, .iconst 0, 1), (2, .aload_n 0, 1), (3, .iload_n 1, 1), (4, .iload_n 2, 1), (5, .invokevirtual 34, 3), (8, .i2l, 1), (9, .lastore, 1), (10, .goto 11, 3), (13, .astore 4, 2), (15, .iconst 1, 1), (16, .ireturn, 1), (17, .astore 4, 2), (19, .iconst 2, 1), (20, .ireturn, 1), (21, .iconst 0, 1), (22, .ireturn, 1)] : List (Nat × Instr × Nat)).all fun e => decide (decode cL_sign e.1 = .ok e.2)) = true := by decide +kernel
theorem dL_sign_0 : decode cL_sign 0 = .ok (.aload_n 3, 1) := z_dk tdL_sign_0 0 rfl
theorem dL_sign_1 : decode cL_sign 1 = .ok (.iconst 0, 1) := z_dk tdL_sign_0 1 rfl
theorem dL_sign_2 : decode cL_sign 2 = .ok (.aload_n 0, 1) := z_dk tdL_sign_0 2 rfl
theorem dL_sign_3 : decode cL_sign 3 = .ok (.iload_n 1, 1) := z_dk tdL_sign_0 3 rfl
theorem dL_sign_4 : decode cL_sign 4 = .ok (.iload_n 2, 1) := z_dk tdL_sign_0 4 rfl
theorem dL_sign_5 : decode cL_sign 5 = .ok (.invokevirtual 34, 3) := z_dk tdL_sign_0 5 rfl
theorem dL_sign_8 : decode cL_sign 8 = .ok (.i2l, 1) := z_dk tdL_sign_0 6 rfl
theorem dL_sign_9 : decode cL_sign 9 = .ok (.lastore, 1) := z_dk tdL_sign_0 7 rfl
theorem dL_sign_10 : decode cL_sign 10 = .ok (.goto 11, 3) := z_dk tdL_sign_0 8 rfl
theorem dL_sign_13 : decode cL_sign 13 = .ok (.astore 4, 2) := z_dk tdL_sign_0 9 rfl
theorem dL_sign_15 : decode cL_sign 15 = .ok (.iconst 1, 1) := z_dk tdL_sign_0 10 rfl
theorem dL_sign_16 : decode cL_sign 16 = .ok (.ireturn, 1) := z_dk tdL_sign_0 11 rfl
theorem dL_sign_17 : decode cL_sign 17 = .ok (.astore 4, 2) := z_dk tdL_sign_0 12 rfl
theorem dL_sign_19 : decode cL_sign 19 = .ok (.iconst 2, 1) := z_dk tdL_sign_0 13 rfl
theorem dL_sign_20 : decode cL_sign 20 = .ok (.ireturn, 1) := z_dk tdL_sign_0 14 rfl
theorem dL_sign_21 : decode cL_sign 21 = .ok (.iconst 0, 1) := z_dk tdL_sign_0 15 rfl
theorem dL_sign_22 : decode cL_sign 22 = .ok (.ireturn, 1) := z_dk tdL_sign_0 16 rfl
theorem tdL_line_0 : (([(0, .aload_n 3, 1), (1, .iconst 0, 1), (2, .aload_n 0, 1), (3, .iload_n 1, 1), (4, .iload_n 2, 1), (5, .invokevirtual 37, 3), (8, .i2l, 1), (9, .lastore, 1), (10, .goto 11, 3), (13, .astore 4, 2), (15, .iconst 1, 1), (16, .ireturn, 1), (17, .astore 4, 2), (19, .iconst 2, 1), (20, .ireturn, 1), (21, .iconst 0, 1), (22, .ireturn, 1)] : List (Nat × Instr × Nat)).all fun e => decide (decode cL_line e.1 = .ok e.2)) = true := by decide +kernel
theorem dL_line_0 : decode cL_line 0 = .ok (.aload_n 3, 1) := z_dk tdL_line_0 0 rfl
theorem dL_line_1 : decode cL_line 1 = .ok (.iconst 0, 1) := z_dk tdL_line_0 1 rfl
theorem dL_line_2 : decode cL_line 2 = .ok (.aload_n 0, 1) := z_dk tdL_line_0 2 rfl
theorem dL_line_3 : decode cL_line 3 = .ok (.iload_n 1, 1) := z_dk tdL_line_0 3 rfl
theorem dL_line_4 : decode cL_line 4 = .ok (.iload_n 2, 1) := z_dk tdL_line_0 4 rfl
theorem dL_line_5 : decode cL_line 5 = .ok (.invokevirtual 37, 3) := z_dk tdL_line_0 5 rfl
theorem dL_line_8 : decode cL_line 8 = .ok (.i2l, 1) := z_dk tdL_line_0 6 rfl
theorem dL_line_9 : decode cL_line 9 = .ok (.lastore, 1) := z_dk tdL_line_0 7 rfl
theorem dL_line_10 : decode cL_line 10 = .ok (.goto 11, 3) := z_dk tdL_line_0 8 rfl
theorem dL_line_13 : decode cL_line 13 = .ok (.astore 4, 2) := z_dk tdL_line_0 9 rfl
theorem dL_line_15 : decode cL_line 15 = .ok (.iconst 1, 1) := z_dk tdL_line_0 10 rfl
theorem dL_line_16 : decode cL_line 16 = .ok (.ireturn, 1) := z_dk tdL_line_0 11 rfl
theorem dL_line_17 : decode cL_line 17 = .ok (.astore 4, 2) := z_dk tdL_line_0 12 rfl
theorem dL_line_19 : decode cL_line 19 = .ok (.iconst 2, 1) := z_dk tdL_line_0 13 rfl
theorem dL_line_20 : decode cL_line 20 = .ok (.ireturn, 1) := z_dk tdL_line_0 14 rfl
theorem dL_line_21 : decode cL_line 21 = .ok (.iconst 0, 1) := z_dk tdL_line_0 15 rfl
theorem dL_line_22 : decode cL_line 22 = .ok (.ireturn, 1) := z_dk tdL_line_0 16 rfl
theorem tdL_block_0 : (([(0, .aload_n 3, 1), (1, .iconst 0, 1), (2, .aload_n 0, 1), (3, .iload_n 1, 1), (4, .iload_n 2, 1), (5, .invokevirtual 40, 3), (8, .i2l, 1), (9, .lastore, 1), (10, .goto 11, 3), (13, .astore 4, 2), (15, .iconst 1, 1), (16, .ireturn, 1), (17, .astore 4, 2), (19, .iconst 2, 1), (20, .ireturn, 1), (21, .iconst 0, 1), (22, .ireturn, 1)] : List (Nat × Instr × Nat)).all fun e => decide (decode cL_block e.1 = .ok e.2)) = true := by decide +kernel
theorem dL_block_0 : decode cL_block 0 = .ok (.aload_n 3, 1) := z_dk tdL_block_0 0 rfl
theorem dL_block_1 : decode cL_block 1 = .ok (.iconst 0, 1) := z_dk tdL_block_0 1 rfl
theorem dL_block_2 : decode cL_block 2 = .ok (.aload_n 0, 1) := z_dk tdL_block_0 2 rfl
theorem dL_block_3 : decode cL_block 3 = .ok (.iload_n 1, 1) := z_dk tdL_block_0 3 rfl
theorem dL_block_4 : decode cL_block 4 = .ok (.iload_n 2, 1) := z_dk tdL_block_0 4 rfl
theorem dL_block_5 : decode cL_block 5 = .ok (.invokevirtual 40, 3) := z_dk tdL_block_0 5 rfl
theorem dL_block_8 : decode cL_block 8 = .ok (.i2l, 1) := z_dk tdL_block_0 6 rfl
theorem dL_block_9 : decode cL_block 9 = .ok (.lastore, 1) := z_dk tdL_block_0 7 rfl
theorem dL_block_10 : decode cL_block 10 = .ok (.goto 11, 3) := z_dk tdL_block_0 8 rfl
theorem dL_block_13 : decode cL_block 13 = .ok (.astore 4, 2) := z_dk tdL_block_0 9 rfl
theorem dL_block_15 : decode cL_block 15 = .ok (.iconst 1, 1) := z_dk tdL_block_0 10 rfl
theorem dL_block_16 : decode cL_block 16 = .ok (.ireturn, 1) := z_dk tdL_block_0 11 rfl
theorem dL_block_17 : decode cL_block 17 = .ok (.astore 4, 2) := z_dk tdL_block_0 12 rfl
theorem dL_block_19 : decode cL_block 19 = .ok (.iconst 2, 1) := z_dk tdL_block_0 13 rfl
theorem dL_block_20 : decode cL_block 20 = .ok (.ireturn, 1) := z_dk tdL_block_0 14 rfl
theorem dL_block_21 : decode cL_block 21 = .ok (.iconst 0, 1) := z_dk tdL_block_0 15 rfl
theorem dL_block_22 : decode cL_block 22 = .ok (.ireturn, 1) := z_dk tdL_block_0 16 rfl
theorem tdL_reading_0 : (([(0, .aload 5, 2), (2, .iconst 0, 1), (3, .aload_n 0, 1), (4, .iload_n 1, 1), (5, .iload_n 2, 1), (6, .iload_n 3, 1), (7, .iload 4, 2), (9, .invokevirtual 43, 3), (12, .i2l, 1), (13, .lastore, 1), (14, .goto 11, 3), (17, .astore 6, 2), (19, .iconst 1, 1), (20, .ireturn, 1), (21, .astore 6, 2), (23, .iconst 2, 1), (24, .ireturn, 1), (25, .iconst 0, 1), (26, .ireturn, 1)] : List (Nat × Instr × Nat)).all fun e => decide (decode cL_reading e.1 = .ok e.2)) = true := by decide +kernel
theorem dL_reading_0 : decode cL_reading 0 = .ok (.aload 5, 2) := z_dk tdL_reading_0 0 rfl
theorem dL_reading_2 : decode cL_reading 2 = .ok (.iconst 0, 1) := z_dk tdL_reading_0 1 rfl
theorem dL_reading_3 : decode cL_reading 3 = .ok (.aload_n 0, 1) := z_dk tdL_reading_0 2 rfl
theorem dL_reading_4 : decode cL_reading 4 = .ok (.iload_n 1, 1) := z_dk tdL_reading_0 3 rfl
theorem dL_reading_5 : decode cL_reading 5 = .ok (.iload_n 2, 1) := z_dk tdL_reading_0 4 rfl
theorem dL_reading_6 : decode cL_reading 6 = .ok (.iload_n 3, 1) := z_dk tdL_reading_0 5 rfl
theorem dL_reading_7 : decode cL_reading 7 = .ok (.iload 4, 2) := z_dk tdL_reading_0 6 rfl
theorem dL_reading_9 : decode cL_reading 9 = .ok (.invokevirtual 43, 3) := z_dk tdL_reading_0 7 rfl
theorem dL_reading_12 : decode cL_reading 12 = .ok (.i2l, 1) := z_dk tdL_reading_0 8 rfl
theorem dL_reading_13 : decode cL_reading 13 = .ok (.lastore, 1) := z_dk tdL_reading_0 9 rfl
theorem dL_reading_14 : decode cL_reading 14 = .ok (.goto 11, 3) := z_dk tdL_reading_0 10 rfl
theorem dL_reading_17 : decode cL_reading 17 = .ok (.astore 6, 2) := z_dk tdL_reading_0 11 rfl
theorem dL_reading_19 : decode cL_reading 19 = .ok (.iconst 1, 1) := z_dk tdL_reading_0 12 rfl
theorem dL_reading_20 : decode cL_reading 20 = .ok (.ireturn, 1) := z_dk tdL_reading_0 13 rfl
theorem dL_reading_21 : decode cL_reading 21 = .ok (.astore 6, 2) := z_dk tdL_reading_0 14 rfl
theorem dL_reading_23 : decode cL_reading 23 = .ok (.iconst 2, 1) := z_dk tdL_reading_0 15 rfl
theorem dL_reading_24 : decode cL_reading 24 = .ok (.ireturn, 1) := z_dk tdL_reading_0 16 rfl
theorem dL_reading_25 : decode cL_reading 25 = .ok (.iconst 0, 1) := z_dk tdL_reading_0 17 rfl
theorem dL_reading_26 : decode cL_reading 26 = .ok (.ireturn, 1) := z_dk tdL_reading_0 18 rfl
theorem tdL_run_0 : (([(0, .aload_n 3, 1), (1, .iconst 0, 1), (2, .aload_n 0, 1), (3, .iload_n 1, 1), (4, .iload_n 2, 1), (5, .invokevirtual 47, 3), (8, .i2l, 1), (9, .lastore, 1), (10, .goto 7, 3), (13, .astore 4, 2), (15, .iconst 1, 1), (16, .ireturn, 1), (17, .iconst 0, 1), (18, .ireturn, 1)] : List (Nat × Instr × Nat)).all fun e => decide (decode cL_run e.1 = .ok e.2)) = true := by decide +kernel
theorem dL_run_0 : decode cL_run 0 = .ok (.aload_n 3, 1) := z_dk tdL_run_0 0 rfl
theorem dL_run_1 : decode cL_run 1 = .ok (.iconst 0, 1) := z_dk tdL_run_0 1 rfl
theorem dL_run_2 : decode cL_run 2 = .ok (.aload_n 0, 1) := z_dk tdL_run_0 2 rfl
theorem dL_run_3 : decode cL_run 3 = .ok (.iload_n 1, 1) := z_dk tdL_run_0 3 rfl
theorem dL_run_4 : decode cL_run 4 = .ok (.iload_n 2, 1) := z_dk tdL_run_0 4 rfl
theorem dL_run_5 : decode cL_run 5 = .ok (.invokevirtual 47, 3) := z_dk tdL_run_0 5 rfl
theorem dL_run_8 : decode cL_run 8 = .ok (.i2l, 1) := z_dk tdL_run_0 6 rfl
theorem dL_run_9 : decode cL_run 9 = .ok (.lastore, 1) := z_dk tdL_run_0 7 rfl
theorem dL_run_10 : decode cL_run 10 = .ok (.goto 7, 3) := z_dk tdL_run_0 8 rfl
theorem dL_run_13 : decode cL_run 13 = .ok (.astore 4, 2) := z_dk tdL_run_0 9 rfl
theorem dL_run_15 : decode cL_run 15 = .ok (.iconst 1, 1) := z_dk tdL_run_0 10 rfl
theorem dL_run_16 : decode cL_run 16 = .ok (.ireturn, 1) := z_dk tdL_run_0 11 rfl
theorem dL_run_17 : decode cL_run 17 = .ok (.iconst 0, 1) := z_dk tdL_run_0 12 rfl
theorem dL_run_18 : decode cL_run 18 = .ok (.ireturn, 1) := z_dk tdL_run_0 13 rfl
theorem tdL_at_0 : (([(0, .aload_n 3, 1), (1, .iconst 0, 1), (2, .aload_n 0, 1), (3, .iload_n 1, 1), (4, .iload_n 2, 1), (5, .invokevirtual 50, 3), (8, .i2l, 1), (9, .lastore, 1), (10, .goto 7, 3), (13, .astore 4, 2), (15, .iconst 1, 1), (16, .ireturn, 1), (17, .iconst 0, 1), (18, .ireturn, 1)] : List (Nat × Instr × Nat)).all fun e => decide (decode cL_at e.1 = .ok e.2)) = true := by decide +kernel
theorem dL_at_0 : decode cL_at 0 = .ok (.aload_n 3, 1) := z_dk tdL_at_0 0 rfl
theorem dL_at_1 : decode cL_at 1 = .ok (.iconst 0, 1) := z_dk tdL_at_0 1 rfl
theorem dL_at_2 : decode cL_at 2 = .ok (.aload_n 0, 1) := z_dk tdL_at_0 2 rfl
theorem dL_at_3 : decode cL_at 3 = .ok (.iload_n 1, 1) := z_dk tdL_at_0 3 rfl
theorem dL_at_4 : decode cL_at 4 = .ok (.iload_n 2, 1) := z_dk tdL_at_0 4 rfl
theorem dL_at_5 : decode cL_at 5 = .ok (.invokevirtual 50, 3) := z_dk tdL_at_0 5 rfl
theorem dL_at_8 : decode cL_at 8 = .ok (.i2l, 1) := z_dk tdL_at_0 6 rfl
theorem dL_at_9 : decode cL_at 9 = .ok (.lastore, 1) := z_dk tdL_at_0 7 rfl
theorem dL_at_10 : decode cL_at 10 = .ok (.goto 7, 3) := z_dk tdL_at_0 8 rfl
theorem dL_at_13 : decode cL_at 13 = .ok (.astore 4, 2) := z_dk tdL_at_0 9 rfl
theorem dL_at_15 : decode cL_at 15 = .ok (.iconst 1, 1) := z_dk tdL_at_0 10 rfl
theorem dL_at_16 : decode cL_at 16 = .ok (.ireturn, 1) := z_dk tdL_at_0 11 rfl
theorem dL_at_17 : decode cL_at 17 = .ok (.iconst 0, 1) := z_dk tdL_at_0 12 rfl
theorem dL_at_18 : decode cL_at 18 = .ok (.ireturn, 1) := z_dk tdL_at_0 13 rfl
theorem tdL_ends_0 : (([(0, .aload_n 2, 1), (1, .iconst 0, 1), (2, .aload_n 0, 1), (3, .iload_n 1, 1), (4, .invokevirtual 53, 3), (7, .ifCond .eq 7, 3), (10, .lconst 1, 1), (11, .goto 4, 3), (14, .lconst 0, 1), (15, .lastore, 1), (16, .goto 6, 3), (19, .astore_n 3, 1), (20, .iconst 1, 1), (21, .ireturn, 1), (22, .iconst 0, 1), (23, .ireturn, 1)] : List (Nat × Instr × Nat)).all fun e => decide (decode cL_ends e.1 = .ok e.2)) = true := by decide +kernel
theorem dL_ends_0 : decode cL_ends 0 = .ok (.aload_n 2, 1) := z_dk tdL_ends_0 0 rfl
theorem dL_ends_1 : decode cL_ends 1 = .ok (.iconst 0, 1) := z_dk tdL_ends_0 1 rfl
theorem dL_ends_2 : decode cL_ends 2 = .ok (.aload_n 0, 1) := z_dk tdL_ends_0 2 rfl
theorem dL_ends_3 : decode cL_ends 3 = .ok (.iload_n 1, 1) := z_dk tdL_ends_0 3 rfl
theorem dL_ends_4 : decode cL_ends 4 = .ok (.invokevirtual 53, 3) := z_dk tdL_ends_0 4 rfl
theorem dL_ends_7 : decode cL_ends 7 = .ok (.ifCond .eq 7, 3) := z_dk tdL_ends_0 5 rfl
theorem dL_ends_10 : decode cL_ends 10 = .ok (.lconst 1, 1) := z_dk tdL_ends_0 6 rfl
theorem dL_ends_11 : decode cL_ends 11 = .ok (.goto 4, 3) := z_dk tdL_ends_0 7 rfl
theorem dL_ends_14 : decode cL_ends 14 = .ok (.lconst 0, 1) := z_dk tdL_ends_0 8 rfl
theorem dL_ends_15 : decode cL_ends 15 = .ok (.lastore, 1) := z_dk tdL_ends_0 9 rfl
theorem dL_ends_16 : decode cL_ends 16 = .ok (.goto 6, 3) := z_dk tdL_ends_0 10 rfl
theorem dL_ends_19 : decode cL_ends 19 = .ok (.astore_n 3, 1) := z_dk tdL_ends_0 11 rfl
theorem dL_ends_20 : decode cL_ends 20 = .ok (.iconst 1, 1) := z_dk tdL_ends_0 12 rfl
theorem dL_ends_21 : decode cL_ends 21 = .ok (.ireturn, 1) := z_dk tdL_ends_0 13 rfl
theorem dL_ends_22 : decode cL_ends 22 = .ok (.iconst 0, 1) := z_dk tdL_ends_0 14 rfl
theorem dL_ends_23 : decode cL_ends 23 = .ok (.ireturn, 1) := z_dk tdL_ends_0 15 rfl
theorem tdL_longOf_0 : (([(0, .aload_n 3, 1), (1, .iconst 0, 1), (2, .aload_n 0, 1), (3, .iload_n 1, 1), (4, .iload_n 2, 1), (5, .invokevirtual 57, 3), (8, .i2l, 1), (9, .lastore, 1), (10, .goto 11, 3), (13, .astore 4, 2), (15, .iconst 1, 1), (16, .ireturn, 1), (17, .astore 4, 2), (19, .iconst 2, 1), (20, .ireturn, 1), (21, .iconst 0, 1), (22, .ireturn, 1)] : List (Nat × Instr × Nat)).all fun e => decide (decode cL_longOf e.1 = .ok e.2)) = true := by decide +kernel
theorem dL_longOf_0 : decode cL_longOf 0 = .ok (.aload_n 3, 1) := z_dk tdL_longOf_0 0 rfl
theorem dL_longOf_1 : decode cL_longOf 1 = .ok (.iconst 0, 1) := z_dk tdL_longOf_0 1 rfl
theorem dL_longOf_2 : decode cL_longOf 2 = .ok (.aload_n 0, 1) := z_dk tdL_longOf_0 2 rfl
theorem dL_longOf_3 : decode cL_longOf 3 = .ok (.iload_n 1, 1) := z_dk tdL_longOf_0 3 rfl
theorem dL_longOf_4 : decode cL_longOf 4 = .ok (.iload_n 2, 1) := z_dk tdL_longOf_0 4 rfl
theorem dL_longOf_5 : decode cL_longOf 5 = .ok (.invokevirtual 57, 3) := z_dk tdL_longOf_0 5 rfl
theorem dL_longOf_8 : decode cL_longOf 8 = .ok (.i2l, 1) := z_dk tdL_longOf_0 6 rfl
theorem dL_longOf_9 : decode cL_longOf 9 = .ok (.lastore, 1) := z_dk tdL_longOf_0 7 rfl
theorem dL_longOf_10 : decode cL_longOf 10 = .ok (.goto 11, 3) := z_dk tdL_longOf_0 8 rfl
theorem dL_longOf_13 : decode cL_longOf 13 = .ok (.astore 4, 2) := z_dk tdL_longOf_0 9 rfl
theorem dL_longOf_15 : decode cL_longOf 15 = .ok (.iconst 1, 1) := z_dk tdL_longOf_0 10 rfl
theorem dL_longOf_16 : decode cL_longOf 16 = .ok (.ireturn, 1) := z_dk tdL_longOf_0 11 rfl
theorem dL_longOf_17 : decode cL_longOf 17 = .ok (.astore 4, 2) := z_dk tdL_longOf_0 12 rfl
theorem dL_longOf_19 : decode cL_longOf 19 = .ok (.iconst 2, 1) := z_dk tdL_longOf_0 13 rfl
theorem dL_longOf_20 : decode cL_longOf 20 = .ok (.ireturn, 1) := z_dk tdL_longOf_0 14 rfl
theorem dL_longOf_21 : decode cL_longOf 21 = .ok (.iconst 0, 1) := z_dk tdL_longOf_0 15 rfl
theorem dL_longOf_22 : decode cL_longOf 22 = .ok (.ireturn, 1) := z_dk tdL_longOf_0 16 rfl
theorem tdL_lines_0 : (([(0, .aload_n 3, 1), (1, .iconst 0, 1), (2, .aload_n 0, 1), (3, .iload_n 1, 1), (4, .iload_n 2, 1), (5, .invokevirtual 60, 3), (8, .i2l, 1), (9, .lastore, 1), (10, .goto 7, 3), (13, .astore 4, 2), (15, .iconst 1, 1), (16, .ireturn, 1), (17, .iconst 0, 1), (18, .ireturn, 1)] : List (Nat × Instr × Nat)).all fun e => decide (decode cL_lines e.1 = .ok e.2)) = true := by decide +kernel
theorem dL_lines_0 : decode cL_lines 0 = .ok (.aload_n 3, 1) := z_dk tdL_lines_0 0 rfl
theorem dL_lines_1 : decode cL_lines 1 = .ok (.iconst 0, 1) := z_dk tdL_lines_0 1 rfl
theorem dL_lines_2 : decode cL_lines 2 = .ok (.aload_n 0, 1) := z_dk tdL_lines_0 2 rfl
theorem dL_lines_3 : decode cL_lines 3 = .ok (.iload_n 1, 1) := z_dk tdL_lines_0 3 rfl
theorem dL_lines_4 : decode cL_lines 4 = .ok (.iload_n 2, 1) := z_dk tdL_lines_0 4 rfl
theorem dL_lines_5 : decode cL_lines 5 = .ok (.invokevirtual 60, 3) := z_dk tdL_lines_0 5 rfl
theorem dL_lines_8 : decode cL_lines 8 = .ok (.i2l, 1) := z_dk tdL_lines_0 6 rfl
theorem dL_lines_9 : decode cL_lines 9 = .ok (.lastore, 1) := z_dk tdL_lines_0 7 rfl
theorem dL_lines_10 : decode cL_lines 10 = .ok (.goto 7, 3) := z_dk tdL_lines_0 8 rfl
theorem dL_lines_13 : decode cL_lines 13 = .ok (.astore 4, 2) := z_dk tdL_lines_0 9 rfl
theorem dL_lines_15 : decode cL_lines 15 = .ok (.iconst 1, 1) := z_dk tdL_lines_0 10 rfl
theorem dL_lines_16 : decode cL_lines 16 = .ok (.ireturn, 1) := z_dk tdL_lines_0 11 rfl
theorem dL_lines_17 : decode cL_lines 17 = .ok (.iconst 0, 1) := z_dk tdL_lines_0 12 rfl
theorem dL_lines_18 : decode cL_lines 18 = .ok (.ireturn, 1) := z_dk tdL_lines_0 13 rfl
theorem tdL_least_0 : (([(0, .aload_n 2, 1), (1, .iconst 0, 1), (2, .aload_n 0, 1), (3, .iload_n 1, 1), (4, .invokevirtual 63, 3), (7, .i2l, 1), (8, .lastore, 1), (9, .goto 6, 3), (12, .astore_n 3, 1), (13, .iconst 1, 1), (14, .ireturn, 1), (15, .iconst 0, 1), (16, .ireturn, 1)] : List (Nat × Instr × Nat)).all fun e => decide (decode cL_least e.1 = .ok e.2)) = true := by decide +kernel
theorem dL_least_0 : decode cL_least 0 = .ok (.aload_n 2, 1) := z_dk tdL_least_0 0 rfl
theorem dL_least_1 : decode cL_least 1 = .ok (.iconst 0, 1) := z_dk tdL_least_0 1 rfl
theorem dL_least_2 : decode cL_least 2 = .ok (.aload_n 0, 1) := z_dk tdL_least_0 2 rfl
theorem dL_least_3 : decode cL_least 3 = .ok (.iload_n 1, 1) := z_dk tdL_least_0 3 rfl
theorem dL_least_4 : decode cL_least 4 = .ok (.invokevirtual 63, 3) := z_dk tdL_least_0 4 rfl
theorem dL_least_7 : decode cL_least 7 = .ok (.i2l, 1) := z_dk tdL_least_0 5 rfl
theorem dL_least_8 : decode cL_least 8 = .ok (.lastore, 1) := z_dk tdL_least_0 6 rfl
theorem dL_least_9 : decode cL_least 9 = .ok (.goto 6, 3) := z_dk tdL_least_0 7 rfl
theorem dL_least_12 : decode cL_least 12 = .ok (.astore_n 3, 1) := z_dk tdL_least_0 8 rfl
theorem dL_least_13 : decode cL_least 13 = .ok (.iconst 1, 1) := z_dk tdL_least_0 9 rfl
theorem dL_least_14 : decode cL_least 14 = .ok (.ireturn, 1) := z_dk tdL_least_0 10 rfl
theorem dL_least_15 : decode cL_least 15 = .ok (.iconst 0, 1) := z_dk tdL_least_0 11 rfl
theorem dL_least_16 : decode cL_least 16 = .ok (.ireturn, 1) := z_dk tdL_least_0 12 rfl
theorem tdL_marks_0 : (([(0, .aload_n 2, 1), (1, .iconst 0, 1), (2, .aload_n 0, 1), (3, .iload_n 1, 1), (4, .invokevirtual 66, 3), (7, .i2l, 1), (8, .lastore, 1), (9, .goto 6, 3), (12, .astore_n 3, 1), (13, .iconst 1, 1), (14, .ireturn, 1), (15, .iconst 0, 1), (16, .ireturn, 1)] : List (Nat × Instr × Nat)).all fun e => decide (decode cL_marks e.1 = .ok e.2)) = true := by decide +kernel
theorem dL_marks_0 : decode cL_marks 0 = .ok (.aload_n 2, 1) := z_dk tdL_marks_0 0 rfl
theorem dL_marks_1 : decode cL_marks 1 = .ok (.iconst 0, 1) := z_dk tdL_marks_0 1 rfl
theorem dL_marks_2 : decode cL_marks 2 = .ok (.aload_n 0, 1) := z_dk tdL_marks_0 2 rfl
theorem dL_marks_3 : decode cL_marks 3 = .ok (.iload_n 1, 1) := z_dk tdL_marks_0 3 rfl
theorem dL_marks_4 : decode cL_marks 4 = .ok (.invokevirtual 66, 3) := z_dk tdL_marks_0 4 rfl
theorem dL_marks_7 : decode cL_marks 7 = .ok (.i2l, 1) := z_dk tdL_marks_0 5 rfl
theorem dL_marks_8 : decode cL_marks 8 = .ok (.lastore, 1) := z_dk tdL_marks_0 6 rfl
theorem dL_marks_9 : decode cL_marks 9 = .ok (.goto 6, 3) := z_dk tdL_marks_0 7 rfl
theorem dL_marks_12 : decode cL_marks 12 = .ok (.astore_n 3, 1) := z_dk tdL_marks_0 8 rfl
theorem dL_marks_13 : decode cL_marks 13 = .ok (.iconst 1, 1) := z_dk tdL_marks_0 9 rfl
theorem dL_marks_14 : decode cL_marks 14 = .ok (.ireturn, 1) := z_dk tdL_marks_0 10 rfl
theorem dL_marks_15 : decode cL_marks 15 = .ok (.iconst 0, 1) := z_dk tdL_marks_0 11 rfl
theorem dL_marks_16 : decode cL_marks 16 = .ok (.ireturn, 1) := z_dk tdL_marks_0 12 rfl
theorem tdL_lend_0 : (([(0, .aload_n 2, 1), (1, .iconst 0, 1), (2, .aload_n 0, 1), (3, .iload_n 1, 1), (4, .invokevirtual 69, 3), (7, .i2l, 1), (8, .lastore, 1), (9, .goto 6, 3), (12, .astore_n 3, 1), (13, .iconst 1, 1), (14, .ireturn, 1), (15, .iconst 0, 1), (16, .ireturn, 1)] : List (Nat × Instr × Nat)).all fun e => decide (decode cL_lend e.1 = .ok e.2)) = true := by decide +kernel
theorem dL_lend_0 : decode cL_lend 0 = .ok (.aload_n 2, 1) := z_dk tdL_lend_0 0 rfl
theorem dL_lend_1 : decode cL_lend 1 = .ok (.iconst 0, 1) := z_dk tdL_lend_0 1 rfl
theorem dL_lend_2 : decode cL_lend 2 = .ok (.aload_n 0, 1) := z_dk tdL_lend_0 2 rfl
theorem dL_lend_3 : decode cL_lend 3 = .ok (.iload_n 1, 1) := z_dk tdL_lend_0 3 rfl
theorem dL_lend_4 : decode cL_lend 4 = .ok (.invokevirtual 69, 3) := z_dk tdL_lend_0 4 rfl
theorem dL_lend_7 : decode cL_lend 7 = .ok (.i2l, 1) := z_dk tdL_lend_0 5 rfl
theorem dL_lend_8 : decode cL_lend 8 = .ok (.lastore, 1) := z_dk tdL_lend_0 6 rfl
theorem dL_lend_9 : decode cL_lend 9 = .ok (.goto 6, 3) := z_dk tdL_lend_0 7 rfl
theorem dL_lend_12 : decode cL_lend 12 = .ok (.astore_n 3, 1) := z_dk tdL_lend_0 8 rfl
theorem dL_lend_13 : decode cL_lend 13 = .ok (.iconst 1, 1) := z_dk tdL_lend_0 9 rfl
theorem dL_lend_14 : decode cL_lend 14 = .ok (.ireturn, 1) := z_dk tdL_lend_0 10 rfl
theorem dL_lend_15 : decode cL_lend 15 = .ok (.iconst 0, 1) := z_dk tdL_lend_0 11 rfl
theorem dL_lend_16 : decode cL_lend 16 = .ok (.ireturn, 1) := z_dk tdL_lend_0 12 rfl
theorem tdL_nearest_0 : (([(0, .aload_n 2, 1), (1, .iconst 0, 1), (2, .aload_n 0, 1), (3, .iload_n 1, 1), (4, .invokevirtual 72, 3), (7, .i2l, 1), (8, .lastore, 1), (9, .goto 6, 3), (12, .astore_n 3, 1), (13, .iconst 1, 1), (14, .ireturn, 1), (15, .iconst 0, 1), (16, .ireturn, 1)] : List (Nat × Instr × Nat)).all fun e => decide (decode cL_nearest e.1 = .ok e.2)) = true := by decide +kernel
theorem dL_nearest_0 : decode cL_nearest 0 = .ok (.aload_n 2, 1) := z_dk tdL_nearest_0 0 rfl
theorem dL_nearest_1 : decode cL_nearest 1 = .ok (.iconst 0, 1) := z_dk tdL_nearest_0 1 rfl
theorem dL_nearest_2 : decode cL_nearest 2 = .ok (.aload_n 0, 1) := z_dk tdL_nearest_0 2 rfl
theorem dL_nearest_3 : decode cL_nearest 3 = .ok (.iload_n 1, 1) := z_dk tdL_nearest_0 3 rfl
theorem dL_nearest_4 : decode cL_nearest 4 = .ok (.invokevirtual 72, 3) := z_dk tdL_nearest_0 4 rfl
theorem dL_nearest_7 : decode cL_nearest 7 = .ok (.i2l, 1) := z_dk tdL_nearest_0 5 rfl
theorem dL_nearest_8 : decode cL_nearest 8 = .ok (.lastore, 1) := z_dk tdL_nearest_0 6 rfl
theorem dL_nearest_9 : decode cL_nearest 9 = .ok (.goto 6, 3) := z_dk tdL_nearest_0 7 rfl
theorem dL_nearest_12 : decode cL_nearest 12 = .ok (.astore_n 3, 1) := z_dk tdL_nearest_0 8 rfl
theorem dL_nearest_13 : decode cL_nearest 13 = .ok (.iconst 1, 1) := z_dk tdL_nearest_0 9 rfl
theorem dL_nearest_14 : decode cL_nearest 14 = .ok (.ireturn, 1) := z_dk tdL_nearest_0 10 rfl
theorem dL_nearest_15 : decode cL_nearest 15 = .ok (.iconst 0, 1) := z_dk tdL_nearest_0 11 rfl
theorem dL_nearest_16 : decode cL_nearest 16 = .ok (.ireturn, 1) := z_dk tdL_nearest_0 12 rfl
theorem tdL_partner_0 : (([(0, .aload_n 2, 1), (1, .iconst 0, 1), (2, .aload_n 0, 1), (3, .iload_n 1, 1), (4, .invokevirtual 75, 3), (7, .i2l, 1), (8, .lastore, 1), (9, .goto 6, 3), (12, .astore_n 3, 1), (13, .iconst 1, 1), (14, .ireturn, 1), (15, .iconst 0, 1), (16, .ireturn, 1)] : List (Nat × Instr × Nat)).all fun e => decide (decode cL_partner e.1 = .ok e.2)) = true := by decide +kernel
theorem dL_partner_0 : decode cL_partner 0 = .ok (.aload_n 2, 1) := z_dk tdL_partner_0 0 rfl
theorem dL_partner_1 : decode cL_partner 1 = .ok (.iconst 0, 1) := z_dk tdL_partner_0 1 rfl
theorem dL_partner_2 : decode cL_partner 2 = .ok (.aload_n 0, 1) := z_dk tdL_partner_0 2 rfl
theorem dL_partner_3 : decode cL_partner 3 = .ok (.iload_n 1, 1) := z_dk tdL_partner_0 3 rfl
theorem dL_partner_4 : decode cL_partner 4 = .ok (.invokevirtual 75, 3) := z_dk tdL_partner_0 4 rfl
theorem dL_partner_7 : decode cL_partner 7 = .ok (.i2l, 1) := z_dk tdL_partner_0 5 rfl
theorem dL_partner_8 : decode cL_partner 8 = .ok (.lastore, 1) := z_dk tdL_partner_0 6 rfl
theorem dL_partner_9 : decode cL_partner 9 = .ok (.goto 6, 3) := z_dk tdL_partner_0 7 rfl
theorem dL_partner_12 : decode cL_partner 12 = .ok (.astore_n 3, 1) := z_dk tdL_partner_0 8 rfl
theorem dL_partner_13 : decode cL_partner 13 = .ok (.iconst 1, 1) := z_dk tdL_partner_0 9 rfl
theorem dL_partner_14 : decode cL_partner 14 = .ok (.ireturn, 1) := z_dk tdL_partner_0 10 rfl
theorem dL_partner_15 : decode cL_partner 15 = .ok (.iconst 0, 1) := z_dk tdL_partner_0 11 rfl
theorem dL_partner_16 : decode cL_partner 16 = .ok (.ireturn, 1) := z_dk tdL_partner_0 12 rfl
theorem tdL_side_0 : (([(0, .aload 4, 2), (2, .iconst 0, 1), (3, .aload_n 0, 1), (4, .iload_n 1, 1), (5, .iload_n 2, 1), (6, .iload_n 3, 1), (7, .invokevirtual 78, 3), (10, .i2l, 1), (11, .lastore, 1), (12, .goto 11, 3), (15, .astore 5, 2), (17, .iconst 1, 1), (18, .ireturn, 1), (19, .astore 5, 2), (21, .iconst 2, 1), (22, .ireturn, 1), (23, .iconst 0, 1), (24, .ireturn, 1)] : List (Nat × Instr × Nat)).all fun e => decide (decode cL_side e.1 = .ok e.2)) = true := by decide +kernel
theorem dL_side_0 : decode cL_side 0 = .ok (.aload 4, 2) := z_dk tdL_side_0 0 rfl
theorem dL_side_2 : decode cL_side 2 = .ok (.iconst 0, 1) := z_dk tdL_side_0 1 rfl
theorem dL_side_3 : decode cL_side 3 = .ok (.aload_n 0, 1) := z_dk tdL_side_0 2 rfl
theorem dL_side_4 : decode cL_side 4 = .ok (.iload_n 1, 1) := z_dk tdL_side_0 3 rfl
theorem dL_side_5 : decode cL_side 5 = .ok (.iload_n 2, 1) := z_dk tdL_side_0 4 rfl
theorem dL_side_6 : decode cL_side 6 = .ok (.iload_n 3, 1) := z_dk tdL_side_0 5 rfl
theorem dL_side_7 : decode cL_side 7 = .ok (.invokevirtual 78, 3) := z_dk tdL_side_0 6 rfl
theorem dL_side_10 : decode cL_side 10 = .ok (.i2l, 1) := z_dk tdL_side_0 7 rfl
theorem dL_side_11 : decode cL_side 11 = .ok (.lastore, 1) := z_dk tdL_side_0 8 rfl
theorem dL_side_12 : decode cL_side 12 = .ok (.goto 11, 3) := z_dk tdL_side_0 9 rfl
theorem dL_side_15 : decode cL_side 15 = .ok (.astore 5, 2) := z_dk tdL_side_0 10 rfl
theorem dL_side_17 : decode cL_side 17 = .ok (.iconst 1, 1) := z_dk tdL_side_0 11 rfl
theorem dL_side_18 : decode cL_side 18 = .ok (.ireturn, 1) := z_dk tdL_side_0 12 rfl
theorem dL_side_19 : decode cL_side 19 = .ok (.astore 5, 2) := z_dk tdL_side_0 13 rfl
theorem dL_side_21 : decode cL_side 21 = .ok (.iconst 2, 1) := z_dk tdL_side_0 14 rfl
theorem dL_side_22 : decode cL_side 22 = .ok (.ireturn, 1) := z_dk tdL_side_0 15 rfl
theorem dL_side_23 : decode cL_side 23 = .ok (.iconst 0, 1) := z_dk tdL_side_0 16 rfl
theorem dL_side_24 : decode cL_side 24 = .ok (.ireturn, 1) := z_dk tdL_side_0 17 rfl
theorem tdL_gutter_0 : (([(0, .aload_n 2, 1), (1, .iconst 0, 1), (2, .aload_n 0, 1), (3, .iload_n 1, 1), (4, .invokevirtual 82, 3), (7, .i2l, 1), (8, .lastore, 1), (9, .goto 6, 3), (12, .astore_n 3, 1), (13, .iconst 1, 1), (14, .ireturn, 1), (15, .iconst 0, 1), (16, .ireturn, 1)] : List (Nat × Instr × Nat)).all fun e => decide (decode cL_gutter e.1 = .ok e.2)) = true := by decide +kernel
theorem dL_gutter_0 : decode cL_gutter 0 = .ok (.aload_n 2, 1) := z_dk tdL_gutter_0 0 rfl
theorem dL_gutter_1 : decode cL_gutter 1 = .ok (.iconst 0, 1) := z_dk tdL_gutter_0 1 rfl
theorem dL_gutter_2 : decode cL_gutter 2 = .ok (.aload_n 0, 1) := z_dk tdL_gutter_0 2 rfl
theorem dL_gutter_3 : decode cL_gutter 3 = .ok (.iload_n 1, 1) := z_dk tdL_gutter_0 3 rfl
theorem dL_gutter_4 : decode cL_gutter 4 = .ok (.invokevirtual 82, 3) := z_dk tdL_gutter_0 4 rfl
theorem dL_gutter_7 : decode cL_gutter 7 = .ok (.i2l, 1) := z_dk tdL_gutter_0 5 rfl
theorem dL_gutter_8 : decode cL_gutter 8 = .ok (.lastore, 1) := z_dk tdL_gutter_0 6 rfl
theorem dL_gutter_9 : decode cL_gutter 9 = .ok (.goto 6, 3) := z_dk tdL_gutter_0 7 rfl
theorem dL_gutter_12 : decode cL_gutter 12 = .ok (.astore_n 3, 1) := z_dk tdL_gutter_0 8 rfl
theorem dL_gutter_13 : decode cL_gutter 13 = .ok (.iconst 1, 1) := z_dk tdL_gutter_0 9 rfl
theorem dL_gutter_14 : decode cL_gutter 14 = .ok (.ireturn, 1) := z_dk tdL_gutter_0 10 rfl
theorem dL_gutter_15 : decode cL_gutter 15 = .ok (.iconst 0, 1) := z_dk tdL_gutter_0 11 rfl
theorem dL_gutter_16 : decode cL_gutter 16 = .ok (.ireturn, 1) := z_dk tdL_gutter_0 12 rfl
theorem tdL_clash_0 : (([(0, .aload_n 2, 1), (1, .iconst 0, 1), (2, .aload_n 0, 1), (3, .iload_n 1, 1), (4, .invokevirtual 85, 3), (7, .i2l, 1), (8, .lastore, 1), (9, .goto 6, 3), (12, .astore_n 3, 1), (13, .iconst 1, 1), (14, .ireturn, 1), (15, .iconst 0, 1), (16, .ireturn, 1)] : List (Nat × Instr × Nat)).all fun e => decide (decode cL_clash e.1 = .ok e.2)) = true := by decide +kernel
theorem dL_clash_0 : decode cL_clash 0 = .ok (.aload_n 2, 1) := z_dk tdL_clash_0 0 rfl
theorem dL_clash_1 : decode cL_clash 1 = .ok (.iconst 0, 1) := z_dk tdL_clash_0 1 rfl
theorem dL_clash_2 : decode cL_clash 2 = .ok (.aload_n 0, 1) := z_dk tdL_clash_0 2 rfl
theorem dL_clash_3 : decode cL_clash 3 = .ok (.iload_n 1, 1) := z_dk tdL_clash_0 3 rfl
theorem dL_clash_4 : decode cL_clash 4 = .ok (.invokevirtual 85, 3) := z_dk tdL_clash_0 4 rfl
theorem dL_clash_7 : decode cL_clash 7 = .ok (.i2l, 1) := z_dk tdL_clash_0 5 rfl
theorem dL_clash_8 : decode cL_clash 8 = .ok (.lastore, 1) := z_dk tdL_clash_0 6 rfl
theorem dL_clash_9 : decode cL_clash 9 = .ok (.goto 6, 3) := z_dk tdL_clash_0 7 rfl
theorem dL_clash_12 : decode cL_clash 12 = .ok (.astore_n 3, 1) := z_dk tdL_clash_0 8 rfl
theorem dL_clash_13 : decode cL_clash 13 = .ok (.iconst 1, 1) := z_dk tdL_clash_0 9 rfl
theorem dL_clash_14 : decode cL_clash 14 = .ok (.ireturn, 1) := z_dk tdL_clash_0 10 rfl
theorem dL_clash_15 : decode cL_clash 15 = .ok (.iconst 0, 1) := z_dk tdL_clash_0 11 rfl
theorem dL_clash_16 : decode cL_clash 16 = .ok (.ireturn, 1) := z_dk tdL_clash_0 12 rfl
theorem tdL_thick_0 : (([(0, .aload_n 3, 1), (1, .iconst 0, 1), (2, .aload_n 0, 1), (3, .iload_n 1, 1), (4, .iload_n 2, 1), (5, .invokevirtual 88, 3), (8, .i2l, 1), (9, .lastore, 1), (10, .goto 11, 3), (13, .astore 4, 2), (15, .iconst 1, 1), (16, .ireturn, 1), (17, .astore 4, 2), (19, .iconst 2, 1), (20, .ireturn, 1), (21, .iconst 0, 1), (22, .ireturn, 1)] : List (Nat × Instr × Nat)).all fun e => decide (decode cL_thick e.1 = .ok e.2)) = true := by decide +kernel
theorem dL_thick_0 : decode cL_thick 0 = .ok (.aload_n 3, 1) := z_dk tdL_thick_0 0 rfl
theorem dL_thick_1 : decode cL_thick 1 = .ok (.iconst 0, 1) := z_dk tdL_thick_0 1 rfl
theorem dL_thick_2 : decode cL_thick 2 = .ok (.aload_n 0, 1) := z_dk tdL_thick_0 2 rfl
theorem dL_thick_3 : decode cL_thick 3 = .ok (.iload_n 1, 1) := z_dk tdL_thick_0 3 rfl
theorem dL_thick_4 : decode cL_thick 4 = .ok (.iload_n 2, 1) := z_dk tdL_thick_0 4 rfl
theorem dL_thick_5 : decode cL_thick 5 = .ok (.invokevirtual 88, 3) := z_dk tdL_thick_0 5 rfl
theorem dL_thick_8 : decode cL_thick 8 = .ok (.i2l, 1) := z_dk tdL_thick_0 6 rfl
theorem dL_thick_9 : decode cL_thick 9 = .ok (.lastore, 1) := z_dk tdL_thick_0 7 rfl
theorem dL_thick_10 : decode cL_thick 10 = .ok (.goto 11, 3) := z_dk tdL_thick_0 8 rfl
theorem dL_thick_13 : decode cL_thick 13 = .ok (.astore 4, 2) := z_dk tdL_thick_0 9 rfl
theorem dL_thick_15 : decode cL_thick 15 = .ok (.iconst 1, 1) := z_dk tdL_thick_0 10 rfl
theorem dL_thick_16 : decode cL_thick 16 = .ok (.ireturn, 1) := z_dk tdL_thick_0 11 rfl
theorem dL_thick_17 : decode cL_thick 17 = .ok (.astore 4, 2) := z_dk tdL_thick_0 12 rfl
theorem dL_thick_19 : decode cL_thick 19 = .ok (.iconst 2, 1) := z_dk tdL_thick_0 13 rfl
theorem dL_thick_20 : decode cL_thick 20 = .ok (.ireturn, 1) := z_dk tdL_thick_0 14 rfl
theorem dL_thick_21 : decode cL_thick 21 = .ok (.iconst 0, 1) := z_dk tdL_thick_0 15 rfl
theorem dL_thick_22 : decode cL_thick 22 = .ok (.ireturn, 1) := z_dk tdL_thick_0 16 rfl
theorem tdL_pages_0 : (([(0, .aload_n 2, 1), (1, .iconst 0, 1), (2, .aload_n 0, 1), (3, .iload_n 1, 1), (4, .invokevirtual 91, 3), (7, .i2l, 1), (8, .lastore, 1), (9, .goto 6, 3), (12, .astore_n 3, 1), (13, .iconst 1, 1), (14, .ireturn, 1), (15, .iconst 0, 1), (16, .ireturn, 1)] : List (Nat × Instr × Nat)).all fun e => decide (decode cL_pages e.1 = .ok e.2)) = true := by decide +kernel
theorem dL_pages_0 : decode cL_pages 0 = .ok (.aload_n 2, 1) := z_dk tdL_pages_0 0 rfl
theorem dL_pages_1 : decode cL_pages 1 = .ok (.iconst 0, 1) := z_dk tdL_pages_0 1 rfl
theorem dL_pages_2 : decode cL_pages 2 = .ok (.aload_n 0, 1) := z_dk tdL_pages_0 2 rfl
theorem dL_pages_3 : decode cL_pages 3 = .ok (.iload_n 1, 1) := z_dk tdL_pages_0 3 rfl
theorem dL_pages_4 : decode cL_pages 4 = .ok (.invokevirtual 91, 3) := z_dk tdL_pages_0 4 rfl
theorem dL_pages_7 : decode cL_pages 7 = .ok (.i2l, 1) := z_dk tdL_pages_0 5 rfl
theorem dL_pages_8 : decode cL_pages 8 = .ok (.lastore, 1) := z_dk tdL_pages_0 6 rfl
theorem dL_pages_9 : decode cL_pages 9 = .ok (.goto 6, 3) := z_dk tdL_pages_0 7 rfl
theorem dL_pages_12 : decode cL_pages 12 = .ok (.astore_n 3, 1) := z_dk tdL_pages_0 8 rfl
theorem dL_pages_13 : decode cL_pages 13 = .ok (.iconst 1, 1) := z_dk tdL_pages_0 9 rfl
theorem dL_pages_14 : decode cL_pages 14 = .ok (.ireturn, 1) := z_dk tdL_pages_0 10 rfl
theorem dL_pages_15 : decode cL_pages 15 = .ok (.iconst 0, 1) := z_dk tdL_pages_0 11 rfl
theorem dL_pages_16 : decode cL_pages 16 = .ok (.ireturn, 1) := z_dk tdL_pages_0 12 rfl
theorem tdL_page_0 : (([(0, .aload 4, 2), (2, .iconst 0, 1), (3, .aload_n 0, 1), (4, .iload_n 1, 1), (5, .iload_n 2, 1), (6, .iload_n 3, 1), (7, .invokevirtual 94, 3), (10, .i2l, 1), (11, .lastore, 1), (12, .goto 7, 3), (15, .astore 5, 2), (17, .iconst 1, 1), (18, .ireturn, 1), (19, .iconst 0, 1), (20, .ireturn, 1)] : List (Nat × Instr × Nat)).all fun e => decide (decode cL_page e.1 = .ok e.2)) = true := by decide +kernel
theorem dL_page_0 : decode cL_page 0 = .ok (.aload 4, 2) := z_dk tdL_page_0 0 rfl
theorem dL_page_2 : decode cL_page 2 = .ok (.iconst 0, 1) := z_dk tdL_page_0 1 rfl
theorem dL_page_3 : decode cL_page 3 = .ok (.aload_n 0, 1) := z_dk tdL_page_0 2 rfl
theorem dL_page_4 : decode cL_page 4 = .ok (.iload_n 1, 1) := z_dk tdL_page_0 3 rfl
theorem dL_page_5 : decode cL_page 5 = .ok (.iload_n 2, 1) := z_dk tdL_page_0 4 rfl
theorem dL_page_6 : decode cL_page 6 = .ok (.iload_n 3, 1) := z_dk tdL_page_0 5 rfl
theorem dL_page_7 : decode cL_page 7 = .ok (.invokevirtual 94, 3) := z_dk tdL_page_0 6 rfl
theorem dL_page_10 : decode cL_page 10 = .ok (.i2l, 1) := z_dk tdL_page_0 7 rfl
theorem dL_page_11 : decode cL_page 11 = .ok (.lastore, 1) := z_dk tdL_page_0 8 rfl
theorem dL_page_12 : decode cL_page 12 = .ok (.goto 7, 3) := z_dk tdL_page_0 9 rfl
theorem dL_page_15 : decode cL_page 15 = .ok (.astore 5, 2) := z_dk tdL_page_0 10 rfl
theorem dL_page_17 : decode cL_page 17 = .ok (.iconst 1, 1) := z_dk tdL_page_0 11 rfl
theorem dL_page_18 : decode cL_page 18 = .ok (.ireturn, 1) := z_dk tdL_page_0 12 rfl
theorem dL_page_19 : decode cL_page 19 = .ok (.iconst 0, 1) := z_dk tdL_page_0 13 rfl
theorem dL_page_20 : decode cL_page 20 = .ok (.ireturn, 1) := z_dk tdL_page_0 14 rfl
theorem tdL_narrow_0 : (([(0, .aload_n 2, 1), (1, .iconst 0, 1), (2, .aload_n 0, 1), (3, .iload_n 1, 1), (4, .invokevirtual 97, 3), (7, .i2l, 1), (8, .lastore, 1), (9, .goto 6, 3), (12, .astore_n 3, 1), (13, .iconst 1, 1), (14, .ireturn, 1), (15, .iconst 0, 1), (16, .ireturn, 1)] : List (Nat × Instr × Nat)).all fun e => decide (decode cL_narrow e.1 = .ok e.2)) = true := by decide +kernel
theorem dL_narrow_0 : decode cL_narrow 0 = .ok (.aload_n 2, 1) := z_dk tdL_narrow_0 0 rfl
theorem dL_narrow_1 : decode cL_narrow 1 = .ok (.iconst 0, 1) := z_dk tdL_narrow_0 1 rfl
theorem dL_narrow_2 : decode cL_narrow 2 = .ok (.aload_n 0, 1) := z_dk tdL_narrow_0 2 rfl
theorem dL_narrow_3 : decode cL_narrow 3 = .ok (.iload_n 1, 1) := z_dk tdL_narrow_0 3 rfl
theorem dL_narrow_4 : decode cL_narrow 4 = .ok (.invokevirtual 97, 3) := z_dk tdL_narrow_0 4 rfl
theorem dL_narrow_7 : decode cL_narrow 7 = .ok (.i2l, 1) := z_dk tdL_narrow_0 5 rfl
theorem dL_narrow_8 : decode cL_narrow 8 = .ok (.lastore, 1) := z_dk tdL_narrow_0 6 rfl
theorem dL_narrow_9 : decode cL_narrow 9 = .ok (.goto 6, 3) := z_dk tdL_narrow_0 7 rfl
theorem dL_narrow_12 : decode cL_narrow 12 = .ok (.astore_n 3, 1) := z_dk tdL_narrow_0 8 rfl
theorem dL_narrow_13 : decode cL_narrow 13 = .ok (.iconst 1, 1) := z_dk tdL_narrow_0 9 rfl
theorem dL_narrow_14 : decode cL_narrow 14 = .ok (.ireturn, 1) := z_dk tdL_narrow_0 10 rfl
theorem dL_narrow_15 : decode cL_narrow 15 = .ok (.iconst 0, 1) := z_dk tdL_narrow_0 11 rfl
theorem dL_narrow_16 : decode cL_narrow 16 = .ok (.ireturn, 1) := z_dk tdL_narrow_0 12 rfl
theorem tdL_law_0 : (([(0, .new 8, 3), (3, .dup, 1), (4, .invokespecial 100, 3), (7, .astore_n 1, 1), (8, .new 101, 3), (11, .dup, 1), (12, .invokespecial 103, 3), (15, .astore_n 2, 1), (16, .iconst 1, 1), (17, .newarray .long, 2), (19, .astore_n 3, 1), (20, .iconst 0, 1), (21, .istore 4, 2), (23, .iload 4, 2), (25, .aload_n 0, 1), (26, .arraylength, 1), (27, .bipush 6, 2), (29, .isub, 1), (30, .if_icmp .gt 1314, 3), (33, .aload_n 0, 1), (34, .iload 4, 2), (36, .iaload, 1), (37, .bipush 63, 2), (39, .iand, 1)] : List (Nat × Instr × Nat)).all fun e => decide (decode cL_law e.1 = .ok e.2)) = true := by decide +kernel
theorem dL_law_0 : decode cL_law 0 = .ok (.new 8, 3) := z_dk tdL_law_0 0 rfl
theorem dL_law_3 : decode cL_law 3 = .ok (.dup, 1) := z_dk tdL_law_0 1 rfl
theorem dL_law_4 : decode cL_law 4 = .ok (.invokespecial 100, 3) := z_dk tdL_law_0 2 rfl
theorem dL_law_7 : decode cL_law 7 = .ok (.astore_n 1, 1) := z_dk tdL_law_0 3 rfl
theorem dL_law_8 : decode cL_law 8 = .ok (.new 101, 3) := z_dk tdL_law_0 4 rfl
theorem dL_law_11 : decode cL_law 11 = .ok (.dup, 1) := z_dk tdL_law_0 5 rfl
theorem dL_law_12 : decode cL_law 12 = .ok (.invokespecial 103, 3) := z_dk tdL_law_0 6 rfl
theorem dL_law_15 : decode cL_law 15 = .ok (.astore_n 2, 1) := z_dk tdL_law_0 7 rfl
theorem dL_law_16 : decode cL_law 16 = .ok (.iconst 1, 1) := z_dk tdL_law_0 8 rfl
theorem dL_law_17 : decode cL_law 17 = .ok (.newarray .long, 2) := z_dk tdL_law_0 9 rfl
theorem dL_law_19 : decode cL_law 19 = .ok (.astore_n 3, 1) := z_dk tdL_law_0 10 rfl
theorem dL_law_20 : decode cL_law 20 = .ok (.iconst 0, 1) := z_dk tdL_law_0 11 rfl
theorem dL_law_21 : decode cL_law 21 = .ok (.istore 4, 2) := z_dk tdL_law_0 12 rfl
theorem dL_law_23 : decode cL_law 23 = .ok (.iload 4, 2) := z_dk tdL_law_0 13 rfl
theorem dL_law_25 : decode cL_law 25 = .ok (.aload_n 0, 1) := z_dk tdL_law_0 14 rfl
theorem dL_law_26 : decode cL_law 26 = .ok (.arraylength, 1) := z_dk tdL_law_0 15 rfl
theorem dL_law_27 : decode cL_law 27 = .ok (.bipush 6, 2) := z_dk tdL_law_0 16 rfl
theorem dL_law_29 : decode cL_law 29 = .ok (.isub, 1) := z_dk tdL_law_0 17 rfl
theorem dL_law_30 : decode cL_law 30 = .ok (.if_icmp .gt 1314, 3) := z_dk tdL_law_0 18 rfl
theorem dL_law_33 : decode cL_law 33 = .ok (.aload_n 0, 1) := z_dk tdL_law_0 19 rfl
theorem dL_law_34 : decode cL_law 34 = .ok (.iload 4, 2) := z_dk tdL_law_0 20 rfl
theorem dL_law_36 : decode cL_law 36 = .ok (.iaload, 1) := z_dk tdL_law_0 21 rfl
theorem dL_law_37 : decode cL_law 37 = .ok (.bipush 63, 2) := z_dk tdL_law_0 22 rfl
theorem dL_law_39 : decode cL_law 39 = .ok (.iand, 1) := z_dk tdL_law_0 23 rfl
theorem tdL_law_40 : (([(40, .tableswitch 1298 0 32 #[148, 221, 249, 277, 290, 330, 370, 383, 411, 451, 491, 531, 571, 635, 675, 715, 743, 783, 823, 851, 864, 892, 905, 933, 961, 989, 1041, 1069, 1097, 1137, 1165, 1217, 1273], 148), (188, .aload_n 1, 1), (189, .aload_n 0, 1), (190, .iload 4, 2), (192, .iconst 1, 1), (193, .iadd, 1), (194, .iaload, 1), (195, .aload_n 0, 1), (196, .iload 4, 2), (198, .iconst 2, 1), (199, .iadd, 1), (200, .iaload, 1), (201, .aload_n 0, 1), (202, .iload 4, 2), (204, .iconst 3, 1), (205, .iadd, 1), (206, .iaload, 1), (207, .aload_n 0, 1), (208, .iload 4, 2), (210, .iconst 4, 1), (211, .iadd, 1), (212, .iaload, 1), (213, .aload_n 0, 1), (214, .iload 4, 2)] : List (Nat × Instr × Nat)).all fun e => decide (decode cL_law e.1 = .ok e.2)) = true := by decide +kernel
theorem dL_law_40 : decode cL_law 40 = .ok (.tableswitch 1298 0 32 #[148, 221, 249, 277, 290, 330, 370, 383, 411, 451, 491, 531, 571, 635, 675, 715, 743, 783, 823, 851, 864, 892, 905, 933, 961, 989, 1041, 1069, 1097, 1137, 1165, 1217, 1273], 148) := z_dk tdL_law_40 0 rfl
theorem dL_law_188 : decode cL_law 188 = .ok (.aload_n 1, 1) := z_dk tdL_law_40 1 rfl
theorem dL_law_189 : decode cL_law 189 = .ok (.aload_n 0, 1) := z_dk tdL_law_40 2 rfl
theorem dL_law_190 : decode cL_law 190 = .ok (.iload 4, 2) := z_dk tdL_law_40 3 rfl
theorem dL_law_192 : decode cL_law 192 = .ok (.iconst 1, 1) := z_dk tdL_law_40 4 rfl
theorem dL_law_193 : decode cL_law 193 = .ok (.iadd, 1) := z_dk tdL_law_40 5 rfl
theorem dL_law_194 : decode cL_law 194 = .ok (.iaload, 1) := z_dk tdL_law_40 6 rfl
theorem dL_law_195 : decode cL_law 195 = .ok (.aload_n 0, 1) := z_dk tdL_law_40 7 rfl
theorem dL_law_196 : decode cL_law 196 = .ok (.iload 4, 2) := z_dk tdL_law_40 8 rfl
theorem dL_law_198 : decode cL_law 198 = .ok (.iconst 2, 1) := z_dk tdL_law_40 9 rfl
theorem dL_law_199 : decode cL_law 199 = .ok (.iadd, 1) := z_dk tdL_law_40 10 rfl
theorem dL_law_200 : decode cL_law 200 = .ok (.iaload, 1) := z_dk tdL_law_40 11 rfl
theorem dL_law_201 : decode cL_law 201 = .ok (.aload_n 0, 1) := z_dk tdL_law_40 12 rfl
theorem dL_law_202 : decode cL_law 202 = .ok (.iload 4, 2) := z_dk tdL_law_40 13 rfl
theorem dL_law_204 : decode cL_law 204 = .ok (.iconst 3, 1) := z_dk tdL_law_40 14 rfl
theorem dL_law_205 : decode cL_law 205 = .ok (.iadd, 1) := z_dk tdL_law_40 15 rfl
theorem dL_law_206 : decode cL_law 206 = .ok (.iaload, 1) := z_dk tdL_law_40 16 rfl
theorem dL_law_207 : decode cL_law 207 = .ok (.aload_n 0, 1) := z_dk tdL_law_40 17 rfl
theorem dL_law_208 : decode cL_law 208 = .ok (.iload 4, 2) := z_dk tdL_law_40 18 rfl
theorem dL_law_210 : decode cL_law 210 = .ok (.iconst 4, 1) := z_dk tdL_law_40 19 rfl
theorem dL_law_211 : decode cL_law 211 = .ok (.iadd, 1) := z_dk tdL_law_40 20 rfl
theorem dL_law_212 : decode cL_law 212 = .ok (.iaload, 1) := z_dk tdL_law_40 21 rfl
theorem dL_law_213 : decode cL_law 213 = .ok (.aload_n 0, 1) := z_dk tdL_law_40 22 rfl
theorem dL_law_214 : decode cL_law 214 = .ok (.iload 4, 2) := z_dk tdL_law_40 23 rfl
theorem tdL_law_216 : (([(216, .iconst 5, 1), (217, .iadd, 1), (218, .iaload, 1), (219, .invokevirtual 104, 3), (222, .pop, 1), (223, .aload_n 2, 1), (224, .aload_n 0, 1), (225, .iload 4, 2), (227, .iconst 1, 1), (228, .iadd, 1), (229, .iaload, 1), (230, .aload_n 0, 1), (231, .iload 4, 2), (233, .iconst 2, 1), (234, .iadd, 1), (235, .iaload, 1), (236, .aload_n 0, 1), (237, .iload 4, 2), (239, .iconst 3, 1), (240, .iadd, 1), (241, .iaload, 1), (242, .aload_n 0, 1), (243, .iload 4, 2), (245, .iconst 4, 1)] : List (Nat × Instr × Nat)).all fun e => decide (decode cL_law e.1 = .ok e.2)) = true := by decide +kernel
theorem dL_law_216 : decode cL_law 216 = .ok (.iconst 5, 1) := z_dk tdL_law_216 0 rfl
theorem dL_law_217 : decode cL_law 217 = .ok (.iadd, 1) := z_dk tdL_law_216 1 rfl
theorem dL_law_218 : decode cL_law 218 = .ok (.iaload, 1) := z_dk tdL_law_216 2 rfl
theorem dL_law_219 : decode cL_law 219 = .ok (.invokevirtual 104, 3) := z_dk tdL_law_216 3 rfl
theorem dL_law_222 : decode cL_law 222 = .ok (.pop, 1) := z_dk tdL_law_216 4 rfl
theorem dL_law_223 : decode cL_law 223 = .ok (.aload_n 2, 1) := z_dk tdL_law_216 5 rfl
theorem dL_law_224 : decode cL_law 224 = .ok (.aload_n 0, 1) := z_dk tdL_law_216 6 rfl
theorem dL_law_225 : decode cL_law 225 = .ok (.iload 4, 2) := z_dk tdL_law_216 7 rfl
theorem dL_law_227 : decode cL_law 227 = .ok (.iconst 1, 1) := z_dk tdL_law_216 8 rfl
theorem dL_law_228 : decode cL_law 228 = .ok (.iadd, 1) := z_dk tdL_law_216 9 rfl
theorem dL_law_229 : decode cL_law 229 = .ok (.iaload, 1) := z_dk tdL_law_216 10 rfl
theorem dL_law_230 : decode cL_law 230 = .ok (.aload_n 0, 1) := z_dk tdL_law_216 11 rfl
theorem dL_law_231 : decode cL_law 231 = .ok (.iload 4, 2) := z_dk tdL_law_216 12 rfl
theorem dL_law_233 : decode cL_law 233 = .ok (.iconst 2, 1) := z_dk tdL_law_216 13 rfl
theorem dL_law_234 : decode cL_law 234 = .ok (.iadd, 1) := z_dk tdL_law_216 14 rfl
theorem dL_law_235 : decode cL_law 235 = .ok (.iaload, 1) := z_dk tdL_law_216 15 rfl
theorem dL_law_236 : decode cL_law 236 = .ok (.aload_n 0, 1) := z_dk tdL_law_216 16 rfl
theorem dL_law_237 : decode cL_law 237 = .ok (.iload 4, 2) := z_dk tdL_law_216 17 rfl
theorem dL_law_239 : decode cL_law 239 = .ok (.iconst 3, 1) := z_dk tdL_law_216 18 rfl
theorem dL_law_240 : decode cL_law 240 = .ok (.iadd, 1) := z_dk tdL_law_216 19 rfl
theorem dL_law_241 : decode cL_law 241 = .ok (.iaload, 1) := z_dk tdL_law_216 20 rfl
theorem dL_law_242 : decode cL_law 242 = .ok (.aload_n 0, 1) := z_dk tdL_law_216 21 rfl
theorem dL_law_243 : decode cL_law 243 = .ok (.iload 4, 2) := z_dk tdL_law_216 22 rfl
theorem dL_law_245 : decode cL_law 245 = .ok (.iconst 4, 1) := z_dk tdL_law_216 23 rfl
theorem tdL_law_246 : (([(246, .iadd, 1), (247, .iaload, 1), (248, .aload_n 0, 1), (249, .iload 4, 2), (251, .iconst 5, 1), (252, .iadd, 1), (253, .iaload, 1), (254, .invokevirtual 108, 3), (257, .pop, 1), (258, .goto 1080, 3), (261, .aload_n 1, 1), (262, .aload_n 0, 1), (263, .iload 4, 2), (265, .iconst 1, 1), (266, .iadd, 1), (267, .iaload, 1), (268, .aload_n 3, 1), (269, .invokestatic 109, 3), (272, .istore 5, 2), (274, .aload_n 2, 1), (275, .aload_n 0, 1), (276, .iload 4, 2), (278, .iconst 1, 1), (279, .iadd, 1)] : List (Nat × Instr × Nat)).all fun e => decide (decode cL_law e.1 = .ok e.2)) = true := by decide +kernel
theorem dL_law_246 : decode cL_law 246 = .ok (.iadd, 1) := z_dk tdL_law_246 0 rfl
theorem dL_law_247 : decode cL_law 247 = .ok (.iaload, 1) := z_dk tdL_law_246 1 rfl
theorem dL_law_248 : decode cL_law 248 = .ok (.aload_n 0, 1) := z_dk tdL_law_246 2 rfl
theorem dL_law_249 : decode cL_law 249 = .ok (.iload 4, 2) := z_dk tdL_law_246 3 rfl
theorem dL_law_251 : decode cL_law 251 = .ok (.iconst 5, 1) := z_dk tdL_law_246 4 rfl
theorem dL_law_252 : decode cL_law 252 = .ok (.iadd, 1) := z_dk tdL_law_246 5 rfl
theorem dL_law_253 : decode cL_law 253 = .ok (.iaload, 1) := z_dk tdL_law_246 6 rfl
theorem dL_law_254 : decode cL_law 254 = .ok (.invokevirtual 108, 3) := z_dk tdL_law_246 7 rfl
theorem dL_law_257 : decode cL_law 257 = .ok (.pop, 1) := z_dk tdL_law_246 8 rfl
theorem dL_law_258 : decode cL_law 258 = .ok (.goto 1080, 3) := z_dk tdL_law_246 9 rfl
theorem dL_law_261 : decode cL_law 261 = .ok (.aload_n 1, 1) := z_dk tdL_law_246 10 rfl
theorem dL_law_262 : decode cL_law 262 = .ok (.aload_n 0, 1) := z_dk tdL_law_246 11 rfl
theorem dL_law_263 : decode cL_law 263 = .ok (.iload 4, 2) := z_dk tdL_law_246 12 rfl
theorem dL_law_265 : decode cL_law 265 = .ok (.iconst 1, 1) := z_dk tdL_law_246 13 rfl
theorem dL_law_266 : decode cL_law 266 = .ok (.iadd, 1) := z_dk tdL_law_246 14 rfl
theorem dL_law_267 : decode cL_law 267 = .ok (.iaload, 1) := z_dk tdL_law_246 15 rfl
theorem dL_law_268 : decode cL_law 268 = .ok (.aload_n 3, 1) := z_dk tdL_law_246 16 rfl
theorem dL_law_269 : decode cL_law 269 = .ok (.invokestatic 109, 3) := z_dk tdL_law_246 17 rfl
theorem dL_law_272 : decode cL_law 272 = .ok (.istore 5, 2) := z_dk tdL_law_246 18 rfl
theorem dL_law_274 : decode cL_law 274 = .ok (.aload_n 2, 1) := z_dk tdL_law_246 19 rfl
theorem dL_law_275 : decode cL_law 275 = .ok (.aload_n 0, 1) := z_dk tdL_law_246 20 rfl
theorem dL_law_276 : decode cL_law 276 = .ok (.iload 4, 2) := z_dk tdL_law_246 21 rfl
theorem dL_law_278 : decode cL_law 278 = .ok (.iconst 1, 1) := z_dk tdL_law_246 22 rfl
theorem dL_law_279 : decode cL_law 279 = .ok (.iadd, 1) := z_dk tdL_law_246 23 rfl
theorem tdL_law_280 : (([(280, .iaload, 1), (281, .invokevirtual 114, 3), (284, .istore 6, 2), (286, .goto 1052, 3), (289, .aload_n 1, 1), (290, .aload_n 0, 1), (291, .iload 4, 2), (293, .iconst 1, 1), (294, .iadd, 1), (295, .iaload, 1), (296, .aload_n 3, 1), (297, .invokestatic 115, 3), (300, .istore 5, 2), (302, .aload_n 2, 1), (303, .aload_n 0, 1), (304, .iload 4, 2), (306, .iconst 1, 1), (307, .iadd, 1), (308, .iaload, 1), (309, .invokevirtual 117, 3), (312, .istore 6, 2), (314, .goto 1024, 3), (317, .aload_n 1, 1), (318, .invokevirtual 118, 3)] : List (Nat × Instr × Nat)).all fun e => decide (decode cL_law e.1 = .ok e.2)) = true := by decide +kernel
theorem dL_law_280 : decode cL_law 280 = .ok (.iaload, 1) := z_dk tdL_law_280 0 rfl
theorem dL_law_281 : decode cL_law 281 = .ok (.invokevirtual 114, 3) := z_dk tdL_law_280 1 rfl
theorem dL_law_284 : decode cL_law 284 = .ok (.istore 6, 2) := z_dk tdL_law_280 2 rfl
theorem dL_law_286 : decode cL_law 286 = .ok (.goto 1052, 3) := z_dk tdL_law_280 3 rfl
theorem dL_law_289 : decode cL_law 289 = .ok (.aload_n 1, 1) := z_dk tdL_law_280 4 rfl
theorem dL_law_290 : decode cL_law 290 = .ok (.aload_n 0, 1) := z_dk tdL_law_280 5 rfl
theorem dL_law_291 : decode cL_law 291 = .ok (.iload 4, 2) := z_dk tdL_law_280 6 rfl
theorem dL_law_293 : decode cL_law 293 = .ok (.iconst 1, 1) := z_dk tdL_law_280 7 rfl
theorem dL_law_294 : decode cL_law 294 = .ok (.iadd, 1) := z_dk tdL_law_280 8 rfl
theorem dL_law_295 : decode cL_law 295 = .ok (.iaload, 1) := z_dk tdL_law_280 9 rfl
theorem dL_law_296 : decode cL_law 296 = .ok (.aload_n 3, 1) := z_dk tdL_law_280 10 rfl
theorem dL_law_297 : decode cL_law 297 = .ok (.invokestatic 115, 3) := z_dk tdL_law_280 11 rfl
theorem dL_law_300 : decode cL_law 300 = .ok (.istore 5, 2) := z_dk tdL_law_280 12 rfl
theorem dL_law_302 : decode cL_law 302 = .ok (.aload_n 2, 1) := z_dk tdL_law_280 13 rfl
theorem dL_law_303 : decode cL_law 303 = .ok (.aload_n 0, 1) := z_dk tdL_law_280 14 rfl
theorem dL_law_304 : decode cL_law 304 = .ok (.iload 4, 2) := z_dk tdL_law_280 15 rfl
theorem dL_law_306 : decode cL_law 306 = .ok (.iconst 1, 1) := z_dk tdL_law_280 16 rfl
theorem dL_law_307 : decode cL_law 307 = .ok (.iadd, 1) := z_dk tdL_law_280 17 rfl
theorem dL_law_308 : decode cL_law 308 = .ok (.iaload, 1) := z_dk tdL_law_280 18 rfl
theorem dL_law_309 : decode cL_law 309 = .ok (.invokevirtual 117, 3) := z_dk tdL_law_280 19 rfl
theorem dL_law_312 : decode cL_law 312 = .ok (.istore 6, 2) := z_dk tdL_law_280 20 rfl
theorem dL_law_314 : decode cL_law 314 = .ok (.goto 1024, 3) := z_dk tdL_law_280 21 rfl
theorem dL_law_317 : decode cL_law 317 = .ok (.aload_n 1, 1) := z_dk tdL_law_280 22 rfl
theorem dL_law_318 : decode cL_law 318 = .ok (.invokevirtual 118, 3) := z_dk tdL_law_280 23 rfl
theorem tdL_law_321 : (([(321, .pop, 1), (322, .aload_n 2, 1), (323, .invokevirtual 122, 3), (326, .pop, 1), (327, .goto 1011, 3), (330, .aload_n 1, 1), (331, .aload_n 0, 1), (332, .iload 4, 2), (334, .iconst 1, 1), (335, .iadd, 1), (336, .iaload, 1), (337, .aload_n 0, 1), (338, .iload 4, 2), (340, .iconst 2, 1), (341, .iadd, 1), (342, .iaload, 1), (343, .aload_n 3, 1), (344, .invokestatic 123, 3), (347, .istore 5, 2), (349, .aload_n 2, 1), (350, .aload_n 0, 1), (351, .iload 4, 2), (353, .iconst 1, 1), (354, .iadd, 1)] : List (Nat × Instr × Nat)).all fun e => decide (decode cL_law e.1 = .ok e.2)) = true := by decide +kernel
theorem dL_law_321 : decode cL_law 321 = .ok (.pop, 1) := z_dk tdL_law_321 0 rfl
theorem dL_law_322 : decode cL_law 322 = .ok (.aload_n 2, 1) := z_dk tdL_law_321 1 rfl
theorem dL_law_323 : decode cL_law 323 = .ok (.invokevirtual 122, 3) := z_dk tdL_law_321 2 rfl
theorem dL_law_326 : decode cL_law 326 = .ok (.pop, 1) := z_dk tdL_law_321 3 rfl
theorem dL_law_327 : decode cL_law 327 = .ok (.goto 1011, 3) := z_dk tdL_law_321 4 rfl
theorem dL_law_330 : decode cL_law 330 = .ok (.aload_n 1, 1) := z_dk tdL_law_321 5 rfl
theorem dL_law_331 : decode cL_law 331 = .ok (.aload_n 0, 1) := z_dk tdL_law_321 6 rfl
theorem dL_law_332 : decode cL_law 332 = .ok (.iload 4, 2) := z_dk tdL_law_321 7 rfl
theorem dL_law_334 : decode cL_law 334 = .ok (.iconst 1, 1) := z_dk tdL_law_321 8 rfl
theorem dL_law_335 : decode cL_law 335 = .ok (.iadd, 1) := z_dk tdL_law_321 9 rfl
theorem dL_law_336 : decode cL_law 336 = .ok (.iaload, 1) := z_dk tdL_law_321 10 rfl
theorem dL_law_337 : decode cL_law 337 = .ok (.aload_n 0, 1) := z_dk tdL_law_321 11 rfl
theorem dL_law_338 : decode cL_law 338 = .ok (.iload 4, 2) := z_dk tdL_law_321 12 rfl
theorem dL_law_340 : decode cL_law 340 = .ok (.iconst 2, 1) := z_dk tdL_law_321 13 rfl
theorem dL_law_341 : decode cL_law 341 = .ok (.iadd, 1) := z_dk tdL_law_321 14 rfl
theorem dL_law_342 : decode cL_law 342 = .ok (.iaload, 1) := z_dk tdL_law_321 15 rfl
theorem dL_law_343 : decode cL_law 343 = .ok (.aload_n 3, 1) := z_dk tdL_law_321 16 rfl
theorem dL_law_344 : decode cL_law 344 = .ok (.invokestatic 123, 3) := z_dk tdL_law_321 17 rfl
theorem dL_law_347 : decode cL_law 347 = .ok (.istore 5, 2) := z_dk tdL_law_321 18 rfl
theorem dL_law_349 : decode cL_law 349 = .ok (.aload_n 2, 1) := z_dk tdL_law_321 19 rfl
theorem dL_law_350 : decode cL_law 350 = .ok (.aload_n 0, 1) := z_dk tdL_law_321 20 rfl
theorem dL_law_351 : decode cL_law 351 = .ok (.iload 4, 2) := z_dk tdL_law_321 21 rfl
theorem dL_law_353 : decode cL_law 353 = .ok (.iconst 1, 1) := z_dk tdL_law_321 22 rfl
theorem dL_law_354 : decode cL_law 354 = .ok (.iadd, 1) := z_dk tdL_law_321 23 rfl
theorem tdL_law_355 : (([(355, .iaload, 1), (356, .aload_n 0, 1), (357, .iload 4, 2), (359, .iconst 2, 1), (360, .iadd, 1), (361, .iaload, 1), (362, .invokevirtual 126, 3), (365, .istore 6, 2), (367, .goto 971, 3), (370, .aload_n 1, 1), (371, .aload_n 0, 1), (372, .iload 4, 2), (374, .iconst 1, 1), (375, .iadd, 1), (376, .iaload, 1), (377, .aload_n 0, 1), (378, .iload 4, 2), (380, .iconst 2, 1), (381, .iadd, 1), (382, .iaload, 1), (383, .aload_n 3, 1), (384, .invokestatic 127, 3), (387, .istore 5, 2), (389, .aload_n 2, 1)] : List (Nat × Instr × Nat)).all fun e => decide (decode cL_law e.1 = .ok e.2)) = true := by decide +kernel
theorem dL_law_355 : decode cL_law 355 = .ok (.iaload, 1) := z_dk tdL_law_355 0 rfl
theorem dL_law_356 : decode cL_law 356 = .ok (.aload_n 0, 1) := z_dk tdL_law_355 1 rfl
theorem dL_law_357 : decode cL_law 357 = .ok (.iload 4, 2) := z_dk tdL_law_355 2 rfl
theorem dL_law_359 : decode cL_law 359 = .ok (.iconst 2, 1) := z_dk tdL_law_355 3 rfl
theorem dL_law_360 : decode cL_law 360 = .ok (.iadd, 1) := z_dk tdL_law_355 4 rfl
theorem dL_law_361 : decode cL_law 361 = .ok (.iaload, 1) := z_dk tdL_law_355 5 rfl
theorem dL_law_362 : decode cL_law 362 = .ok (.invokevirtual 126, 3) := z_dk tdL_law_355 6 rfl
theorem dL_law_365 : decode cL_law 365 = .ok (.istore 6, 2) := z_dk tdL_law_355 7 rfl
theorem dL_law_367 : decode cL_law 367 = .ok (.goto 971, 3) := z_dk tdL_law_355 8 rfl
theorem dL_law_370 : decode cL_law 370 = .ok (.aload_n 1, 1) := z_dk tdL_law_355 9 rfl
theorem dL_law_371 : decode cL_law 371 = .ok (.aload_n 0, 1) := z_dk tdL_law_355 10 rfl
theorem dL_law_372 : decode cL_law 372 = .ok (.iload 4, 2) := z_dk tdL_law_355 11 rfl
theorem dL_law_374 : decode cL_law 374 = .ok (.iconst 1, 1) := z_dk tdL_law_355 12 rfl
theorem dL_law_375 : decode cL_law 375 = .ok (.iadd, 1) := z_dk tdL_law_355 13 rfl
theorem dL_law_376 : decode cL_law 376 = .ok (.iaload, 1) := z_dk tdL_law_355 14 rfl
theorem dL_law_377 : decode cL_law 377 = .ok (.aload_n 0, 1) := z_dk tdL_law_355 15 rfl
theorem dL_law_378 : decode cL_law 378 = .ok (.iload 4, 2) := z_dk tdL_law_355 16 rfl
theorem dL_law_380 : decode cL_law 380 = .ok (.iconst 2, 1) := z_dk tdL_law_355 17 rfl
theorem dL_law_381 : decode cL_law 381 = .ok (.iadd, 1) := z_dk tdL_law_355 18 rfl
theorem dL_law_382 : decode cL_law 382 = .ok (.iaload, 1) := z_dk tdL_law_355 19 rfl
theorem dL_law_383 : decode cL_law 383 = .ok (.aload_n 3, 1) := z_dk tdL_law_355 20 rfl
theorem dL_law_384 : decode cL_law 384 = .ok (.invokestatic 127, 3) := z_dk tdL_law_355 21 rfl
theorem dL_law_387 : decode cL_law 387 = .ok (.istore 5, 2) := z_dk tdL_law_355 22 rfl
theorem dL_law_389 : decode cL_law 389 = .ok (.aload_n 2, 1) := z_dk tdL_law_355 23 rfl
theorem tdL_law_390 : (([(390, .aload_n 0, 1), (391, .iload 4, 2), (393, .iconst 1, 1), (394, .iadd, 1), (395, .iaload, 1), (396, .aload_n 0, 1), (397, .iload 4, 2), (399, .iconst 2, 1), (400, .iadd, 1), (401, .iaload, 1), (402, .invokevirtual 129, 3), (405, .istore 6, 2), (407, .goto 931, 3), (410, .aload_n 1, 1), (411, .invokevirtual 130, 3), (414, .pop, 1), (415, .aload_n 2, 1), (416, .invokevirtual 133, 3), (419, .pop, 1), (420, .goto 918, 3), (423, .aload_n 1, 1), (424, .aload_n 0, 1), (425, .iload 4, 2), (427, .iconst 1, 1)] : List (Nat × Instr × Nat)).all fun e => decide (decode cL_law e.1 = .ok e.2)) = true := by decide +kernel
theorem dL_law_390 : decode cL_law 390 = .ok (.aload_n 0, 1) := z_dk tdL_law_390 0 rfl
theorem dL_law_391 : decode cL_law 391 = .ok (.iload 4, 2) := z_dk tdL_law_390 1 rfl
theorem dL_law_393 : decode cL_law 393 = .ok (.iconst 1, 1) := z_dk tdL_law_390 2 rfl
theorem dL_law_394 : decode cL_law 394 = .ok (.iadd, 1) := z_dk tdL_law_390 3 rfl
theorem dL_law_395 : decode cL_law 395 = .ok (.iaload, 1) := z_dk tdL_law_390 4 rfl
theorem dL_law_396 : decode cL_law 396 = .ok (.aload_n 0, 1) := z_dk tdL_law_390 5 rfl
theorem dL_law_397 : decode cL_law 397 = .ok (.iload 4, 2) := z_dk tdL_law_390 6 rfl
theorem dL_law_399 : decode cL_law 399 = .ok (.iconst 2, 1) := z_dk tdL_law_390 7 rfl
theorem dL_law_400 : decode cL_law 400 = .ok (.iadd, 1) := z_dk tdL_law_390 8 rfl
theorem dL_law_401 : decode cL_law 401 = .ok (.iaload, 1) := z_dk tdL_law_390 9 rfl
theorem dL_law_402 : decode cL_law 402 = .ok (.invokevirtual 129, 3) := z_dk tdL_law_390 10 rfl
theorem dL_law_405 : decode cL_law 405 = .ok (.istore 6, 2) := z_dk tdL_law_390 11 rfl
theorem dL_law_407 : decode cL_law 407 = .ok (.goto 931, 3) := z_dk tdL_law_390 12 rfl
theorem dL_law_410 : decode cL_law 410 = .ok (.aload_n 1, 1) := z_dk tdL_law_390 13 rfl
theorem dL_law_411 : decode cL_law 411 = .ok (.invokevirtual 130, 3) := z_dk tdL_law_390 14 rfl
theorem dL_law_414 : decode cL_law 414 = .ok (.pop, 1) := z_dk tdL_law_390 15 rfl
theorem dL_law_415 : decode cL_law 415 = .ok (.aload_n 2, 1) := z_dk tdL_law_390 16 rfl
theorem dL_law_416 : decode cL_law 416 = .ok (.invokevirtual 133, 3) := z_dk tdL_law_390 17 rfl
theorem dL_law_419 : decode cL_law 419 = .ok (.pop, 1) := z_dk tdL_law_390 18 rfl
theorem dL_law_420 : decode cL_law 420 = .ok (.goto 918, 3) := z_dk tdL_law_390 19 rfl
theorem dL_law_423 : decode cL_law 423 = .ok (.aload_n 1, 1) := z_dk tdL_law_390 20 rfl
theorem dL_law_424 : decode cL_law 424 = .ok (.aload_n 0, 1) := z_dk tdL_law_390 21 rfl
theorem dL_law_425 : decode cL_law 425 = .ok (.iload 4, 2) := z_dk tdL_law_390 22 rfl
theorem dL_law_427 : decode cL_law 427 = .ok (.iconst 1, 1) := z_dk tdL_law_390 23 rfl
theorem tdL_law_428 : (([(428, .iadd, 1), (429, .iaload, 1), (430, .aload_n 3, 1), (431, .invokestatic 134, 3), (434, .istore 5, 2), (436, .aload_n 2, 1), (437, .aload_n 0, 1), (438, .iload 4, 2), (440, .iconst 1, 1), (441, .iadd, 1), (442, .iaload, 1), (443, .invokevirtual 136, 3), (446, .lstore 6, 2), (448, .goto 890, 3), (451, .aload_n 1, 1), (452, .aload_n 0, 1), (453, .iload 4, 2), (455, .iconst 1, 1), (456, .iadd, 1), (457, .iaload, 1), (458, .aload_n 0, 1), (459, .iload 4, 2), (461, .iconst 2, 1), (462, .iadd, 1)] : List (Nat × Instr × Nat)).all fun e => decide (decode cL_law e.1 = .ok e.2)) = true := by decide +kernel
theorem dL_law_428 : decode cL_law 428 = .ok (.iadd, 1) := z_dk tdL_law_428 0 rfl
theorem dL_law_429 : decode cL_law 429 = .ok (.iaload, 1) := z_dk tdL_law_428 1 rfl
theorem dL_law_430 : decode cL_law 430 = .ok (.aload_n 3, 1) := z_dk tdL_law_428 2 rfl
theorem dL_law_431 : decode cL_law 431 = .ok (.invokestatic 134, 3) := z_dk tdL_law_428 3 rfl
theorem dL_law_434 : decode cL_law 434 = .ok (.istore 5, 2) := z_dk tdL_law_428 4 rfl
theorem dL_law_436 : decode cL_law 436 = .ok (.aload_n 2, 1) := z_dk tdL_law_428 5 rfl
theorem dL_law_437 : decode cL_law 437 = .ok (.aload_n 0, 1) := z_dk tdL_law_428 6 rfl
theorem dL_law_438 : decode cL_law 438 = .ok (.iload 4, 2) := z_dk tdL_law_428 7 rfl
theorem dL_law_440 : decode cL_law 440 = .ok (.iconst 1, 1) := z_dk tdL_law_428 8 rfl
theorem dL_law_441 : decode cL_law 441 = .ok (.iadd, 1) := z_dk tdL_law_428 9 rfl
theorem dL_law_442 : decode cL_law 442 = .ok (.iaload, 1) := z_dk tdL_law_428 10 rfl
theorem dL_law_443 : decode cL_law 443 = .ok (.invokevirtual 136, 3) := z_dk tdL_law_428 11 rfl
theorem dL_law_446 : decode cL_law 446 = .ok (.lstore 6, 2) := z_dk tdL_law_428 12 rfl
theorem dL_law_448 : decode cL_law 448 = .ok (.goto 890, 3) := z_dk tdL_law_428 13 rfl
theorem dL_law_451 : decode cL_law 451 = .ok (.aload_n 1, 1) := z_dk tdL_law_428 14 rfl
theorem dL_law_452 : decode cL_law 452 = .ok (.aload_n 0, 1) := z_dk tdL_law_428 15 rfl
theorem dL_law_453 : decode cL_law 453 = .ok (.iload 4, 2) := z_dk tdL_law_428 16 rfl
theorem dL_law_455 : decode cL_law 455 = .ok (.iconst 1, 1) := z_dk tdL_law_428 17 rfl
theorem dL_law_456 : decode cL_law 456 = .ok (.iadd, 1) := z_dk tdL_law_428 18 rfl
theorem dL_law_457 : decode cL_law 457 = .ok (.iaload, 1) := z_dk tdL_law_428 19 rfl
theorem dL_law_458 : decode cL_law 458 = .ok (.aload_n 0, 1) := z_dk tdL_law_428 20 rfl
theorem dL_law_459 : decode cL_law 459 = .ok (.iload 4, 2) := z_dk tdL_law_428 21 rfl
theorem dL_law_461 : decode cL_law 461 = .ok (.iconst 2, 1) := z_dk tdL_law_428 22 rfl
theorem dL_law_462 : decode cL_law 462 = .ok (.iadd, 1) := z_dk tdL_law_428 23 rfl
theorem tdL_law_463 : (([(463, .iaload, 1), (464, .aload_n 3, 1), (465, .invokestatic 137, 3), (468, .istore 5, 2), (470, .aload_n 2, 1), (471, .aload_n 0, 1), (472, .iload 4, 2), (474, .iconst 1, 1), (475, .iadd, 1), (476, .iaload, 1), (477, .aload_n 0, 1), (478, .iload 4, 2), (480, .iconst 2, 1), (481, .iadd, 1), (482, .iaload, 1), (483, .invokevirtual 139, 3), (486, .istore 6, 2), (488, .goto 850, 3), (491, .aload_n 1, 1), (492, .aload_n 0, 1), (493, .iload 4, 2), (495, .iconst 1, 1), (496, .iadd, 1), (497, .iaload, 1)] : List (Nat × Instr × Nat)).all fun e => decide (decode cL_law e.1 = .ok e.2)) = true := by decide +kernel
theorem dL_law_463 : decode cL_law 463 = .ok (.iaload, 1) := z_dk tdL_law_463 0 rfl
theorem dL_law_464 : decode cL_law 464 = .ok (.aload_n 3, 1) := z_dk tdL_law_463 1 rfl
theorem dL_law_465 : decode cL_law 465 = .ok (.invokestatic 137, 3) := z_dk tdL_law_463 2 rfl
theorem dL_law_468 : decode cL_law 468 = .ok (.istore 5, 2) := z_dk tdL_law_463 3 rfl
theorem dL_law_470 : decode cL_law 470 = .ok (.aload_n 2, 1) := z_dk tdL_law_463 4 rfl
theorem dL_law_471 : decode cL_law 471 = .ok (.aload_n 0, 1) := z_dk tdL_law_463 5 rfl
theorem dL_law_472 : decode cL_law 472 = .ok (.iload 4, 2) := z_dk tdL_law_463 6 rfl
theorem dL_law_474 : decode cL_law 474 = .ok (.iconst 1, 1) := z_dk tdL_law_463 7 rfl
theorem dL_law_475 : decode cL_law 475 = .ok (.iadd, 1) := z_dk tdL_law_463 8 rfl
theorem dL_law_476 : decode cL_law 476 = .ok (.iaload, 1) := z_dk tdL_law_463 9 rfl
theorem dL_law_477 : decode cL_law 477 = .ok (.aload_n 0, 1) := z_dk tdL_law_463 10 rfl
theorem dL_law_478 : decode cL_law 478 = .ok (.iload 4, 2) := z_dk tdL_law_463 11 rfl
theorem dL_law_480 : decode cL_law 480 = .ok (.iconst 2, 1) := z_dk tdL_law_463 12 rfl
theorem dL_law_481 : decode cL_law 481 = .ok (.iadd, 1) := z_dk tdL_law_463 13 rfl
theorem dL_law_482 : decode cL_law 482 = .ok (.iaload, 1) := z_dk tdL_law_463 14 rfl
theorem dL_law_483 : decode cL_law 483 = .ok (.invokevirtual 139, 3) := z_dk tdL_law_463 15 rfl
theorem dL_law_486 : decode cL_law 486 = .ok (.istore 6, 2) := z_dk tdL_law_463 16 rfl
theorem dL_law_488 : decode cL_law 488 = .ok (.goto 850, 3) := z_dk tdL_law_463 17 rfl
theorem dL_law_491 : decode cL_law 491 = .ok (.aload_n 1, 1) := z_dk tdL_law_463 18 rfl
theorem dL_law_492 : decode cL_law 492 = .ok (.aload_n 0, 1) := z_dk tdL_law_463 19 rfl
theorem dL_law_493 : decode cL_law 493 = .ok (.iload 4, 2) := z_dk tdL_law_463 20 rfl
theorem dL_law_495 : decode cL_law 495 = .ok (.iconst 1, 1) := z_dk tdL_law_463 21 rfl
theorem dL_law_496 : decode cL_law 496 = .ok (.iadd, 1) := z_dk tdL_law_463 22 rfl
theorem dL_law_497 : decode cL_law 497 = .ok (.iaload, 1) := z_dk tdL_law_463 23 rfl
theorem tdL_law_498 : (([(498, .aload_n 0, 1), (499, .iload 4, 2), (501, .iconst 2, 1), (502, .iadd, 1), (503, .iaload, 1), (504, .aload_n 3, 1), (505, .invokestatic 140, 3), (508, .istore 5, 2), (510, .aload_n 2, 1), (511, .aload_n 0, 1), (512, .iload 4, 2), (514, .iconst 1, 1), (515, .iadd, 1), (516, .iaload, 1), (517, .aload_n 0, 1), (518, .iload 4, 2), (520, .iconst 2, 1), (521, .iadd, 1), (522, .iaload, 1), (523, .invokevirtual 142, 3), (526, .istore 6, 2), (528, .goto 810, 3), (531, .aload_n 1, 1), (532, .aload_n 0, 1)] : List (Nat × Instr × Nat)).all fun e => decide (decode cL_law e.1 = .ok e.2)) = true := by decide +kernel
theorem dL_law_498 : decode cL_law 498 = .ok (.aload_n 0, 1) := z_dk tdL_law_498 0 rfl
theorem dL_law_499 : decode cL_law 499 = .ok (.iload 4, 2) := z_dk tdL_law_498 1 rfl
theorem dL_law_501 : decode cL_law 501 = .ok (.iconst 2, 1) := z_dk tdL_law_498 2 rfl
theorem dL_law_502 : decode cL_law 502 = .ok (.iadd, 1) := z_dk tdL_law_498 3 rfl
theorem dL_law_503 : decode cL_law 503 = .ok (.iaload, 1) := z_dk tdL_law_498 4 rfl
theorem dL_law_504 : decode cL_law 504 = .ok (.aload_n 3, 1) := z_dk tdL_law_498 5 rfl
theorem dL_law_505 : decode cL_law 505 = .ok (.invokestatic 140, 3) := z_dk tdL_law_498 6 rfl
theorem dL_law_508 : decode cL_law 508 = .ok (.istore 5, 2) := z_dk tdL_law_498 7 rfl
theorem dL_law_510 : decode cL_law 510 = .ok (.aload_n 2, 1) := z_dk tdL_law_498 8 rfl
theorem dL_law_511 : decode cL_law 511 = .ok (.aload_n 0, 1) := z_dk tdL_law_498 9 rfl
theorem dL_law_512 : decode cL_law 512 = .ok (.iload 4, 2) := z_dk tdL_law_498 10 rfl
theorem dL_law_514 : decode cL_law 514 = .ok (.iconst 1, 1) := z_dk tdL_law_498 11 rfl
theorem dL_law_515 : decode cL_law 515 = .ok (.iadd, 1) := z_dk tdL_law_498 12 rfl
theorem dL_law_516 : decode cL_law 516 = .ok (.iaload, 1) := z_dk tdL_law_498 13 rfl
theorem dL_law_517 : decode cL_law 517 = .ok (.aload_n 0, 1) := z_dk tdL_law_498 14 rfl
theorem dL_law_518 : decode cL_law 518 = .ok (.iload 4, 2) := z_dk tdL_law_498 15 rfl
theorem dL_law_520 : decode cL_law 520 = .ok (.iconst 2, 1) := z_dk tdL_law_498 16 rfl
theorem dL_law_521 : decode cL_law 521 = .ok (.iadd, 1) := z_dk tdL_law_498 17 rfl
theorem dL_law_522 : decode cL_law 522 = .ok (.iaload, 1) := z_dk tdL_law_498 18 rfl
theorem dL_law_523 : decode cL_law 523 = .ok (.invokevirtual 142, 3) := z_dk tdL_law_498 19 rfl
theorem dL_law_526 : decode cL_law 526 = .ok (.istore 6, 2) := z_dk tdL_law_498 20 rfl
theorem dL_law_528 : decode cL_law 528 = .ok (.goto 810, 3) := z_dk tdL_law_498 21 rfl
theorem dL_law_531 : decode cL_law 531 = .ok (.aload_n 1, 1) := z_dk tdL_law_498 22 rfl
theorem dL_law_532 : decode cL_law 532 = .ok (.aload_n 0, 1) := z_dk tdL_law_498 23 rfl
theorem tdL_law_533 : (([(533, .iload 4, 2), (535, .iconst 1, 1), (536, .iadd, 1), (537, .iaload, 1), (538, .aload_n 0, 1), (539, .iload 4, 2), (541, .iconst 2, 1), (542, .iadd, 1), (543, .iaload, 1), (544, .aload_n 3, 1), (545, .invokestatic 143, 3), (548, .istore 5, 2), (550, .aload_n 2, 1), (551, .aload_n 0, 1), (552, .iload 4, 2), (554, .iconst 1, 1), (555, .iadd, 1), (556, .iaload, 1), (557, .aload_n 0, 1), (558, .iload 4, 2), (560, .iconst 2, 1), (561, .iadd, 1), (562, .iaload, 1), (563, .invokevirtual 145, 3)] : List (Nat × Instr × Nat)).all fun e => decide (decode cL_law e.1 = .ok e.2)) = true := by decide +kernel
theorem dL_law_533 : decode cL_law 533 = .ok (.iload 4, 2) := z_dk tdL_law_533 0 rfl
theorem dL_law_535 : decode cL_law 535 = .ok (.iconst 1, 1) := z_dk tdL_law_533 1 rfl
theorem dL_law_536 : decode cL_law 536 = .ok (.iadd, 1) := z_dk tdL_law_533 2 rfl
theorem dL_law_537 : decode cL_law 537 = .ok (.iaload, 1) := z_dk tdL_law_533 3 rfl
theorem dL_law_538 : decode cL_law 538 = .ok (.aload_n 0, 1) := z_dk tdL_law_533 4 rfl
theorem dL_law_539 : decode cL_law 539 = .ok (.iload 4, 2) := z_dk tdL_law_533 5 rfl
theorem dL_law_541 : decode cL_law 541 = .ok (.iconst 2, 1) := z_dk tdL_law_533 6 rfl
theorem dL_law_542 : decode cL_law 542 = .ok (.iadd, 1) := z_dk tdL_law_533 7 rfl
theorem dL_law_543 : decode cL_law 543 = .ok (.iaload, 1) := z_dk tdL_law_533 8 rfl
theorem dL_law_544 : decode cL_law 544 = .ok (.aload_n 3, 1) := z_dk tdL_law_533 9 rfl
theorem dL_law_545 : decode cL_law 545 = .ok (.invokestatic 143, 3) := z_dk tdL_law_533 10 rfl
theorem dL_law_548 : decode cL_law 548 = .ok (.istore 5, 2) := z_dk tdL_law_533 11 rfl
theorem dL_law_550 : decode cL_law 550 = .ok (.aload_n 2, 1) := z_dk tdL_law_533 12 rfl
theorem dL_law_551 : decode cL_law 551 = .ok (.aload_n 0, 1) := z_dk tdL_law_533 13 rfl
theorem dL_law_552 : decode cL_law 552 = .ok (.iload 4, 2) := z_dk tdL_law_533 14 rfl
theorem dL_law_554 : decode cL_law 554 = .ok (.iconst 1, 1) := z_dk tdL_law_533 15 rfl
theorem dL_law_555 : decode cL_law 555 = .ok (.iadd, 1) := z_dk tdL_law_533 16 rfl
theorem dL_law_556 : decode cL_law 556 = .ok (.iaload, 1) := z_dk tdL_law_533 17 rfl
theorem dL_law_557 : decode cL_law 557 = .ok (.aload_n 0, 1) := z_dk tdL_law_533 18 rfl
theorem dL_law_558 : decode cL_law 558 = .ok (.iload 4, 2) := z_dk tdL_law_533 19 rfl
theorem dL_law_560 : decode cL_law 560 = .ok (.iconst 2, 1) := z_dk tdL_law_533 20 rfl
theorem dL_law_561 : decode cL_law 561 = .ok (.iadd, 1) := z_dk tdL_law_533 21 rfl
theorem dL_law_562 : decode cL_law 562 = .ok (.iaload, 1) := z_dk tdL_law_533 22 rfl
theorem dL_law_563 : decode cL_law 563 = .ok (.invokevirtual 145, 3) := z_dk tdL_law_533 23 rfl
theorem tdL_law_566 : (([(566, .istore 6, 2), (568, .goto 770, 3), (571, .aload_n 1, 1), (572, .aload_n 0, 1), (573, .iload 4, 2), (575, .iconst 1, 1), (576, .iadd, 1), (577, .iaload, 1), (578, .aload_n 0, 1), (579, .iload 4, 2), (581, .iconst 2, 1), (582, .iadd, 1), (583, .iaload, 1), (584, .aload_n 3, 1), (585, .invokestatic 146, 3), (588, .istore 5, 2), (590, .aload_n 2, 1), (591, .aload_n 0, 1), (592, .iload 4, 2), (594, .iconst 1, 1), (595, .iadd, 1), (596, .iaload, 1), (597, .aload_n 0, 1), (598, .iload 4, 2)] : List (Nat × Instr × Nat)).all fun e => decide (decode cL_law e.1 = .ok e.2)) = true := by decide +kernel
theorem dL_law_566 : decode cL_law 566 = .ok (.istore 6, 2) := z_dk tdL_law_566 0 rfl
theorem dL_law_568 : decode cL_law 568 = .ok (.goto 770, 3) := z_dk tdL_law_566 1 rfl
theorem dL_law_571 : decode cL_law 571 = .ok (.aload_n 1, 1) := z_dk tdL_law_566 2 rfl
theorem dL_law_572 : decode cL_law 572 = .ok (.aload_n 0, 1) := z_dk tdL_law_566 3 rfl
theorem dL_law_573 : decode cL_law 573 = .ok (.iload 4, 2) := z_dk tdL_law_566 4 rfl
theorem dL_law_575 : decode cL_law 575 = .ok (.iconst 1, 1) := z_dk tdL_law_566 5 rfl
theorem dL_law_576 : decode cL_law 576 = .ok (.iadd, 1) := z_dk tdL_law_566 6 rfl
theorem dL_law_577 : decode cL_law 577 = .ok (.iaload, 1) := z_dk tdL_law_566 7 rfl
theorem dL_law_578 : decode cL_law 578 = .ok (.aload_n 0, 1) := z_dk tdL_law_566 8 rfl
theorem dL_law_579 : decode cL_law 579 = .ok (.iload 4, 2) := z_dk tdL_law_566 9 rfl
theorem dL_law_581 : decode cL_law 581 = .ok (.iconst 2, 1) := z_dk tdL_law_566 10 rfl
theorem dL_law_582 : decode cL_law 582 = .ok (.iadd, 1) := z_dk tdL_law_566 11 rfl
theorem dL_law_583 : decode cL_law 583 = .ok (.iaload, 1) := z_dk tdL_law_566 12 rfl
theorem dL_law_584 : decode cL_law 584 = .ok (.aload_n 3, 1) := z_dk tdL_law_566 13 rfl
theorem dL_law_585 : decode cL_law 585 = .ok (.invokestatic 146, 3) := z_dk tdL_law_566 14 rfl
theorem dL_law_588 : decode cL_law 588 = .ok (.istore 5, 2) := z_dk tdL_law_566 15 rfl
theorem dL_law_590 : decode cL_law 590 = .ok (.aload_n 2, 1) := z_dk tdL_law_566 16 rfl
theorem dL_law_591 : decode cL_law 591 = .ok (.aload_n 0, 1) := z_dk tdL_law_566 17 rfl
theorem dL_law_592 : decode cL_law 592 = .ok (.iload 4, 2) := z_dk tdL_law_566 18 rfl
theorem dL_law_594 : decode cL_law 594 = .ok (.iconst 1, 1) := z_dk tdL_law_566 19 rfl
theorem dL_law_595 : decode cL_law 595 = .ok (.iadd, 1) := z_dk tdL_law_566 20 rfl
theorem dL_law_596 : decode cL_law 596 = .ok (.iaload, 1) := z_dk tdL_law_566 21 rfl
theorem dL_law_597 : decode cL_law 597 = .ok (.aload_n 0, 1) := z_dk tdL_law_566 22 rfl
theorem dL_law_598 : decode cL_law 598 = .ok (.iload 4, 2) := z_dk tdL_law_566 23 rfl
theorem tdL_law_600 : (([(600, .iconst 2, 1), (601, .iadd, 1), (602, .iaload, 1), (603, .invokevirtual 148, 3), (606, .istore 6, 2), (608, .goto 730, 3), (611, .aload_n 1, 1), (612, .aload_n 0, 1), (613, .iload 4, 2), (615, .iconst 1, 1), (616, .iadd, 1), (617, .iaload, 1), (618, .aload_n 0, 1), (619, .iload 4, 2), (621, .iconst 2, 1), (622, .iadd, 1), (623, .iaload, 1), (624, .aload_n 0, 1), (625, .iload 4, 2), (627, .iconst 3, 1), (628, .iadd, 1), (629, .iaload, 1), (630, .aload_n 0, 1), (631, .iload 4, 2)] : List (Nat × Instr × Nat)).all fun e => decide (decode cL_law e.1 = .ok e.2)) = true := by decide +kernel
theorem dL_law_600 : decode cL_law 600 = .ok (.iconst 2, 1) := z_dk tdL_law_600 0 rfl
theorem dL_law_601 : decode cL_law 601 = .ok (.iadd, 1) := z_dk tdL_law_600 1 rfl
theorem dL_law_602 : decode cL_law 602 = .ok (.iaload, 1) := z_dk tdL_law_600 2 rfl
theorem dL_law_603 : decode cL_law 603 = .ok (.invokevirtual 148, 3) := z_dk tdL_law_600 3 rfl
theorem dL_law_606 : decode cL_law 606 = .ok (.istore 6, 2) := z_dk tdL_law_600 4 rfl
theorem dL_law_608 : decode cL_law 608 = .ok (.goto 730, 3) := z_dk tdL_law_600 5 rfl
theorem dL_law_611 : decode cL_law 611 = .ok (.aload_n 1, 1) := z_dk tdL_law_600 6 rfl
theorem dL_law_612 : decode cL_law 612 = .ok (.aload_n 0, 1) := z_dk tdL_law_600 7 rfl
theorem dL_law_613 : decode cL_law 613 = .ok (.iload 4, 2) := z_dk tdL_law_600 8 rfl
theorem dL_law_615 : decode cL_law 615 = .ok (.iconst 1, 1) := z_dk tdL_law_600 9 rfl
theorem dL_law_616 : decode cL_law 616 = .ok (.iadd, 1) := z_dk tdL_law_600 10 rfl
theorem dL_law_617 : decode cL_law 617 = .ok (.iaload, 1) := z_dk tdL_law_600 11 rfl
theorem dL_law_618 : decode cL_law 618 = .ok (.aload_n 0, 1) := z_dk tdL_law_600 12 rfl
theorem dL_law_619 : decode cL_law 619 = .ok (.iload 4, 2) := z_dk tdL_law_600 13 rfl
theorem dL_law_621 : decode cL_law 621 = .ok (.iconst 2, 1) := z_dk tdL_law_600 14 rfl
theorem dL_law_622 : decode cL_law 622 = .ok (.iadd, 1) := z_dk tdL_law_600 15 rfl
theorem dL_law_623 : decode cL_law 623 = .ok (.iaload, 1) := z_dk tdL_law_600 16 rfl
theorem dL_law_624 : decode cL_law 624 = .ok (.aload_n 0, 1) := z_dk tdL_law_600 17 rfl
theorem dL_law_625 : decode cL_law 625 = .ok (.iload 4, 2) := z_dk tdL_law_600 18 rfl
theorem dL_law_627 : decode cL_law 627 = .ok (.iconst 3, 1) := z_dk tdL_law_600 19 rfl
theorem dL_law_628 : decode cL_law 628 = .ok (.iadd, 1) := z_dk tdL_law_600 20 rfl
theorem dL_law_629 : decode cL_law 629 = .ok (.iaload, 1) := z_dk tdL_law_600 21 rfl
theorem dL_law_630 : decode cL_law 630 = .ok (.aload_n 0, 1) := z_dk tdL_law_600 22 rfl
theorem dL_law_631 : decode cL_law 631 = .ok (.iload 4, 2) := z_dk tdL_law_600 23 rfl
theorem tdL_law_633 : (([(633, .iconst 4, 1), (634, .iadd, 1), (635, .iaload, 1), (636, .aload_n 3, 1), (637, .invokestatic 149, 3), (640, .istore 5, 2), (642, .aload_n 2, 1), (643, .aload_n 0, 1), (644, .iload 4, 2), (646, .iconst 1, 1), (647, .iadd, 1), (648, .iaload, 1), (649, .aload_n 0, 1), (650, .iload 4, 2), (652, .iconst 2, 1), (653, .iadd, 1), (654, .iaload, 1), (655, .aload_n 0, 1), (656, .iload 4, 2), (658, .iconst 3, 1), (659, .iadd, 1), (660, .iaload, 1), (661, .aload_n 0, 1), (662, .iload 4, 2)] : List (Nat × Instr × Nat)).all fun e => decide (decode cL_law e.1 = .ok e.2)) = true := by decide +kernel
theorem dL_law_633 : decode cL_law 633 = .ok (.iconst 4, 1) := z_dk tdL_law_633 0 rfl
theorem dL_law_634 : decode cL_law 634 = .ok (.iadd, 1) := z_dk tdL_law_633 1 rfl
theorem dL_law_635 : decode cL_law 635 = .ok (.iaload, 1) := z_dk tdL_law_633 2 rfl
theorem dL_law_636 : decode cL_law 636 = .ok (.aload_n 3, 1) := z_dk tdL_law_633 3 rfl
theorem dL_law_637 : decode cL_law 637 = .ok (.invokestatic 149, 3) := z_dk tdL_law_633 4 rfl
theorem dL_law_640 : decode cL_law 640 = .ok (.istore 5, 2) := z_dk tdL_law_633 5 rfl
theorem dL_law_642 : decode cL_law 642 = .ok (.aload_n 2, 1) := z_dk tdL_law_633 6 rfl
theorem dL_law_643 : decode cL_law 643 = .ok (.aload_n 0, 1) := z_dk tdL_law_633 7 rfl
theorem dL_law_644 : decode cL_law 644 = .ok (.iload 4, 2) := z_dk tdL_law_633 8 rfl
theorem dL_law_646 : decode cL_law 646 = .ok (.iconst 1, 1) := z_dk tdL_law_633 9 rfl
theorem dL_law_647 : decode cL_law 647 = .ok (.iadd, 1) := z_dk tdL_law_633 10 rfl
theorem dL_law_648 : decode cL_law 648 = .ok (.iaload, 1) := z_dk tdL_law_633 11 rfl
theorem dL_law_649 : decode cL_law 649 = .ok (.aload_n 0, 1) := z_dk tdL_law_633 12 rfl
theorem dL_law_650 : decode cL_law 650 = .ok (.iload 4, 2) := z_dk tdL_law_633 13 rfl
theorem dL_law_652 : decode cL_law 652 = .ok (.iconst 2, 1) := z_dk tdL_law_633 14 rfl
theorem dL_law_653 : decode cL_law 653 = .ok (.iadd, 1) := z_dk tdL_law_633 15 rfl
theorem dL_law_654 : decode cL_law 654 = .ok (.iaload, 1) := z_dk tdL_law_633 16 rfl
theorem dL_law_655 : decode cL_law 655 = .ok (.aload_n 0, 1) := z_dk tdL_law_633 17 rfl
theorem dL_law_656 : decode cL_law 656 = .ok (.iload 4, 2) := z_dk tdL_law_633 18 rfl
theorem dL_law_658 : decode cL_law 658 = .ok (.iconst 3, 1) := z_dk tdL_law_633 19 rfl
theorem dL_law_659 : decode cL_law 659 = .ok (.iadd, 1) := z_dk tdL_law_633 20 rfl
theorem dL_law_660 : decode cL_law 660 = .ok (.iaload, 1) := z_dk tdL_law_633 21 rfl
theorem dL_law_661 : decode cL_law 661 = .ok (.aload_n 0, 1) := z_dk tdL_law_633 22 rfl
theorem dL_law_662 : decode cL_law 662 = .ok (.iload 4, 2) := z_dk tdL_law_633 23 rfl
theorem tdL_law_664 : (([(664, .iconst 4, 1), (665, .iadd, 1), (666, .iaload, 1), (667, .invokevirtual 152, 3), (670, .istore 6, 2), (672, .goto 666, 3), (675, .aload_n 1, 1), (676, .aload_n 0, 1), (677, .iload 4, 2), (679, .iconst 1, 1), (680, .iadd, 1), (681, .iaload, 1), (682, .aload_n 0, 1), (683, .iload 4, 2), (685, .iconst 2, 1), (686, .iadd, 1), (687, .iaload, 1), (688, .aload_n 3, 1), (689, .invokestatic 153, 3), (692, .istore 5, 2), (694, .aload_n 2, 1), (695, .aload_n 0, 1), (696, .iload 4, 2), (698, .iconst 1, 1)] : List (Nat × Instr × Nat)).all fun e => decide (decode cL_law e.1 = .ok e.2)) = true := by decide +kernel
theorem dL_law_664 : decode cL_law 664 = .ok (.iconst 4, 1) := z_dk tdL_law_664 0 rfl
theorem dL_law_665 : decode cL_law 665 = .ok (.iadd, 1) := z_dk tdL_law_664 1 rfl
theorem dL_law_666 : decode cL_law 666 = .ok (.iaload, 1) := z_dk tdL_law_664 2 rfl
theorem dL_law_667 : decode cL_law 667 = .ok (.invokevirtual 152, 3) := z_dk tdL_law_664 3 rfl
theorem dL_law_670 : decode cL_law 670 = .ok (.istore 6, 2) := z_dk tdL_law_664 4 rfl
theorem dL_law_672 : decode cL_law 672 = .ok (.goto 666, 3) := z_dk tdL_law_664 5 rfl
theorem dL_law_675 : decode cL_law 675 = .ok (.aload_n 1, 1) := z_dk tdL_law_664 6 rfl
theorem dL_law_676 : decode cL_law 676 = .ok (.aload_n 0, 1) := z_dk tdL_law_664 7 rfl
theorem dL_law_677 : decode cL_law 677 = .ok (.iload 4, 2) := z_dk tdL_law_664 8 rfl
theorem dL_law_679 : decode cL_law 679 = .ok (.iconst 1, 1) := z_dk tdL_law_664 9 rfl
theorem dL_law_680 : decode cL_law 680 = .ok (.iadd, 1) := z_dk tdL_law_664 10 rfl
theorem dL_law_681 : decode cL_law 681 = .ok (.iaload, 1) := z_dk tdL_law_664 11 rfl
theorem dL_law_682 : decode cL_law 682 = .ok (.aload_n 0, 1) := z_dk tdL_law_664 12 rfl
theorem dL_law_683 : decode cL_law 683 = .ok (.iload 4, 2) := z_dk tdL_law_664 13 rfl
theorem dL_law_685 : decode cL_law 685 = .ok (.iconst 2, 1) := z_dk tdL_law_664 14 rfl
theorem dL_law_686 : decode cL_law 686 = .ok (.iadd, 1) := z_dk tdL_law_664 15 rfl
theorem dL_law_687 : decode cL_law 687 = .ok (.iaload, 1) := z_dk tdL_law_664 16 rfl
theorem dL_law_688 : decode cL_law 688 = .ok (.aload_n 3, 1) := z_dk tdL_law_664 17 rfl
theorem dL_law_689 : decode cL_law 689 = .ok (.invokestatic 153, 3) := z_dk tdL_law_664 18 rfl
theorem dL_law_692 : decode cL_law 692 = .ok (.istore 5, 2) := z_dk tdL_law_664 19 rfl
theorem dL_law_694 : decode cL_law 694 = .ok (.aload_n 2, 1) := z_dk tdL_law_664 20 rfl
theorem dL_law_695 : decode cL_law 695 = .ok (.aload_n 0, 1) := z_dk tdL_law_664 21 rfl
theorem dL_law_696 : decode cL_law 696 = .ok (.iload 4, 2) := z_dk tdL_law_664 22 rfl
theorem dL_law_698 : decode cL_law 698 = .ok (.iconst 1, 1) := z_dk tdL_law_664 23 rfl
theorem tdL_law_699 : (([(699, .iadd, 1), (700, .iaload, 1), (701, .aload_n 0, 1), (702, .iload 4, 2), (704, .iconst 2, 1), (705, .iadd, 1), (706, .iaload, 1), (707, .invokevirtual 155, 3), (710, .istore 6, 2), (712, .goto 626, 3), (715, .aload_n 1, 1), (716, .aload_n 0, 1), (717, .iload 4, 2), (719, .iconst 1, 1), (720, .iadd, 1), (721, .iaload, 1), (722, .aload_n 0, 1), (723, .iload 4, 2), (725, .iconst 2, 1), (726, .iadd, 1), (727, .iaload, 1), (728, .aload_n 3, 1), (729, .invokestatic 156, 3), (732, .istore 5, 2)] : List (Nat × Instr × Nat)).all fun e => decide (decode cL_law e.1 = .ok e.2)) = true := by decide +kernel
theorem dL_law_699 : decode cL_law 699 = .ok (.iadd, 1) := z_dk tdL_law_699 0 rfl
theorem dL_law_700 : decode cL_law 700 = .ok (.iaload, 1) := z_dk tdL_law_699 1 rfl
theorem dL_law_701 : decode cL_law 701 = .ok (.aload_n 0, 1) := z_dk tdL_law_699 2 rfl
theorem dL_law_702 : decode cL_law 702 = .ok (.iload 4, 2) := z_dk tdL_law_699 3 rfl
theorem dL_law_704 : decode cL_law 704 = .ok (.iconst 2, 1) := z_dk tdL_law_699 4 rfl
theorem dL_law_705 : decode cL_law 705 = .ok (.iadd, 1) := z_dk tdL_law_699 5 rfl
theorem dL_law_706 : decode cL_law 706 = .ok (.iaload, 1) := z_dk tdL_law_699 6 rfl
theorem dL_law_707 : decode cL_law 707 = .ok (.invokevirtual 155, 3) := z_dk tdL_law_699 7 rfl
theorem dL_law_710 : decode cL_law 710 = .ok (.istore 6, 2) := z_dk tdL_law_699 8 rfl
theorem dL_law_712 : decode cL_law 712 = .ok (.goto 626, 3) := z_dk tdL_law_699 9 rfl
theorem dL_law_715 : decode cL_law 715 = .ok (.aload_n 1, 1) := z_dk tdL_law_699 10 rfl
theorem dL_law_716 : decode cL_law 716 = .ok (.aload_n 0, 1) := z_dk tdL_law_699 11 rfl
theorem dL_law_717 : decode cL_law 717 = .ok (.iload 4, 2) := z_dk tdL_law_699 12 rfl
theorem dL_law_719 : decode cL_law 719 = .ok (.iconst 1, 1) := z_dk tdL_law_699 13 rfl
theorem dL_law_720 : decode cL_law 720 = .ok (.iadd, 1) := z_dk tdL_law_699 14 rfl
theorem dL_law_721 : decode cL_law 721 = .ok (.iaload, 1) := z_dk tdL_law_699 15 rfl
theorem dL_law_722 : decode cL_law 722 = .ok (.aload_n 0, 1) := z_dk tdL_law_699 16 rfl
theorem dL_law_723 : decode cL_law 723 = .ok (.iload 4, 2) := z_dk tdL_law_699 17 rfl
theorem dL_law_725 : decode cL_law 725 = .ok (.iconst 2, 1) := z_dk tdL_law_699 18 rfl
theorem dL_law_726 : decode cL_law 726 = .ok (.iadd, 1) := z_dk tdL_law_699 19 rfl
theorem dL_law_727 : decode cL_law 727 = .ok (.iaload, 1) := z_dk tdL_law_699 20 rfl
theorem dL_law_728 : decode cL_law 728 = .ok (.aload_n 3, 1) := z_dk tdL_law_699 21 rfl
theorem dL_law_729 : decode cL_law 729 = .ok (.invokestatic 156, 3) := z_dk tdL_law_699 22 rfl
theorem dL_law_732 : decode cL_law 732 = .ok (.istore 5, 2) := z_dk tdL_law_699 23 rfl
theorem tdL_law_734 : (([(734, .aload_n 2, 1), (735, .aload_n 0, 1), (736, .iload 4, 2), (738, .iconst 1, 1), (739, .iadd, 1), (740, .iaload, 1), (741, .aload_n 0, 1), (742, .iload 4, 2), (744, .iconst 2, 1), (745, .iadd, 1), (746, .iaload, 1), (747, .invokevirtual 158, 3), (750, .istore 6, 2), (752, .goto 586, 3), (755, .aload_n 1, 1), (756, .aload_n 0, 1), (757, .iload 4, 2), (759, .iconst 1, 1), (760, .iadd, 1), (761, .iaload, 1), (762, .aload_n 3, 1), (763, .invokestatic 159, 3), (766, .istore 5, 2), (768, .aload_n 2, 1)] : List (Nat × Instr × Nat)).all fun e => decide (decode cL_law e.1 = .ok e.2)) = true := by decide +kernel
theorem dL_law_734 : decode cL_law 734 = .ok (.aload_n 2, 1) := z_dk tdL_law_734 0 rfl
theorem dL_law_735 : decode cL_law 735 = .ok (.aload_n 0, 1) := z_dk tdL_law_734 1 rfl
theorem dL_law_736 : decode cL_law 736 = .ok (.iload 4, 2) := z_dk tdL_law_734 2 rfl
theorem dL_law_738 : decode cL_law 738 = .ok (.iconst 1, 1) := z_dk tdL_law_734 3 rfl
theorem dL_law_739 : decode cL_law 739 = .ok (.iadd, 1) := z_dk tdL_law_734 4 rfl
theorem dL_law_740 : decode cL_law 740 = .ok (.iaload, 1) := z_dk tdL_law_734 5 rfl
theorem dL_law_741 : decode cL_law 741 = .ok (.aload_n 0, 1) := z_dk tdL_law_734 6 rfl
theorem dL_law_742 : decode cL_law 742 = .ok (.iload 4, 2) := z_dk tdL_law_734 7 rfl
theorem dL_law_744 : decode cL_law 744 = .ok (.iconst 2, 1) := z_dk tdL_law_734 8 rfl
theorem dL_law_745 : decode cL_law 745 = .ok (.iadd, 1) := z_dk tdL_law_734 9 rfl
theorem dL_law_746 : decode cL_law 746 = .ok (.iaload, 1) := z_dk tdL_law_734 10 rfl
theorem dL_law_747 : decode cL_law 747 = .ok (.invokevirtual 158, 3) := z_dk tdL_law_734 11 rfl
theorem dL_law_750 : decode cL_law 750 = .ok (.istore 6, 2) := z_dk tdL_law_734 12 rfl
theorem dL_law_752 : decode cL_law 752 = .ok (.goto 586, 3) := z_dk tdL_law_734 13 rfl
theorem dL_law_755 : decode cL_law 755 = .ok (.aload_n 1, 1) := z_dk tdL_law_734 14 rfl
theorem dL_law_756 : decode cL_law 756 = .ok (.aload_n 0, 1) := z_dk tdL_law_734 15 rfl
theorem dL_law_757 : decode cL_law 757 = .ok (.iload 4, 2) := z_dk tdL_law_734 16 rfl
theorem dL_law_759 : decode cL_law 759 = .ok (.iconst 1, 1) := z_dk tdL_law_734 17 rfl
theorem dL_law_760 : decode cL_law 760 = .ok (.iadd, 1) := z_dk tdL_law_734 18 rfl
theorem dL_law_761 : decode cL_law 761 = .ok (.iaload, 1) := z_dk tdL_law_734 19 rfl
theorem dL_law_762 : decode cL_law 762 = .ok (.aload_n 3, 1) := z_dk tdL_law_734 20 rfl
theorem dL_law_763 : decode cL_law 763 = .ok (.invokestatic 159, 3) := z_dk tdL_law_734 21 rfl
theorem dL_law_766 : decode cL_law 766 = .ok (.istore 5, 2) := z_dk tdL_law_734 22 rfl
theorem dL_law_768 : decode cL_law 768 = .ok (.aload_n 2, 1) := z_dk tdL_law_734 23 rfl
theorem tdL_law_769 : (([(769, .aload_n 0, 1), (770, .iload 4, 2), (772, .iconst 1, 1), (773, .iadd, 1), (774, .iaload, 1), (775, .invokevirtual 161, 3), (778, .istore 6, 2), (780, .goto 558, 3), (783, .aload_n 1, 1), (784, .aload_n 0, 1), (785, .iload 4, 2), (787, .iconst 1, 1), (788, .iadd, 1), (789, .iaload, 1), (790, .aload_n 0, 1), (791, .iload 4, 2), (793, .iconst 2, 1), (794, .iadd, 1), (795, .iaload, 1), (796, .aload_n 3, 1), (797, .invokestatic 162, 3), (800, .istore 5, 2), (802, .aload_n 2, 1), (803, .aload_n 0, 1)] : List (Nat × Instr × Nat)).all fun e => decide (decode cL_law e.1 = .ok e.2)) = true := by decide +kernel
theorem dL_law_769 : decode cL_law 769 = .ok (.aload_n 0, 1) := z_dk tdL_law_769 0 rfl
theorem dL_law_770 : decode cL_law 770 = .ok (.iload 4, 2) := z_dk tdL_law_769 1 rfl
theorem dL_law_772 : decode cL_law 772 = .ok (.iconst 1, 1) := z_dk tdL_law_769 2 rfl
theorem dL_law_773 : decode cL_law 773 = .ok (.iadd, 1) := z_dk tdL_law_769 3 rfl
theorem dL_law_774 : decode cL_law 774 = .ok (.iaload, 1) := z_dk tdL_law_769 4 rfl
theorem dL_law_775 : decode cL_law 775 = .ok (.invokevirtual 161, 3) := z_dk tdL_law_769 5 rfl
theorem dL_law_778 : decode cL_law 778 = .ok (.istore 6, 2) := z_dk tdL_law_769 6 rfl
theorem dL_law_780 : decode cL_law 780 = .ok (.goto 558, 3) := z_dk tdL_law_769 7 rfl
theorem dL_law_783 : decode cL_law 783 = .ok (.aload_n 1, 1) := z_dk tdL_law_769 8 rfl
theorem dL_law_784 : decode cL_law 784 = .ok (.aload_n 0, 1) := z_dk tdL_law_769 9 rfl
theorem dL_law_785 : decode cL_law 785 = .ok (.iload 4, 2) := z_dk tdL_law_769 10 rfl
theorem dL_law_787 : decode cL_law 787 = .ok (.iconst 1, 1) := z_dk tdL_law_769 11 rfl
theorem dL_law_788 : decode cL_law 788 = .ok (.iadd, 1) := z_dk tdL_law_769 12 rfl
theorem dL_law_789 : decode cL_law 789 = .ok (.iaload, 1) := z_dk tdL_law_769 13 rfl
theorem dL_law_790 : decode cL_law 790 = .ok (.aload_n 0, 1) := z_dk tdL_law_769 14 rfl
theorem dL_law_791 : decode cL_law 791 = .ok (.iload 4, 2) := z_dk tdL_law_769 15 rfl
theorem dL_law_793 : decode cL_law 793 = .ok (.iconst 2, 1) := z_dk tdL_law_769 16 rfl
theorem dL_law_794 : decode cL_law 794 = .ok (.iadd, 1) := z_dk tdL_law_769 17 rfl
theorem dL_law_795 : decode cL_law 795 = .ok (.iaload, 1) := z_dk tdL_law_769 18 rfl
theorem dL_law_796 : decode cL_law 796 = .ok (.aload_n 3, 1) := z_dk tdL_law_769 19 rfl
theorem dL_law_797 : decode cL_law 797 = .ok (.invokestatic 162, 3) := z_dk tdL_law_769 20 rfl
theorem dL_law_800 : decode cL_law 800 = .ok (.istore 5, 2) := z_dk tdL_law_769 21 rfl
theorem dL_law_802 : decode cL_law 802 = .ok (.aload_n 2, 1) := z_dk tdL_law_769 22 rfl
theorem dL_law_803 : decode cL_law 803 = .ok (.aload_n 0, 1) := z_dk tdL_law_769 23 rfl
theorem tdL_law_804 : (([(804, .iload 4, 2), (806, .iconst 1, 1), (807, .iadd, 1), (808, .iaload, 1), (809, .aload_n 0, 1), (810, .iload 4, 2), (812, .iconst 2, 1), (813, .iadd, 1), (814, .iaload, 1), (815, .invokevirtual 164, 3), (818, .istore 6, 2), (820, .goto 518, 3), (823, .aload_n 1, 1), (824, .aload_n 0, 1), (825, .iload 4, 2), (827, .iconst 1, 1), (828, .iadd, 1), (829, .iaload, 1), (830, .aload_n 0, 1), (831, .iload 4, 2), (833, .iconst 2, 1), (834, .iadd, 1), (835, .iaload, 1), (836, .aload_n 3, 1)] : List (Nat × Instr × Nat)).all fun e => decide (decode cL_law e.1 = .ok e.2)) = true := by decide +kernel
theorem dL_law_804 : decode cL_law 804 = .ok (.iload 4, 2) := z_dk tdL_law_804 0 rfl
theorem dL_law_806 : decode cL_law 806 = .ok (.iconst 1, 1) := z_dk tdL_law_804 1 rfl
theorem dL_law_807 : decode cL_law 807 = .ok (.iadd, 1) := z_dk tdL_law_804 2 rfl
theorem dL_law_808 : decode cL_law 808 = .ok (.iaload, 1) := z_dk tdL_law_804 3 rfl
theorem dL_law_809 : decode cL_law 809 = .ok (.aload_n 0, 1) := z_dk tdL_law_804 4 rfl
theorem dL_law_810 : decode cL_law 810 = .ok (.iload 4, 2) := z_dk tdL_law_804 5 rfl
theorem dL_law_812 : decode cL_law 812 = .ok (.iconst 2, 1) := z_dk tdL_law_804 6 rfl
theorem dL_law_813 : decode cL_law 813 = .ok (.iadd, 1) := z_dk tdL_law_804 7 rfl
theorem dL_law_814 : decode cL_law 814 = .ok (.iaload, 1) := z_dk tdL_law_804 8 rfl
theorem dL_law_815 : decode cL_law 815 = .ok (.invokevirtual 164, 3) := z_dk tdL_law_804 9 rfl
theorem dL_law_818 : decode cL_law 818 = .ok (.istore 6, 2) := z_dk tdL_law_804 10 rfl
theorem dL_law_820 : decode cL_law 820 = .ok (.goto 518, 3) := z_dk tdL_law_804 11 rfl
theorem dL_law_823 : decode cL_law 823 = .ok (.aload_n 1, 1) := z_dk tdL_law_804 12 rfl
theorem dL_law_824 : decode cL_law 824 = .ok (.aload_n 0, 1) := z_dk tdL_law_804 13 rfl
theorem dL_law_825 : decode cL_law 825 = .ok (.iload 4, 2) := z_dk tdL_law_804 14 rfl
theorem dL_law_827 : decode cL_law 827 = .ok (.iconst 1, 1) := z_dk tdL_law_804 15 rfl
theorem dL_law_828 : decode cL_law 828 = .ok (.iadd, 1) := z_dk tdL_law_804 16 rfl
theorem dL_law_829 : decode cL_law 829 = .ok (.iaload, 1) := z_dk tdL_law_804 17 rfl
theorem dL_law_830 : decode cL_law 830 = .ok (.aload_n 0, 1) := z_dk tdL_law_804 18 rfl
theorem dL_law_831 : decode cL_law 831 = .ok (.iload 4, 2) := z_dk tdL_law_804 19 rfl
theorem dL_law_833 : decode cL_law 833 = .ok (.iconst 2, 1) := z_dk tdL_law_804 20 rfl
theorem dL_law_834 : decode cL_law 834 = .ok (.iadd, 1) := z_dk tdL_law_804 21 rfl
theorem dL_law_835 : decode cL_law 835 = .ok (.iaload, 1) := z_dk tdL_law_804 22 rfl
theorem dL_law_836 : decode cL_law 836 = .ok (.aload_n 3, 1) := z_dk tdL_law_804 23 rfl
theorem tdL_law_837 : (([(837, .invokestatic 165, 3), (840, .istore 5, 2), (842, .aload_n 2, 1), (843, .aload_n 0, 1), (844, .iload 4, 2), (846, .iconst 1, 1), (847, .iadd, 1), (848, .iaload, 1), (849, .aload_n 0, 1), (850, .iload 4, 2), (852, .iconst 2, 1), (853, .iadd, 1), (854, .iaload, 1), (855, .invokevirtual 167, 3), (858, .istore 6, 2), (860, .goto 478, 3), (863, .aload_n 1, 1), (864, .aload_n 0, 1), (865, .iload 4, 2), (867, .iconst 1, 1), (868, .iadd, 1), (869, .iaload, 1), (870, .aload_n 3, 1), (871, .invokestatic 168, 3)] : List (Nat × Instr × Nat)).all fun e => decide (decode cL_law e.1 = .ok e.2)) = true := by decide +kernel
theorem dL_law_837 : decode cL_law 837 = .ok (.invokestatic 165, 3) := z_dk tdL_law_837 0 rfl
theorem dL_law_840 : decode cL_law 840 = .ok (.istore 5, 2) := z_dk tdL_law_837 1 rfl
theorem dL_law_842 : decode cL_law 842 = .ok (.aload_n 2, 1) := z_dk tdL_law_837 2 rfl
theorem dL_law_843 : decode cL_law 843 = .ok (.aload_n 0, 1) := z_dk tdL_law_837 3 rfl
theorem dL_law_844 : decode cL_law 844 = .ok (.iload 4, 2) := z_dk tdL_law_837 4 rfl
theorem dL_law_846 : decode cL_law 846 = .ok (.iconst 1, 1) := z_dk tdL_law_837 5 rfl
theorem dL_law_847 : decode cL_law 847 = .ok (.iadd, 1) := z_dk tdL_law_837 6 rfl
theorem dL_law_848 : decode cL_law 848 = .ok (.iaload, 1) := z_dk tdL_law_837 7 rfl
theorem dL_law_849 : decode cL_law 849 = .ok (.aload_n 0, 1) := z_dk tdL_law_837 8 rfl
theorem dL_law_850 : decode cL_law 850 = .ok (.iload 4, 2) := z_dk tdL_law_837 9 rfl
theorem dL_law_852 : decode cL_law 852 = .ok (.iconst 2, 1) := z_dk tdL_law_837 10 rfl
theorem dL_law_853 : decode cL_law 853 = .ok (.iadd, 1) := z_dk tdL_law_837 11 rfl
theorem dL_law_854 : decode cL_law 854 = .ok (.iaload, 1) := z_dk tdL_law_837 12 rfl
theorem dL_law_855 : decode cL_law 855 = .ok (.invokevirtual 167, 3) := z_dk tdL_law_837 13 rfl
theorem dL_law_858 : decode cL_law 858 = .ok (.istore 6, 2) := z_dk tdL_law_837 14 rfl
theorem dL_law_860 : decode cL_law 860 = .ok (.goto 478, 3) := z_dk tdL_law_837 15 rfl
theorem dL_law_863 : decode cL_law 863 = .ok (.aload_n 1, 1) := z_dk tdL_law_837 16 rfl
theorem dL_law_864 : decode cL_law 864 = .ok (.aload_n 0, 1) := z_dk tdL_law_837 17 rfl
theorem dL_law_865 : decode cL_law 865 = .ok (.iload 4, 2) := z_dk tdL_law_837 18 rfl
theorem dL_law_867 : decode cL_law 867 = .ok (.iconst 1, 1) := z_dk tdL_law_837 19 rfl
theorem dL_law_868 : decode cL_law 868 = .ok (.iadd, 1) := z_dk tdL_law_837 20 rfl
theorem dL_law_869 : decode cL_law 869 = .ok (.iaload, 1) := z_dk tdL_law_837 21 rfl
theorem dL_law_870 : decode cL_law 870 = .ok (.aload_n 3, 1) := z_dk tdL_law_837 22 rfl
theorem dL_law_871 : decode cL_law 871 = .ok (.invokestatic 168, 3) := z_dk tdL_law_837 23 rfl
theorem tdL_law_874 : (([(874, .istore 5, 2), (876, .aload_n 2, 1), (877, .aload_n 0, 1), (878, .iload 4, 2), (880, .iconst 1, 1), (881, .iadd, 1), (882, .iaload, 1), (883, .invokevirtual 170, 3), (886, .istore 6, 2), (888, .goto 450, 3), (891, .aload_n 1, 1), (892, .invokevirtual 171, 3), (895, .pop2, 1), (896, .aload_n 2, 1), (897, .invokevirtual 175, 3), (900, .pop2, 1), (901, .goto 437, 3), (904, .aload_n 1, 1), (905, .aload_n 0, 1), (906, .iload 4, 2), (908, .iconst 1, 1), (909, .iadd, 1), (910, .iaload, 1), (911, .aload_n 3, 1)] : List (Nat × Instr × Nat)).all fun e => decide (decode cL_law e.1 = .ok e.2)) = true := by decide +kernel
theorem dL_law_874 : decode cL_law 874 = .ok (.istore 5, 2) := z_dk tdL_law_874 0 rfl
theorem dL_law_876 : decode cL_law 876 = .ok (.aload_n 2, 1) := z_dk tdL_law_874 1 rfl
theorem dL_law_877 : decode cL_law 877 = .ok (.aload_n 0, 1) := z_dk tdL_law_874 2 rfl
theorem dL_law_878 : decode cL_law 878 = .ok (.iload 4, 2) := z_dk tdL_law_874 3 rfl
theorem dL_law_880 : decode cL_law 880 = .ok (.iconst 1, 1) := z_dk tdL_law_874 4 rfl
theorem dL_law_881 : decode cL_law 881 = .ok (.iadd, 1) := z_dk tdL_law_874 5 rfl
theorem dL_law_882 : decode cL_law 882 = .ok (.iaload, 1) := z_dk tdL_law_874 6 rfl
theorem dL_law_883 : decode cL_law 883 = .ok (.invokevirtual 170, 3) := z_dk tdL_law_874 7 rfl
theorem dL_law_886 : decode cL_law 886 = .ok (.istore 6, 2) := z_dk tdL_law_874 8 rfl
theorem dL_law_888 : decode cL_law 888 = .ok (.goto 450, 3) := z_dk tdL_law_874 9 rfl
theorem dL_law_891 : decode cL_law 891 = .ok (.aload_n 1, 1) := z_dk tdL_law_874 10 rfl
theorem dL_law_892 : decode cL_law 892 = .ok (.invokevirtual 171, 3) := z_dk tdL_law_874 11 rfl
theorem dL_law_895 : decode cL_law 895 = .ok (.pop2, 1) := z_dk tdL_law_874 12 rfl
theorem dL_law_896 : decode cL_law 896 = .ok (.aload_n 2, 1) := z_dk tdL_law_874 13 rfl
theorem dL_law_897 : decode cL_law 897 = .ok (.invokevirtual 175, 3) := z_dk tdL_law_874 14 rfl
theorem dL_law_900 : decode cL_law 900 = .ok (.pop2, 1) := z_dk tdL_law_874 15 rfl
theorem dL_law_901 : decode cL_law 901 = .ok (.goto 437, 3) := z_dk tdL_law_874 16 rfl
theorem dL_law_904 : decode cL_law 904 = .ok (.aload_n 1, 1) := z_dk tdL_law_874 17 rfl
theorem dL_law_905 : decode cL_law 905 = .ok (.aload_n 0, 1) := z_dk tdL_law_874 18 rfl
theorem dL_law_906 : decode cL_law 906 = .ok (.iload 4, 2) := z_dk tdL_law_874 19 rfl
theorem dL_law_908 : decode cL_law 908 = .ok (.iconst 1, 1) := z_dk tdL_law_874 20 rfl
theorem dL_law_909 : decode cL_law 909 = .ok (.iadd, 1) := z_dk tdL_law_874 21 rfl
theorem dL_law_910 : decode cL_law 910 = .ok (.iaload, 1) := z_dk tdL_law_874 22 rfl
theorem dL_law_911 : decode cL_law 911 = .ok (.aload_n 3, 1) := z_dk tdL_law_874 23 rfl
theorem tdL_law_912 : (([(912, .invokestatic 176, 3), (915, .istore 5, 2), (917, .aload_n 2, 1), (918, .aload_n 0, 1), (919, .iload 4, 2), (921, .iconst 1, 1), (922, .iadd, 1), (923, .iaload, 1), (924, .invokevirtual 178, 3), (927, .istore 6, 2), (929, .goto 409, 3), (932, .aload_n 1, 1), (933, .invokevirtual 179, 3), (936, .pop, 1), (937, .aload_n 2, 1), (938, .invokevirtual 182, 3), (941, .pop, 1), (942, .goto 396, 3), (945, .aload_n 1, 1), (946, .aload_n 0, 1), (947, .iload 4, 2), (949, .iconst 1, 1), (950, .iadd, 1), (951, .iaload, 1)] : List (Nat × Instr × Nat)).all fun e => decide (decode cL_law e.1 = .ok e.2)) = true := by decide +kernel
theorem dL_law_912 : decode cL_law 912 = .ok (.invokestatic 176, 3) := z_dk tdL_law_912 0 rfl
theorem dL_law_915 : decode cL_law 915 = .ok (.istore 5, 2) := z_dk tdL_law_912 1 rfl
theorem dL_law_917 : decode cL_law 917 = .ok (.aload_n 2, 1) := z_dk tdL_law_912 2 rfl
theorem dL_law_918 : decode cL_law 918 = .ok (.aload_n 0, 1) := z_dk tdL_law_912 3 rfl
theorem dL_law_919 : decode cL_law 919 = .ok (.iload 4, 2) := z_dk tdL_law_912 4 rfl
theorem dL_law_921 : decode cL_law 921 = .ok (.iconst 1, 1) := z_dk tdL_law_912 5 rfl
theorem dL_law_922 : decode cL_law 922 = .ok (.iadd, 1) := z_dk tdL_law_912 6 rfl
theorem dL_law_923 : decode cL_law 923 = .ok (.iaload, 1) := z_dk tdL_law_912 7 rfl
theorem dL_law_924 : decode cL_law 924 = .ok (.invokevirtual 178, 3) := z_dk tdL_law_912 8 rfl
theorem dL_law_927 : decode cL_law 927 = .ok (.istore 6, 2) := z_dk tdL_law_912 9 rfl
theorem dL_law_929 : decode cL_law 929 = .ok (.goto 409, 3) := z_dk tdL_law_912 10 rfl
theorem dL_law_932 : decode cL_law 932 = .ok (.aload_n 1, 1) := z_dk tdL_law_912 11 rfl
theorem dL_law_933 : decode cL_law 933 = .ok (.invokevirtual 179, 3) := z_dk tdL_law_912 12 rfl
theorem dL_law_936 : decode cL_law 936 = .ok (.pop, 1) := z_dk tdL_law_912 13 rfl
theorem dL_law_937 : decode cL_law 937 = .ok (.aload_n 2, 1) := z_dk tdL_law_912 14 rfl
theorem dL_law_938 : decode cL_law 938 = .ok (.invokevirtual 182, 3) := z_dk tdL_law_912 15 rfl
theorem dL_law_941 : decode cL_law 941 = .ok (.pop, 1) := z_dk tdL_law_912 16 rfl
theorem dL_law_942 : decode cL_law 942 = .ok (.goto 396, 3) := z_dk tdL_law_912 17 rfl
theorem dL_law_945 : decode cL_law 945 = .ok (.aload_n 1, 1) := z_dk tdL_law_912 18 rfl
theorem dL_law_946 : decode cL_law 946 = .ok (.aload_n 0, 1) := z_dk tdL_law_912 19 rfl
theorem dL_law_947 : decode cL_law 947 = .ok (.iload 4, 2) := z_dk tdL_law_912 20 rfl
theorem dL_law_949 : decode cL_law 949 = .ok (.iconst 1, 1) := z_dk tdL_law_912 21 rfl
theorem dL_law_950 : decode cL_law 950 = .ok (.iadd, 1) := z_dk tdL_law_912 22 rfl
theorem dL_law_951 : decode cL_law 951 = .ok (.iaload, 1) := z_dk tdL_law_912 23 rfl
theorem tdL_law_952 : (([(952, .aload_n 3, 1), (953, .invokestatic 183, 3), (956, .istore 5, 2), (958, .aload_n 2, 1), (959, .aload_n 0, 1), (960, .iload 4, 2), (962, .iconst 1, 1), (963, .iadd, 1), (964, .iaload, 1), (965, .invokevirtual 185, 3), (968, .istore 6, 2), (970, .goto 368, 3), (973, .aload_n 1, 1), (974, .aload_n 0, 1), (975, .iload 4, 2), (977, .iconst 1, 1), (978, .iadd, 1), (979, .iaload, 1), (980, .aload_n 3, 1), (981, .invokestatic 186, 3), (984, .istore 5, 2), (986, .aload_n 2, 1), (987, .aload_n 0, 1), (988, .iload 4, 2)] : List (Nat × Instr × Nat)).all fun e => decide (decode cL_law e.1 = .ok e.2)) = true := by decide +kernel
theorem dL_law_952 : decode cL_law 952 = .ok (.aload_n 3, 1) := z_dk tdL_law_952 0 rfl
theorem dL_law_953 : decode cL_law 953 = .ok (.invokestatic 183, 3) := z_dk tdL_law_952 1 rfl
theorem dL_law_956 : decode cL_law 956 = .ok (.istore 5, 2) := z_dk tdL_law_952 2 rfl
theorem dL_law_958 : decode cL_law 958 = .ok (.aload_n 2, 1) := z_dk tdL_law_952 3 rfl
theorem dL_law_959 : decode cL_law 959 = .ok (.aload_n 0, 1) := z_dk tdL_law_952 4 rfl
theorem dL_law_960 : decode cL_law 960 = .ok (.iload 4, 2) := z_dk tdL_law_952 5 rfl
theorem dL_law_962 : decode cL_law 962 = .ok (.iconst 1, 1) := z_dk tdL_law_952 6 rfl
theorem dL_law_963 : decode cL_law 963 = .ok (.iadd, 1) := z_dk tdL_law_952 7 rfl
theorem dL_law_964 : decode cL_law 964 = .ok (.iaload, 1) := z_dk tdL_law_952 8 rfl
theorem dL_law_965 : decode cL_law 965 = .ok (.invokevirtual 185, 3) := z_dk tdL_law_952 9 rfl
theorem dL_law_968 : decode cL_law 968 = .ok (.istore 6, 2) := z_dk tdL_law_952 10 rfl
theorem dL_law_970 : decode cL_law 970 = .ok (.goto 368, 3) := z_dk tdL_law_952 11 rfl
theorem dL_law_973 : decode cL_law 973 = .ok (.aload_n 1, 1) := z_dk tdL_law_952 12 rfl
theorem dL_law_974 : decode cL_law 974 = .ok (.aload_n 0, 1) := z_dk tdL_law_952 13 rfl
theorem dL_law_975 : decode cL_law 975 = .ok (.iload 4, 2) := z_dk tdL_law_952 14 rfl
theorem dL_law_977 : decode cL_law 977 = .ok (.iconst 1, 1) := z_dk tdL_law_952 15 rfl
theorem dL_law_978 : decode cL_law 978 = .ok (.iadd, 1) := z_dk tdL_law_952 16 rfl
theorem dL_law_979 : decode cL_law 979 = .ok (.iaload, 1) := z_dk tdL_law_952 17 rfl
theorem dL_law_980 : decode cL_law 980 = .ok (.aload_n 3, 1) := z_dk tdL_law_952 18 rfl
theorem dL_law_981 : decode cL_law 981 = .ok (.invokestatic 186, 3) := z_dk tdL_law_952 19 rfl
theorem dL_law_984 : decode cL_law 984 = .ok (.istore 5, 2) := z_dk tdL_law_952 20 rfl
theorem dL_law_986 : decode cL_law 986 = .ok (.aload_n 2, 1) := z_dk tdL_law_952 21 rfl
theorem dL_law_987 : decode cL_law 987 = .ok (.aload_n 0, 1) := z_dk tdL_law_952 22 rfl
theorem dL_law_988 : decode cL_law 988 = .ok (.iload 4, 2) := z_dk tdL_law_952 23 rfl
theorem tdL_law_990 : (([(990, .iconst 1, 1), (991, .iadd, 1), (992, .iaload, 1), (993, .invokevirtual 188, 3), (996, .istore 6, 2), (998, .goto 340, 3), (1001, .aload_n 1, 1), (1002, .aload_n 0, 1), (1003, .iload 4, 2), (1005, .iconst 1, 1), (1006, .iadd, 1), (1007, .iaload, 1), (1008, .aload_n 3, 1), (1009, .invokestatic 189, 3), (1012, .istore 5, 2), (1014, .aload_n 2, 1), (1015, .aload_n 0, 1), (1016, .iload 4, 2), (1018, .iconst 1, 1), (1019, .iadd, 1), (1020, .iaload, 1), (1021, .invokevirtual 191, 3), (1024, .istore 6, 2), (1026, .goto 312, 3)] : List (Nat × Instr × Nat)).all fun e => decide (decode cL_law e.1 = .ok e.2)) = true := by decide +kernel
theorem dL_law_990 : decode cL_law 990 = .ok (.iconst 1, 1) := z_dk tdL_law_990 0 rfl
theorem dL_law_991 : decode cL_law 991 = .ok (.iadd, 1) := z_dk tdL_law_990 1 rfl
theorem dL_law_992 : decode cL_law 992 = .ok (.iaload, 1) := z_dk tdL_law_990 2 rfl
theorem dL_law_993 : decode cL_law 993 = .ok (.invokevirtual 188, 3) := z_dk tdL_law_990 3 rfl
theorem dL_law_996 : decode cL_law 996 = .ok (.istore 6, 2) := z_dk tdL_law_990 4 rfl
theorem dL_law_998 : decode cL_law 998 = .ok (.goto 340, 3) := z_dk tdL_law_990 5 rfl
theorem dL_law_1001 : decode cL_law 1001 = .ok (.aload_n 1, 1) := z_dk tdL_law_990 6 rfl
theorem dL_law_1002 : decode cL_law 1002 = .ok (.aload_n 0, 1) := z_dk tdL_law_990 7 rfl
theorem dL_law_1003 : decode cL_law 1003 = .ok (.iload 4, 2) := z_dk tdL_law_990 8 rfl
theorem dL_law_1005 : decode cL_law 1005 = .ok (.iconst 1, 1) := z_dk tdL_law_990 9 rfl
theorem dL_law_1006 : decode cL_law 1006 = .ok (.iadd, 1) := z_dk tdL_law_990 10 rfl
theorem dL_law_1007 : decode cL_law 1007 = .ok (.iaload, 1) := z_dk tdL_law_990 11 rfl
theorem dL_law_1008 : decode cL_law 1008 = .ok (.aload_n 3, 1) := z_dk tdL_law_990 12 rfl
theorem dL_law_1009 : decode cL_law 1009 = .ok (.invokestatic 189, 3) := z_dk tdL_law_990 13 rfl
theorem dL_law_1012 : decode cL_law 1012 = .ok (.istore 5, 2) := z_dk tdL_law_990 14 rfl
theorem dL_law_1014 : decode cL_law 1014 = .ok (.aload_n 2, 1) := z_dk tdL_law_990 15 rfl
theorem dL_law_1015 : decode cL_law 1015 = .ok (.aload_n 0, 1) := z_dk tdL_law_990 16 rfl
theorem dL_law_1016 : decode cL_law 1016 = .ok (.iload 4, 2) := z_dk tdL_law_990 17 rfl
theorem dL_law_1018 : decode cL_law 1018 = .ok (.iconst 1, 1) := z_dk tdL_law_990 18 rfl
theorem dL_law_1019 : decode cL_law 1019 = .ok (.iadd, 1) := z_dk tdL_law_990 19 rfl
theorem dL_law_1020 : decode cL_law 1020 = .ok (.iaload, 1) := z_dk tdL_law_990 20 rfl
theorem dL_law_1021 : decode cL_law 1021 = .ok (.invokevirtual 191, 3) := z_dk tdL_law_990 21 rfl
theorem dL_law_1024 : decode cL_law 1024 = .ok (.istore 6, 2) := z_dk tdL_law_990 22 rfl
theorem dL_law_1026 : decode cL_law 1026 = .ok (.goto 312, 3) := z_dk tdL_law_990 23 rfl
theorem tdL_law_1029 : (([(1029, .aload_n 1, 1), (1030, .aload_n 0, 1), (1031, .iload 4, 2), (1033, .iconst 1, 1), (1034, .iadd, 1), (1035, .iaload, 1), (1036, .aload_n 0, 1), (1037, .iload 4, 2), (1039, .iconst 2, 1), (1040, .iadd, 1), (1041, .iaload, 1), (1042, .aload_n 0, 1), (1043, .iload 4, 2), (1045, .iconst 3, 1), (1046, .iadd, 1), (1047, .iaload, 1), (1048, .aload_n 3, 1), (1049, .invokestatic 192, 3), (1052, .istore 5, 2), (1054, .aload_n 2, 1), (1055, .aload_n 0, 1), (1056, .iload 4, 2), (1058, .iconst 1, 1), (1059, .iadd, 1)] : List (Nat × Instr × Nat)).all fun e => decide (decode cL_law e.1 = .ok e.2)) = true := by decide +kernel
theorem dL_law_1029 : decode cL_law 1029 = .ok (.aload_n 1, 1) := z_dk tdL_law_1029 0 rfl
theorem dL_law_1030 : decode cL_law 1030 = .ok (.aload_n 0, 1) := z_dk tdL_law_1029 1 rfl
theorem dL_law_1031 : decode cL_law 1031 = .ok (.iload 4, 2) := z_dk tdL_law_1029 2 rfl
theorem dL_law_1033 : decode cL_law 1033 = .ok (.iconst 1, 1) := z_dk tdL_law_1029 3 rfl
theorem dL_law_1034 : decode cL_law 1034 = .ok (.iadd, 1) := z_dk tdL_law_1029 4 rfl
theorem dL_law_1035 : decode cL_law 1035 = .ok (.iaload, 1) := z_dk tdL_law_1029 5 rfl
theorem dL_law_1036 : decode cL_law 1036 = .ok (.aload_n 0, 1) := z_dk tdL_law_1029 6 rfl
theorem dL_law_1037 : decode cL_law 1037 = .ok (.iload 4, 2) := z_dk tdL_law_1029 7 rfl
theorem dL_law_1039 : decode cL_law 1039 = .ok (.iconst 2, 1) := z_dk tdL_law_1029 8 rfl
theorem dL_law_1040 : decode cL_law 1040 = .ok (.iadd, 1) := z_dk tdL_law_1029 9 rfl
theorem dL_law_1041 : decode cL_law 1041 = .ok (.iaload, 1) := z_dk tdL_law_1029 10 rfl
theorem dL_law_1042 : decode cL_law 1042 = .ok (.aload_n 0, 1) := z_dk tdL_law_1029 11 rfl
theorem dL_law_1043 : decode cL_law 1043 = .ok (.iload 4, 2) := z_dk tdL_law_1029 12 rfl
theorem dL_law_1045 : decode cL_law 1045 = .ok (.iconst 3, 1) := z_dk tdL_law_1029 13 rfl
theorem dL_law_1046 : decode cL_law 1046 = .ok (.iadd, 1) := z_dk tdL_law_1029 14 rfl
theorem dL_law_1047 : decode cL_law 1047 = .ok (.iaload, 1) := z_dk tdL_law_1029 15 rfl
theorem dL_law_1048 : decode cL_law 1048 = .ok (.aload_n 3, 1) := z_dk tdL_law_1029 16 rfl
theorem dL_law_1049 : decode cL_law 1049 = .ok (.invokestatic 192, 3) := z_dk tdL_law_1029 17 rfl
theorem dL_law_1052 : decode cL_law 1052 = .ok (.istore 5, 2) := z_dk tdL_law_1029 18 rfl
theorem dL_law_1054 : decode cL_law 1054 = .ok (.aload_n 2, 1) := z_dk tdL_law_1029 19 rfl
theorem dL_law_1055 : decode cL_law 1055 = .ok (.aload_n 0, 1) := z_dk tdL_law_1029 20 rfl
theorem dL_law_1056 : decode cL_law 1056 = .ok (.iload 4, 2) := z_dk tdL_law_1029 21 rfl
theorem dL_law_1058 : decode cL_law 1058 = .ok (.iconst 1, 1) := z_dk tdL_law_1029 22 rfl
theorem dL_law_1059 : decode cL_law 1059 = .ok (.iadd, 1) := z_dk tdL_law_1029 23 rfl
theorem tdL_law_1060 : (([(1060, .iaload, 1), (1061, .aload_n 0, 1), (1062, .iload 4, 2), (1064, .iconst 2, 1), (1065, .iadd, 1), (1066, .iaload, 1), (1067, .aload_n 0, 1), (1068, .iload 4, 2), (1070, .iconst 3, 1), (1071, .iadd, 1), (1072, .iaload, 1), (1073, .invokevirtual 195, 3), (1076, .istore 6, 2), (1078, .goto 260, 3), (1081, .aload_n 1, 1), (1082, .aload_n 0, 1), (1083, .iload 4, 2), (1085, .iconst 1, 1), (1086, .iadd, 1), (1087, .iaload, 1), (1088, .aload_n 3, 1), (1089, .invokestatic 196, 3), (1092, .istore 5, 2), (1094, .aload_n 2, 1)] : List (Nat × Instr × Nat)).all fun e => decide (decode cL_law e.1 = .ok e.2)) = true := by decide +kernel
theorem dL_law_1060 : decode cL_law 1060 = .ok (.iaload, 1) := z_dk tdL_law_1060 0 rfl
theorem dL_law_1061 : decode cL_law 1061 = .ok (.aload_n 0, 1) := z_dk tdL_law_1060 1 rfl
theorem dL_law_1062 : decode cL_law 1062 = .ok (.iload 4, 2) := z_dk tdL_law_1060 2 rfl
theorem dL_law_1064 : decode cL_law 1064 = .ok (.iconst 2, 1) := z_dk tdL_law_1060 3 rfl
theorem dL_law_1065 : decode cL_law 1065 = .ok (.iadd, 1) := z_dk tdL_law_1060 4 rfl
theorem dL_law_1066 : decode cL_law 1066 = .ok (.iaload, 1) := z_dk tdL_law_1060 5 rfl
theorem dL_law_1067 : decode cL_law 1067 = .ok (.aload_n 0, 1) := z_dk tdL_law_1060 6 rfl
theorem dL_law_1068 : decode cL_law 1068 = .ok (.iload 4, 2) := z_dk tdL_law_1060 7 rfl
theorem dL_law_1070 : decode cL_law 1070 = .ok (.iconst 3, 1) := z_dk tdL_law_1060 8 rfl
theorem dL_law_1071 : decode cL_law 1071 = .ok (.iadd, 1) := z_dk tdL_law_1060 9 rfl
theorem dL_law_1072 : decode cL_law 1072 = .ok (.iaload, 1) := z_dk tdL_law_1060 10 rfl
theorem dL_law_1073 : decode cL_law 1073 = .ok (.invokevirtual 195, 3) := z_dk tdL_law_1060 11 rfl
theorem dL_law_1076 : decode cL_law 1076 = .ok (.istore 6, 2) := z_dk tdL_law_1060 12 rfl
theorem dL_law_1078 : decode cL_law 1078 = .ok (.goto 260, 3) := z_dk tdL_law_1060 13 rfl
theorem dL_law_1081 : decode cL_law 1081 = .ok (.aload_n 1, 1) := z_dk tdL_law_1060 14 rfl
theorem dL_law_1082 : decode cL_law 1082 = .ok (.aload_n 0, 1) := z_dk tdL_law_1060 15 rfl
theorem dL_law_1083 : decode cL_law 1083 = .ok (.iload 4, 2) := z_dk tdL_law_1060 16 rfl
theorem dL_law_1085 : decode cL_law 1085 = .ok (.iconst 1, 1) := z_dk tdL_law_1060 17 rfl
theorem dL_law_1086 : decode cL_law 1086 = .ok (.iadd, 1) := z_dk tdL_law_1060 18 rfl
theorem dL_law_1087 : decode cL_law 1087 = .ok (.iaload, 1) := z_dk tdL_law_1060 19 rfl
theorem dL_law_1088 : decode cL_law 1088 = .ok (.aload_n 3, 1) := z_dk tdL_law_1060 20 rfl
theorem dL_law_1089 : decode cL_law 1089 = .ok (.invokestatic 196, 3) := z_dk tdL_law_1060 21 rfl
theorem dL_law_1092 : decode cL_law 1092 = .ok (.istore 5, 2) := z_dk tdL_law_1060 22 rfl
theorem dL_law_1094 : decode cL_law 1094 = .ok (.aload_n 2, 1) := z_dk tdL_law_1060 23 rfl
theorem tdL_law_1095 : (([(1095, .aload_n 0, 1), (1096, .iload 4, 2), (1098, .iconst 1, 1), (1099, .iadd, 1), (1100, .iaload, 1), (1101, .invokevirtual 198, 3), (1104, .istore 6, 2), (1106, .goto 232, 3), (1109, .aload_n 1, 1), (1110, .aload_n 0, 1), (1111, .iload 4, 2), (1113, .iconst 1, 1), (1114, .iadd, 1), (1115, .iaload, 1), (1116, .aload_n 3, 1), (1117, .invokestatic 199, 3), (1120, .istore 5, 2), (1122, .aload_n 2, 1), (1123, .aload_n 0, 1), (1124, .iload 4, 2), (1126, .iconst 1, 1), (1127, .iadd, 1), (1128, .iaload, 1), (1129, .invokevirtual 201, 3)] : List (Nat × Instr × Nat)).all fun e => decide (decode cL_law e.1 = .ok e.2)) = true := by decide +kernel
theorem dL_law_1095 : decode cL_law 1095 = .ok (.aload_n 0, 1) := z_dk tdL_law_1095 0 rfl
theorem dL_law_1096 : decode cL_law 1096 = .ok (.iload 4, 2) := z_dk tdL_law_1095 1 rfl
theorem dL_law_1098 : decode cL_law 1098 = .ok (.iconst 1, 1) := z_dk tdL_law_1095 2 rfl
theorem dL_law_1099 : decode cL_law 1099 = .ok (.iadd, 1) := z_dk tdL_law_1095 3 rfl
theorem dL_law_1100 : decode cL_law 1100 = .ok (.iaload, 1) := z_dk tdL_law_1095 4 rfl
theorem dL_law_1101 : decode cL_law 1101 = .ok (.invokevirtual 198, 3) := z_dk tdL_law_1095 5 rfl
theorem dL_law_1104 : decode cL_law 1104 = .ok (.istore 6, 2) := z_dk tdL_law_1095 6 rfl
theorem dL_law_1106 : decode cL_law 1106 = .ok (.goto 232, 3) := z_dk tdL_law_1095 7 rfl
theorem dL_law_1109 : decode cL_law 1109 = .ok (.aload_n 1, 1) := z_dk tdL_law_1095 8 rfl
theorem dL_law_1110 : decode cL_law 1110 = .ok (.aload_n 0, 1) := z_dk tdL_law_1095 9 rfl
theorem dL_law_1111 : decode cL_law 1111 = .ok (.iload 4, 2) := z_dk tdL_law_1095 10 rfl
theorem dL_law_1113 : decode cL_law 1113 = .ok (.iconst 1, 1) := z_dk tdL_law_1095 11 rfl
theorem dL_law_1114 : decode cL_law 1114 = .ok (.iadd, 1) := z_dk tdL_law_1095 12 rfl
theorem dL_law_1115 : decode cL_law 1115 = .ok (.iaload, 1) := z_dk tdL_law_1095 13 rfl
theorem dL_law_1116 : decode cL_law 1116 = .ok (.aload_n 3, 1) := z_dk tdL_law_1095 14 rfl
theorem dL_law_1117 : decode cL_law 1117 = .ok (.invokestatic 199, 3) := z_dk tdL_law_1095 15 rfl
theorem dL_law_1120 : decode cL_law 1120 = .ok (.istore 5, 2) := z_dk tdL_law_1095 16 rfl
theorem dL_law_1122 : decode cL_law 1122 = .ok (.aload_n 2, 1) := z_dk tdL_law_1095 17 rfl
theorem dL_law_1123 : decode cL_law 1123 = .ok (.aload_n 0, 1) := z_dk tdL_law_1095 18 rfl
theorem dL_law_1124 : decode cL_law 1124 = .ok (.iload 4, 2) := z_dk tdL_law_1095 19 rfl
theorem dL_law_1126 : decode cL_law 1126 = .ok (.iconst 1, 1) := z_dk tdL_law_1095 20 rfl
theorem dL_law_1127 : decode cL_law 1127 = .ok (.iadd, 1) := z_dk tdL_law_1095 21 rfl
theorem dL_law_1128 : decode cL_law 1128 = .ok (.iaload, 1) := z_dk tdL_law_1095 22 rfl
theorem dL_law_1129 : decode cL_law 1129 = .ok (.invokevirtual 201, 3) := z_dk tdL_law_1095 23 rfl
theorem tdL_law_1132 : (([(1132, .istore 6, 2), (1134, .goto 204, 3), (1137, .aload_n 1, 1), (1138, .aload_n 0, 1), (1139, .iload 4, 2), (1141, .iconst 1, 1), (1142, .iadd, 1), (1143, .iaload, 1), (1144, .aload_n 0, 1), (1145, .iload 4, 2), (1147, .iconst 2, 1), (1148, .iadd, 1), (1149, .iaload, 1), (1150, .aload_n 3, 1), (1151, .invokestatic 202, 3), (1154, .istore 5, 2), (1156, .aload_n 2, 1), (1157, .aload_n 0, 1), (1158, .iload 4, 2), (1160, .iconst 1, 1), (1161, .iadd, 1), (1162, .iaload, 1), (1163, .aload_n 0, 1), (1164, .iload 4, 2)] : List (Nat × Instr × Nat)).all fun e => decide (decode cL_law e.1 = .ok e.2)) = true := by decide +kernel
theorem dL_law_1132 : decode cL_law 1132 = .ok (.istore 6, 2) := z_dk tdL_law_1132 0 rfl
theorem dL_law_1134 : decode cL_law 1134 = .ok (.goto 204, 3) := z_dk tdL_law_1132 1 rfl
theorem dL_law_1137 : decode cL_law 1137 = .ok (.aload_n 1, 1) := z_dk tdL_law_1132 2 rfl
theorem dL_law_1138 : decode cL_law 1138 = .ok (.aload_n 0, 1) := z_dk tdL_law_1132 3 rfl
theorem dL_law_1139 : decode cL_law 1139 = .ok (.iload 4, 2) := z_dk tdL_law_1132 4 rfl
theorem dL_law_1141 : decode cL_law 1141 = .ok (.iconst 1, 1) := z_dk tdL_law_1132 5 rfl
theorem dL_law_1142 : decode cL_law 1142 = .ok (.iadd, 1) := z_dk tdL_law_1132 6 rfl
theorem dL_law_1143 : decode cL_law 1143 = .ok (.iaload, 1) := z_dk tdL_law_1132 7 rfl
theorem dL_law_1144 : decode cL_law 1144 = .ok (.aload_n 0, 1) := z_dk tdL_law_1132 8 rfl
theorem dL_law_1145 : decode cL_law 1145 = .ok (.iload 4, 2) := z_dk tdL_law_1132 9 rfl
theorem dL_law_1147 : decode cL_law 1147 = .ok (.iconst 2, 1) := z_dk tdL_law_1132 10 rfl
theorem dL_law_1148 : decode cL_law 1148 = .ok (.iadd, 1) := z_dk tdL_law_1132 11 rfl
theorem dL_law_1149 : decode cL_law 1149 = .ok (.iaload, 1) := z_dk tdL_law_1132 12 rfl
theorem dL_law_1150 : decode cL_law 1150 = .ok (.aload_n 3, 1) := z_dk tdL_law_1132 13 rfl
theorem dL_law_1151 : decode cL_law 1151 = .ok (.invokestatic 202, 3) := z_dk tdL_law_1132 14 rfl
theorem dL_law_1154 : decode cL_law 1154 = .ok (.istore 5, 2) := z_dk tdL_law_1132 15 rfl
theorem dL_law_1156 : decode cL_law 1156 = .ok (.aload_n 2, 1) := z_dk tdL_law_1132 16 rfl
theorem dL_law_1157 : decode cL_law 1157 = .ok (.aload_n 0, 1) := z_dk tdL_law_1132 17 rfl
theorem dL_law_1158 : decode cL_law 1158 = .ok (.iload 4, 2) := z_dk tdL_law_1132 18 rfl
theorem dL_law_1160 : decode cL_law 1160 = .ok (.iconst 1, 1) := z_dk tdL_law_1132 19 rfl
theorem dL_law_1161 : decode cL_law 1161 = .ok (.iadd, 1) := z_dk tdL_law_1132 20 rfl
theorem dL_law_1162 : decode cL_law 1162 = .ok (.iaload, 1) := z_dk tdL_law_1132 21 rfl
theorem dL_law_1163 : decode cL_law 1163 = .ok (.aload_n 0, 1) := z_dk tdL_law_1132 22 rfl
theorem dL_law_1164 : decode cL_law 1164 = .ok (.iload 4, 2) := z_dk tdL_law_1132 23 rfl
theorem tdL_law_1166 : (([(1166, .iconst 2, 1), (1167, .iadd, 1), (1168, .iaload, 1), (1169, .invokevirtual 204, 3), (1172, .istore 6, 2), (1174, .goto 164, 3), (1177, .aload_n 1, 1), (1178, .aload_n 0, 1), (1179, .iload 4, 2), (1181, .iconst 1, 1), (1182, .iadd, 1), (1183, .iaload, 1), (1184, .aload_n 3, 1), (1185, .invokestatic 205, 3), (1188, .istore 5, 2), (1190, .aload_n 2, 1), (1191, .aload_n 0, 1), (1192, .iload 4, 2), (1194, .iconst 1, 1), (1195, .iadd, 1), (1196, .iaload, 1), (1197, .invokevirtual 207, 3), (1200, .istore 6, 2), (1202, .goto 136, 3)] : List (Nat × Instr × Nat)).all fun e => decide (decode cL_law e.1 = .ok e.2)) = true := by decide +kernel
theorem dL_law_1166 : decode cL_law 1166 = .ok (.iconst 2, 1) := z_dk tdL_law_1166 0 rfl
theorem dL_law_1167 : decode cL_law 1167 = .ok (.iadd, 1) := z_dk tdL_law_1166 1 rfl
theorem dL_law_1168 : decode cL_law 1168 = .ok (.iaload, 1) := z_dk tdL_law_1166 2 rfl
theorem dL_law_1169 : decode cL_law 1169 = .ok (.invokevirtual 204, 3) := z_dk tdL_law_1166 3 rfl
theorem dL_law_1172 : decode cL_law 1172 = .ok (.istore 6, 2) := z_dk tdL_law_1166 4 rfl
theorem dL_law_1174 : decode cL_law 1174 = .ok (.goto 164, 3) := z_dk tdL_law_1166 5 rfl
theorem dL_law_1177 : decode cL_law 1177 = .ok (.aload_n 1, 1) := z_dk tdL_law_1166 6 rfl
theorem dL_law_1178 : decode cL_law 1178 = .ok (.aload_n 0, 1) := z_dk tdL_law_1166 7 rfl
theorem dL_law_1179 : decode cL_law 1179 = .ok (.iload 4, 2) := z_dk tdL_law_1166 8 rfl
theorem dL_law_1181 : decode cL_law 1181 = .ok (.iconst 1, 1) := z_dk tdL_law_1166 9 rfl
theorem dL_law_1182 : decode cL_law 1182 = .ok (.iadd, 1) := z_dk tdL_law_1166 10 rfl
theorem dL_law_1183 : decode cL_law 1183 = .ok (.iaload, 1) := z_dk tdL_law_1166 11 rfl
theorem dL_law_1184 : decode cL_law 1184 = .ok (.aload_n 3, 1) := z_dk tdL_law_1166 12 rfl
theorem dL_law_1185 : decode cL_law 1185 = .ok (.invokestatic 205, 3) := z_dk tdL_law_1166 13 rfl
theorem dL_law_1188 : decode cL_law 1188 = .ok (.istore 5, 2) := z_dk tdL_law_1166 14 rfl
theorem dL_law_1190 : decode cL_law 1190 = .ok (.aload_n 2, 1) := z_dk tdL_law_1166 15 rfl
theorem dL_law_1191 : decode cL_law 1191 = .ok (.aload_n 0, 1) := z_dk tdL_law_1166 16 rfl
theorem dL_law_1192 : decode cL_law 1192 = .ok (.iload 4, 2) := z_dk tdL_law_1166 17 rfl
theorem dL_law_1194 : decode cL_law 1194 = .ok (.iconst 1, 1) := z_dk tdL_law_1166 18 rfl
theorem dL_law_1195 : decode cL_law 1195 = .ok (.iadd, 1) := z_dk tdL_law_1166 19 rfl
theorem dL_law_1196 : decode cL_law 1196 = .ok (.iaload, 1) := z_dk tdL_law_1166 20 rfl
theorem dL_law_1197 : decode cL_law 1197 = .ok (.invokevirtual 207, 3) := z_dk tdL_law_1166 21 rfl
theorem dL_law_1200 : decode cL_law 1200 = .ok (.istore 6, 2) := z_dk tdL_law_1166 22 rfl
theorem dL_law_1202 : decode cL_law 1202 = .ok (.goto 136, 3) := z_dk tdL_law_1166 23 rfl
theorem tdL_law_1205 : (([(1205, .aload_n 1, 1), (1206, .aload_n 0, 1), (1207, .iload 4, 2), (1209, .iconst 1, 1), (1210, .iadd, 1), (1211, .iaload, 1), (1212, .aload_n 0, 1), (1213, .iload 4, 2), (1215, .iconst 2, 1), (1216, .iadd, 1), (1217, .iaload, 1), (1218, .aload_n 0, 1), (1219, .iload 4, 2), (1221, .iconst 3, 1), (1222, .iadd, 1), (1223, .iaload, 1), (1224, .aload_n 3, 1), (1225, .invokestatic 208, 3), (1228, .istore 5, 2), (1230, .aload_n 2, 1), (1231, .aload_n 0, 1), (1232, .iload 4, 2), (1234, .iconst 1, 1), (1235, .iadd, 1)] : List (Nat × Instr × Nat)).all fun e => decide (decode cL_law e.1 = .ok e.2)) = true := by decide +kernel
theorem dL_law_1205 : decode cL_law 1205 = .ok (.aload_n 1, 1) := z_dk tdL_law_1205 0 rfl
theorem dL_law_1206 : decode cL_law 1206 = .ok (.aload_n 0, 1) := z_dk tdL_law_1205 1 rfl
theorem dL_law_1207 : decode cL_law 1207 = .ok (.iload 4, 2) := z_dk tdL_law_1205 2 rfl
theorem dL_law_1209 : decode cL_law 1209 = .ok (.iconst 1, 1) := z_dk tdL_law_1205 3 rfl
theorem dL_law_1210 : decode cL_law 1210 = .ok (.iadd, 1) := z_dk tdL_law_1205 4 rfl
theorem dL_law_1211 : decode cL_law 1211 = .ok (.iaload, 1) := z_dk tdL_law_1205 5 rfl
theorem dL_law_1212 : decode cL_law 1212 = .ok (.aload_n 0, 1) := z_dk tdL_law_1205 6 rfl
theorem dL_law_1213 : decode cL_law 1213 = .ok (.iload 4, 2) := z_dk tdL_law_1205 7 rfl
theorem dL_law_1215 : decode cL_law 1215 = .ok (.iconst 2, 1) := z_dk tdL_law_1205 8 rfl
theorem dL_law_1216 : decode cL_law 1216 = .ok (.iadd, 1) := z_dk tdL_law_1205 9 rfl
theorem dL_law_1217 : decode cL_law 1217 = .ok (.iaload, 1) := z_dk tdL_law_1205 10 rfl
theorem dL_law_1218 : decode cL_law 1218 = .ok (.aload_n 0, 1) := z_dk tdL_law_1205 11 rfl
theorem dL_law_1219 : decode cL_law 1219 = .ok (.iload 4, 2) := z_dk tdL_law_1205 12 rfl
theorem dL_law_1221 : decode cL_law 1221 = .ok (.iconst 3, 1) := z_dk tdL_law_1205 13 rfl
theorem dL_law_1222 : decode cL_law 1222 = .ok (.iadd, 1) := z_dk tdL_law_1205 14 rfl
theorem dL_law_1223 : decode cL_law 1223 = .ok (.iaload, 1) := z_dk tdL_law_1205 15 rfl
theorem dL_law_1224 : decode cL_law 1224 = .ok (.aload_n 3, 1) := z_dk tdL_law_1205 16 rfl
theorem dL_law_1225 : decode cL_law 1225 = .ok (.invokestatic 208, 3) := z_dk tdL_law_1205 17 rfl
theorem dL_law_1228 : decode cL_law 1228 = .ok (.istore 5, 2) := z_dk tdL_law_1205 18 rfl
theorem dL_law_1230 : decode cL_law 1230 = .ok (.aload_n 2, 1) := z_dk tdL_law_1205 19 rfl
theorem dL_law_1231 : decode cL_law 1231 = .ok (.aload_n 0, 1) := z_dk tdL_law_1205 20 rfl
theorem dL_law_1232 : decode cL_law 1232 = .ok (.iload 4, 2) := z_dk tdL_law_1205 21 rfl
theorem dL_law_1234 : decode cL_law 1234 = .ok (.iconst 1, 1) := z_dk tdL_law_1205 22 rfl
theorem dL_law_1235 : decode cL_law 1235 = .ok (.iadd, 1) := z_dk tdL_law_1205 23 rfl
theorem tdL_law_1236 : (([(1236, .iaload, 1), (1237, .aload_n 0, 1), (1238, .iload 4, 2), (1240, .iconst 2, 1), (1241, .iadd, 1), (1242, .iaload, 1), (1243, .aload_n 0, 1), (1244, .iload 4, 2), (1246, .iconst 3, 1), (1247, .iadd, 1), (1248, .iaload, 1), (1249, .invokevirtual 210, 3), (1252, .istore 6, 2), (1254, .goto 84, 3), (1257, .aload_n 1, 1), (1258, .aload_n 0, 1), (1259, .iload 4, 2), (1261, .iconst 1, 1), (1262, .iadd, 1), (1263, .iaload, 1), (1264, .aload_n 3, 1), (1265, .invokestatic 211, 3), (1268, .istore 5, 2), (1270, .aload_n 2, 1)] : List (Nat × Instr × Nat)).all fun e => decide (decode cL_law e.1 = .ok e.2)) = true := by decide +kernel
theorem dL_law_1236 : decode cL_law 1236 = .ok (.iaload, 1) := z_dk tdL_law_1236 0 rfl
theorem dL_law_1237 : decode cL_law 1237 = .ok (.aload_n 0, 1) := z_dk tdL_law_1236 1 rfl
theorem dL_law_1238 : decode cL_law 1238 = .ok (.iload 4, 2) := z_dk tdL_law_1236 2 rfl
theorem dL_law_1240 : decode cL_law 1240 = .ok (.iconst 2, 1) := z_dk tdL_law_1236 3 rfl
theorem dL_law_1241 : decode cL_law 1241 = .ok (.iadd, 1) := z_dk tdL_law_1236 4 rfl
theorem dL_law_1242 : decode cL_law 1242 = .ok (.iaload, 1) := z_dk tdL_law_1236 5 rfl
theorem dL_law_1243 : decode cL_law 1243 = .ok (.aload_n 0, 1) := z_dk tdL_law_1236 6 rfl
theorem dL_law_1244 : decode cL_law 1244 = .ok (.iload 4, 2) := z_dk tdL_law_1236 7 rfl
theorem dL_law_1246 : decode cL_law 1246 = .ok (.iconst 3, 1) := z_dk tdL_law_1236 8 rfl
theorem dL_law_1247 : decode cL_law 1247 = .ok (.iadd, 1) := z_dk tdL_law_1236 9 rfl
theorem dL_law_1248 : decode cL_law 1248 = .ok (.iaload, 1) := z_dk tdL_law_1236 10 rfl
theorem dL_law_1249 : decode cL_law 1249 = .ok (.invokevirtual 210, 3) := z_dk tdL_law_1236 11 rfl
theorem dL_law_1252 : decode cL_law 1252 = .ok (.istore 6, 2) := z_dk tdL_law_1236 12 rfl
theorem dL_law_1254 : decode cL_law 1254 = .ok (.goto 84, 3) := z_dk tdL_law_1236 13 rfl
theorem dL_law_1257 : decode cL_law 1257 = .ok (.aload_n 1, 1) := z_dk tdL_law_1236 14 rfl
theorem dL_law_1258 : decode cL_law 1258 = .ok (.aload_n 0, 1) := z_dk tdL_law_1236 15 rfl
theorem dL_law_1259 : decode cL_law 1259 = .ok (.iload 4, 2) := z_dk tdL_law_1236 16 rfl
theorem dL_law_1261 : decode cL_law 1261 = .ok (.iconst 1, 1) := z_dk tdL_law_1236 17 rfl
theorem dL_law_1262 : decode cL_law 1262 = .ok (.iadd, 1) := z_dk tdL_law_1236 18 rfl
theorem dL_law_1263 : decode cL_law 1263 = .ok (.iaload, 1) := z_dk tdL_law_1236 19 rfl
theorem dL_law_1264 : decode cL_law 1264 = .ok (.aload_n 3, 1) := z_dk tdL_law_1236 20 rfl
theorem dL_law_1265 : decode cL_law 1265 = .ok (.invokestatic 211, 3) := z_dk tdL_law_1236 21 rfl
theorem dL_law_1268 : decode cL_law 1268 = .ok (.istore 5, 2) := z_dk tdL_law_1236 22 rfl
theorem dL_law_1270 : decode cL_law 1270 = .ok (.aload_n 2, 1) := z_dk tdL_law_1236 23 rfl
theorem tdL_law_1271 : (([(1271, .aload_n 0, 1), (1272, .iload 4, 2), (1274, .iconst 1, 1), (1275, .iadd, 1), (1276, .iaload, 1), (1277, .invokevirtual 213, 3), (1280, .istore 6, 2), (1282, .aload_n 2, 1), (1283, .invokevirtual 214, 3), (1286, .iload 5, 2), (1288, .if_icmp .eq 5, 3), (1291, .iconst 0, 1), (1292, .ireturn, 1), (1293, .iload 5, 2), (1295, .ifCond .ne 15, 3), (1298, .aload_n 3, 1), (1299, .iconst 0, 1), (1300, .laload, 1), (1301, .iload 6, 2), (1303, .i2l, 1), (1304, .lcmp, 1), (1305, .ifCond .eq 5, 3), (1308, .iconst 0, 1), (1309, .ireturn, 1)] : List (Nat × Instr × Nat)).all fun e => decide (decode cL_law e.1 = .ok e.2)) = true := by decide +kernel
theorem dL_law_1271 : decode cL_law 1271 = .ok (.aload_n 0, 1) := z_dk tdL_law_1271 0 rfl
theorem dL_law_1272 : decode cL_law 1272 = .ok (.iload 4, 2) := z_dk tdL_law_1271 1 rfl
theorem dL_law_1274 : decode cL_law 1274 = .ok (.iconst 1, 1) := z_dk tdL_law_1271 2 rfl
theorem dL_law_1275 : decode cL_law 1275 = .ok (.iadd, 1) := z_dk tdL_law_1271 3 rfl
theorem dL_law_1276 : decode cL_law 1276 = .ok (.iaload, 1) := z_dk tdL_law_1271 4 rfl
theorem dL_law_1277 : decode cL_law 1277 = .ok (.invokevirtual 213, 3) := z_dk tdL_law_1271 5 rfl
theorem dL_law_1280 : decode cL_law 1280 = .ok (.istore 6, 2) := z_dk tdL_law_1271 6 rfl
theorem dL_law_1282 : decode cL_law 1282 = .ok (.aload_n 2, 1) := z_dk tdL_law_1271 7 rfl
theorem dL_law_1283 : decode cL_law 1283 = .ok (.invokevirtual 214, 3) := z_dk tdL_law_1271 8 rfl
theorem dL_law_1286 : decode cL_law 1286 = .ok (.iload 5, 2) := z_dk tdL_law_1271 9 rfl
theorem dL_law_1288 : decode cL_law 1288 = .ok (.if_icmp .eq 5, 3) := z_dk tdL_law_1271 10 rfl
theorem dL_law_1291 : decode cL_law 1291 = .ok (.iconst 0, 1) := z_dk tdL_law_1271 11 rfl
theorem dL_law_1292 : decode cL_law 1292 = .ok (.ireturn, 1) := z_dk tdL_law_1271 12 rfl
theorem dL_law_1293 : decode cL_law 1293 = .ok (.iload 5, 2) := z_dk tdL_law_1271 13 rfl
theorem dL_law_1295 : decode cL_law 1295 = .ok (.ifCond .ne 15, 3) := z_dk tdL_law_1271 14 rfl
theorem dL_law_1298 : decode cL_law 1298 = .ok (.aload_n 3, 1) := z_dk tdL_law_1271 15 rfl
theorem dL_law_1299 : decode cL_law 1299 = .ok (.iconst 0, 1) := z_dk tdL_law_1271 16 rfl
theorem dL_law_1300 : decode cL_law 1300 = .ok (.laload, 1) := z_dk tdL_law_1271 17 rfl
theorem dL_law_1301 : decode cL_law 1301 = .ok (.iload 6, 2) := z_dk tdL_law_1271 18 rfl
theorem dL_law_1303 : decode cL_law 1303 = .ok (.i2l, 1) := z_dk tdL_law_1271 19 rfl
theorem dL_law_1304 : decode cL_law 1304 = .ok (.lcmp, 1) := z_dk tdL_law_1271 20 rfl
theorem dL_law_1305 : decode cL_law 1305 = .ok (.ifCond .eq 5, 3) := z_dk tdL_law_1271 21 rfl
theorem dL_law_1308 : decode cL_law 1308 = .ok (.iconst 0, 1) := z_dk tdL_law_1271 22 rfl
theorem dL_law_1309 : decode cL_law 1309 = .ok (.ireturn, 1) := z_dk tdL_law_1271 23 rfl
theorem tdL_law_1310 : (([(1310, .goto 28, 3), (1313, .aload_n 1, 1), (1314, .aload_n 0, 1), (1315, .iload 4, 2), (1317, .iconst 1, 1), (1318, .iadd, 1), (1319, .iaload, 1), (1320, .invokevirtual 217, 3), (1323, .pop, 1), (1324, .aload_n 2, 1), (1325, .aload_n 0, 1), (1326, .iload 4, 2), (1328, .iconst 1, 1), (1329, .iadd, 1), (1330, .iaload, 1), (1331, .invokevirtual 220, 3), (1334, .pop, 1), (1335, .goto 3, 3), (1338, .iinc 4 6, 3), (1341, .goto (-1318), 3), (1344, .iconst 1, 1), (1345, .ireturn, 1)] : List (Nat × Instr × Nat)).all fun e => decide (decode cL_law e.1 = .ok e.2)) = true := by decide +kernel
theorem dL_law_1310 : decode cL_law 1310 = .ok (.goto 28, 3) := z_dk tdL_law_1310 0 rfl
theorem dL_law_1313 : decode cL_law 1313 = .ok (.aload_n 1, 1) := z_dk tdL_law_1310 1 rfl
theorem dL_law_1314 : decode cL_law 1314 = .ok (.aload_n 0, 1) := z_dk tdL_law_1310 2 rfl
theorem dL_law_1315 : decode cL_law 1315 = .ok (.iload 4, 2) := z_dk tdL_law_1310 3 rfl
theorem dL_law_1317 : decode cL_law 1317 = .ok (.iconst 1, 1) := z_dk tdL_law_1310 4 rfl
theorem dL_law_1318 : decode cL_law 1318 = .ok (.iadd, 1) := z_dk tdL_law_1310 5 rfl
theorem dL_law_1319 : decode cL_law 1319 = .ok (.iaload, 1) := z_dk tdL_law_1310 6 rfl
theorem dL_law_1320 : decode cL_law 1320 = .ok (.invokevirtual 217, 3) := z_dk tdL_law_1310 7 rfl
theorem dL_law_1323 : decode cL_law 1323 = .ok (.pop, 1) := z_dk tdL_law_1310 8 rfl
theorem dL_law_1324 : decode cL_law 1324 = .ok (.aload_n 2, 1) := z_dk tdL_law_1310 9 rfl
theorem dL_law_1325 : decode cL_law 1325 = .ok (.aload_n 0, 1) := z_dk tdL_law_1310 10 rfl
theorem dL_law_1326 : decode cL_law 1326 = .ok (.iload 4, 2) := z_dk tdL_law_1310 11 rfl
theorem dL_law_1328 : decode cL_law 1328 = .ok (.iconst 1, 1) := z_dk tdL_law_1310 12 rfl
theorem dL_law_1329 : decode cL_law 1329 = .ok (.iadd, 1) := z_dk tdL_law_1310 13 rfl
theorem dL_law_1330 : decode cL_law 1330 = .ok (.iaload, 1) := z_dk tdL_law_1310 14 rfl
theorem dL_law_1331 : decode cL_law 1331 = .ok (.invokevirtual 220, 3) := z_dk tdL_law_1310 15 rfl
theorem dL_law_1334 : decode cL_law 1334 = .ok (.pop, 1) := z_dk tdL_law_1310 16 rfl
theorem dL_law_1335 : decode cL_law 1335 = .ok (.goto 3, 3) := z_dk tdL_law_1310 17 rfl
theorem dL_law_1338 : decode cL_law 1338 = .ok (.iinc 4 6, 3) := z_dk tdL_law_1310 18 rfl
theorem dL_law_1341 : decode cL_law 1341 = .ok (.goto (-1318), 3) := z_dk tdL_law_1310 19 rfl
theorem dL_law_1344 : decode cL_law 1344 = .ok (.iconst 1, 1) := z_dk tdL_law_1310 20 rfl
theorem dL_law_1345 : decode cL_law 1345 = .ok (.ireturn, 1) := z_dk tdL_law_1310 21 rfl
