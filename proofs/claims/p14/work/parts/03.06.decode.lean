def dtX7_find_11_0 : List (Nat × Instr × Nat) := [(11, .iconst 0, 1), (12, .iload_n 3, 1), (13, .iastore, 1), (14, .aload_n 0, 1), (15, .getfield 45, 3), (18, .iconst 1, 1), (19, .iload 7, 2), (21, .iconst 1, 1), (22, .if_icmp .le 8, 3), (25, .iload 4, 2), (27, .goto 4, 3), (30, .iconst 0, 1), (31, .iastore, 1), (32, .aload_n 0, 1), (33, .getfield 45, 3), (36, .iconst 2, 1), (37, .iload 7, 2), (39, .iconst 2, 1), (40, .if_icmp .le 8, 3), (43, .iload 5, 2), (45, .goto 4, 3), (48, .iconst 0, 1), (49, .iastore, 1), (50, .aload_n 0, 1), (51, .getfield 45, 3), (54, .iconst 3, 1), (55, .iload 7, 2), (57, .iconst 3, 1), (58, .if_icmp .le 8, 3), (61, .iload 6, 2), (63, .goto 4, 3), (66, .iconst 0, 1)]
theorem dtX7_find_11_0_ok : dcAll cX7_find dtX7_find_11_0 = true := by decide +kernel
theorem dX7_find_11 : decode cX7_find 11 = .ok (.iconst 0, 1) := dc_of dtX7_find_11_0_ok (i := 0) rfl
theorem dX7_find_12 : decode cX7_find 12 = .ok (.iload_n 3, 1) := dc_of dtX7_find_11_0_ok (i := 1) rfl
theorem dX7_find_13 : decode cX7_find 13 = .ok (.iastore, 1) := dc_of dtX7_find_11_0_ok (i := 2) rfl
theorem dX7_find_14 : decode cX7_find 14 = .ok (.aload_n 0, 1) := dc_of dtX7_find_11_0_ok (i := 3) rfl
theorem dX7_find_15 : decode cX7_find 15 = .ok (.getfield 45, 3) := dc_of dtX7_find_11_0_ok (i := 4) rfl
theorem dX7_find_18 : decode cX7_find 18 = .ok (.iconst 1, 1) := dc_of dtX7_find_11_0_ok (i := 5) rfl
theorem dX7_find_19 : decode cX7_find 19 = .ok (.iload 7, 2) := dc_of dtX7_find_11_0_ok (i := 6) rfl
theorem dX7_find_21 : decode cX7_find 21 = .ok (.iconst 1, 1) := dc_of dtX7_find_11_0_ok (i := 7) rfl
theorem dX7_find_22 : decode cX7_find 22 = .ok (.if_icmp .le 8, 3) := dc_of dtX7_find_11_0_ok (i := 8) rfl
theorem dX7_find_25 : decode cX7_find 25 = .ok (.iload 4, 2) := dc_of dtX7_find_11_0_ok (i := 9) rfl
theorem dX7_find_27 : decode cX7_find 27 = .ok (.goto 4, 3) := dc_of dtX7_find_11_0_ok (i := 10) rfl
theorem dX7_find_30 : decode cX7_find 30 = .ok (.iconst 0, 1) := dc_of dtX7_find_11_0_ok (i := 11) rfl
theorem dX7_find_31 : decode cX7_find 31 = .ok (.iastore, 1) := dc_of dtX7_find_11_0_ok (i := 12) rfl
theorem dX7_find_32 : decode cX7_find 32 = .ok (.aload_n 0, 1) := dc_of dtX7_find_11_0_ok (i := 13) rfl
theorem dX7_find_33 : decode cX7_find 33 = .ok (.getfield 45, 3) := dc_of dtX7_find_11_0_ok (i := 14) rfl
theorem dX7_find_36 : decode cX7_find 36 = .ok (.iconst 2, 1) := dc_of dtX7_find_11_0_ok (i := 15) rfl
theorem dX7_find_37 : decode cX7_find 37 = .ok (.iload 7, 2) := dc_of dtX7_find_11_0_ok (i := 16) rfl
theorem dX7_find_39 : decode cX7_find 39 = .ok (.iconst 2, 1) := dc_of dtX7_find_11_0_ok (i := 17) rfl
theorem dX7_find_40 : decode cX7_find 40 = .ok (.if_icmp .le 8, 3) := dc_of dtX7_find_11_0_ok (i := 18) rfl
theorem dX7_find_43 : decode cX7_find 43 = .ok (.iload 5, 2) := dc_of dtX7_find_11_0_ok (i := 19) rfl
theorem dX7_find_45 : decode cX7_find 45 = .ok (.goto 4, 3) := dc_of dtX7_find_11_0_ok (i := 20) rfl
theorem dX7_find_48 : decode cX7_find 48 = .ok (.iconst 0, 1) := dc_of dtX7_find_11_0_ok (i := 21) rfl
theorem dX7_find_49 : decode cX7_find 49 = .ok (.iastore, 1) := dc_of dtX7_find_11_0_ok (i := 22) rfl
theorem dX7_find_50 : decode cX7_find 50 = .ok (.aload_n 0, 1) := dc_of dtX7_find_11_0_ok (i := 23) rfl
theorem dX7_find_51 : decode cX7_find 51 = .ok (.getfield 45, 3) := dc_of dtX7_find_11_0_ok (i := 24) rfl
theorem dX7_find_54 : decode cX7_find 54 = .ok (.iconst 3, 1) := dc_of dtX7_find_11_0_ok (i := 25) rfl
theorem dX7_find_55 : decode cX7_find 55 = .ok (.iload 7, 2) := dc_of dtX7_find_11_0_ok (i := 26) rfl
theorem dX7_find_57 : decode cX7_find 57 = .ok (.iconst 3, 1) := dc_of dtX7_find_11_0_ok (i := 27) rfl
theorem dX7_find_58 : decode cX7_find 58 = .ok (.if_icmp .le 8, 3) := dc_of dtX7_find_11_0_ok (i := 28) rfl
theorem dX7_find_61 : decode cX7_find 61 = .ok (.iload 6, 2) := dc_of dtX7_find_11_0_ok (i := 29) rfl
theorem dX7_find_63 : decode cX7_find 63 = .ok (.goto 4, 3) := dc_of dtX7_find_11_0_ok (i := 30) rfl
theorem dX7_find_66 : decode cX7_find 66 = .ok (.iconst 0, 1) := dc_of dtX7_find_11_0_ok (i := 31) rfl
def dtX7_find_67_1 : List (Nat × Instr × Nat) := [(67, .iastore, 1), (68, .iconst 0, 1), (69, .istore 8, 2), (71, .iload 8, 2), (73, .aload_n 0, 1), (74, .iload_n 1, 1), (75, .iload_n 2, 1), (76, .invokevirtual 295, 3), (79, .if_icmp .ge 34, 3), (82, .aload_n 0, 1), (83, .getfield 24, 3), (86, .iload_n 1, 1), (87, .iload_n 2, 1), (88, .iload 8, 2), (90, .invokestatic 279, 3), (93, .aload_n 0, 1), (94, .getfield 45, 3), (97, .iconst 0, 1), (98, .invokestatic 272, 3), (101, .ifCond .ne 6, 3), (104, .iload 8, 2), (106, .ireturn, 1), (107, .iinc 8 1, 3), (110, .goto (-39), 3), (113, .iconst (-1), 1), (114, .ireturn, 1)]
theorem dtX7_find_67_1_ok : dcAll cX7_find dtX7_find_67_1 = true := by decide +kernel
theorem dX7_find_67 : decode cX7_find 67 = .ok (.iastore, 1) := dc_of dtX7_find_67_1_ok (i := 0) rfl
theorem dX7_find_68 : decode cX7_find 68 = .ok (.iconst 0, 1) := dc_of dtX7_find_67_1_ok (i := 1) rfl
theorem dX7_find_69 : decode cX7_find 69 = .ok (.istore 8, 2) := dc_of dtX7_find_67_1_ok (i := 2) rfl
theorem dX7_find_71 : decode cX7_find 71 = .ok (.iload 8, 2) := dc_of dtX7_find_67_1_ok (i := 3) rfl
theorem dX7_find_73 : decode cX7_find 73 = .ok (.aload_n 0, 1) := dc_of dtX7_find_67_1_ok (i := 4) rfl
theorem dX7_find_74 : decode cX7_find 74 = .ok (.iload_n 1, 1) := dc_of dtX7_find_67_1_ok (i := 5) rfl
theorem dX7_find_75 : decode cX7_find 75 = .ok (.iload_n 2, 1) := dc_of dtX7_find_67_1_ok (i := 6) rfl
theorem dX7_find_76 : decode cX7_find 76 = .ok (.invokevirtual 295, 3) := dc_of dtX7_find_67_1_ok (i := 7) rfl
theorem dX7_find_79 : decode cX7_find 79 = .ok (.if_icmp .ge 34, 3) := dc_of dtX7_find_67_1_ok (i := 8) rfl
theorem dX7_find_82 : decode cX7_find 82 = .ok (.aload_n 0, 1) := dc_of dtX7_find_67_1_ok (i := 9) rfl
theorem dX7_find_83 : decode cX7_find 83 = .ok (.getfield 24, 3) := dc_of dtX7_find_67_1_ok (i := 10) rfl
theorem dX7_find_86 : decode cX7_find 86 = .ok (.iload_n 1, 1) := dc_of dtX7_find_67_1_ok (i := 11) rfl
theorem dX7_find_87 : decode cX7_find 87 = .ok (.iload_n 2, 1) := dc_of dtX7_find_67_1_ok (i := 12) rfl
theorem dX7_find_88 : decode cX7_find 88 = .ok (.iload 8, 2) := dc_of dtX7_find_67_1_ok (i := 13) rfl
theorem dX7_find_90 : decode cX7_find 90 = .ok (.invokestatic 279, 3) := dc_of dtX7_find_67_1_ok (i := 14) rfl
theorem dX7_find_93 : decode cX7_find 93 = .ok (.aload_n 0, 1) := dc_of dtX7_find_67_1_ok (i := 15) rfl
theorem dX7_find_94 : decode cX7_find 94 = .ok (.getfield 45, 3) := dc_of dtX7_find_67_1_ok (i := 16) rfl
theorem dX7_find_97 : decode cX7_find 97 = .ok (.iconst 0, 1) := dc_of dtX7_find_67_1_ok (i := 17) rfl
theorem dX7_find_98 : decode cX7_find 98 = .ok (.invokestatic 272, 3) := dc_of dtX7_find_67_1_ok (i := 18) rfl
theorem dX7_find_101 : decode cX7_find 101 = .ok (.ifCond .ne 6, 3) := dc_of dtX7_find_67_1_ok (i := 19) rfl
theorem dX7_find_104 : decode cX7_find 104 = .ok (.iload 8, 2) := dc_of dtX7_find_67_1_ok (i := 20) rfl
theorem dX7_find_106 : decode cX7_find 106 = .ok (.ireturn, 1) := dc_of dtX7_find_67_1_ok (i := 21) rfl
theorem dX7_find_107 : decode cX7_find 107 = .ok (.iinc 8 1, 3) := dc_of dtX7_find_67_1_ok (i := 22) rfl
theorem dX7_find_110 : decode cX7_find 110 = .ok (.goto (-39), 3) := dc_of dtX7_find_67_1_ok (i := 23) rfl
theorem dX7_find_113 : decode cX7_find 113 = .ok (.iconst (-1), 1) := dc_of dtX7_find_67_1_ok (i := 24) rfl
theorem dX7_find_114 : decode cX7_find 114 = .ok (.ireturn, 1) := dc_of dtX7_find_67_1_ok (i := 25) rfl
def dtX7_count_0_0 : List (Nat × Instr × Nat) := [(0, .aload_n 0, 1), (1, .aload_n 0, 1), (2, .iload_n 1, 1), (3, .invokevirtual 352, 3), (6, .ifCond .eq 7, 3), (9, .iconst 0, 1), (10, .goto 4, 3), (13, .iconst 1, 1), (14, .putfield 60, 3), (17, .aload_n 0, 1), (18, .getfield 60, 3), (21, .iconst 1, 1), (22, .if_icmp .ne 5, 3), (25, .iconst 0, 1), (26, .ireturn, 1), (27, .aload_n 0, 1), (28, .iconst 0, 1), (29, .iload_n 1, 1), (30, .iload_n 2, 1), (31, .iload_n 3, 1), (32, .iload 4, 2), (34, .iload 5, 2), (36, .invokevirtual 367, 3), (39, .istore 6, 2), (41, .iload 6, 2), (43, .ifCond .ge 7, 3), (46, .iconst 0, 1), (47, .goto 17, 3), (50, .aload_n 0, 1), (51, .getfield 24, 3), (54, .iconst 0, 1), (55, .iload_n 1, 1)]
theorem dtX7_count_0_0_ok : dcAll cX7_count dtX7_count_0_0 = true := by decide +kernel
theorem dX7_count_0 : decode cX7_count 0 = .ok (.aload_n 0, 1) := dc_of dtX7_count_0_0_ok (i := 0) rfl
theorem dX7_count_1 : decode cX7_count 1 = .ok (.aload_n 0, 1) := dc_of dtX7_count_0_0_ok (i := 1) rfl
theorem dX7_count_2 : decode cX7_count 2 = .ok (.iload_n 1, 1) := dc_of dtX7_count_0_0_ok (i := 2) rfl
theorem dX7_count_3 : decode cX7_count 3 = .ok (.invokevirtual 352, 3) := dc_of dtX7_count_0_0_ok (i := 3) rfl
theorem dX7_count_6 : decode cX7_count 6 = .ok (.ifCond .eq 7, 3) := dc_of dtX7_count_0_0_ok (i := 4) rfl
theorem dX7_count_9 : decode cX7_count 9 = .ok (.iconst 0, 1) := dc_of dtX7_count_0_0_ok (i := 5) rfl
theorem dX7_count_10 : decode cX7_count 10 = .ok (.goto 4, 3) := dc_of dtX7_count_0_0_ok (i := 6) rfl
theorem dX7_count_13 : decode cX7_count 13 = .ok (.iconst 1, 1) := dc_of dtX7_count_0_0_ok (i := 7) rfl
theorem dX7_count_14 : decode cX7_count 14 = .ok (.putfield 60, 3) := dc_of dtX7_count_0_0_ok (i := 8) rfl
theorem dX7_count_17 : decode cX7_count 17 = .ok (.aload_n 0, 1) := dc_of dtX7_count_0_0_ok (i := 9) rfl
theorem dX7_count_18 : decode cX7_count 18 = .ok (.getfield 60, 3) := dc_of dtX7_count_0_0_ok (i := 10) rfl
theorem dX7_count_21 : decode cX7_count 21 = .ok (.iconst 1, 1) := dc_of dtX7_count_0_0_ok (i := 11) rfl
theorem dX7_count_22 : decode cX7_count 22 = .ok (.if_icmp .ne 5, 3) := dc_of dtX7_count_0_0_ok (i := 12) rfl
theorem dX7_count_25 : decode cX7_count 25 = .ok (.iconst 0, 1) := dc_of dtX7_count_0_0_ok (i := 13) rfl
theorem dX7_count_26 : decode cX7_count 26 = .ok (.ireturn, 1) := dc_of dtX7_count_0_0_ok (i := 14) rfl
theorem dX7_count_27 : decode cX7_count 27 = .ok (.aload_n 0, 1) := dc_of dtX7_count_0_0_ok (i := 15) rfl
theorem dX7_count_28 : decode cX7_count 28 = .ok (.iconst 0, 1) := dc_of dtX7_count_0_0_ok (i := 16) rfl
theorem dX7_count_29 : decode cX7_count 29 = .ok (.iload_n 1, 1) := dc_of dtX7_count_0_0_ok (i := 17) rfl
theorem dX7_count_30 : decode cX7_count 30 = .ok (.iload_n 2, 1) := dc_of dtX7_count_0_0_ok (i := 18) rfl
theorem dX7_count_31 : decode cX7_count 31 = .ok (.iload_n 3, 1) := dc_of dtX7_count_0_0_ok (i := 19) rfl
theorem dX7_count_32 : decode cX7_count 32 = .ok (.iload 4, 2) := dc_of dtX7_count_0_0_ok (i := 20) rfl
theorem dX7_count_34 : decode cX7_count 34 = .ok (.iload 5, 2) := dc_of dtX7_count_0_0_ok (i := 21) rfl
theorem dX7_count_36 : decode cX7_count 36 = .ok (.invokevirtual 367, 3) := dc_of dtX7_count_0_0_ok (i := 22) rfl
theorem dX7_count_39 : decode cX7_count 39 = .ok (.istore 6, 2) := dc_of dtX7_count_0_0_ok (i := 23) rfl
theorem dX7_count_41 : decode cX7_count 41 = .ok (.iload 6, 2) := dc_of dtX7_count_0_0_ok (i := 24) rfl
theorem dX7_count_43 : decode cX7_count 43 = .ok (.ifCond .ge 7, 3) := dc_of dtX7_count_0_0_ok (i := 25) rfl
theorem dX7_count_46 : decode cX7_count 46 = .ok (.iconst 0, 1) := dc_of dtX7_count_0_0_ok (i := 26) rfl
theorem dX7_count_47 : decode cX7_count 47 = .ok (.goto 17, 3) := dc_of dtX7_count_0_0_ok (i := 27) rfl
theorem dX7_count_50 : decode cX7_count 50 = .ok (.aload_n 0, 1) := dc_of dtX7_count_0_0_ok (i := 28) rfl
theorem dX7_count_51 : decode cX7_count 51 = .ok (.getfield 24, 3) := dc_of dtX7_count_0_0_ok (i := 29) rfl
theorem dX7_count_54 : decode cX7_count 54 = .ok (.iconst 0, 1) := dc_of dtX7_count_0_0_ok (i := 30) rfl
theorem dX7_count_55 : decode cX7_count 55 = .ok (.iload_n 1, 1) := dc_of dtX7_count_0_0_ok (i := 31) rfl
def dtX7_count_56_1 : List (Nat × Instr × Nat) := [(56, .iload 6, 2), (58, .invokestatic 279, 3), (61, .iconst 4, 1), (62, .iadd, 1), (63, .iaload, 1), (64, .ireturn, 1)]
theorem dtX7_count_56_1_ok : dcAll cX7_count dtX7_count_56_1 = true := by decide +kernel
theorem dX7_count_56 : decode cX7_count 56 = .ok (.iload 6, 2) := dc_of dtX7_count_56_1_ok (i := 0) rfl
theorem dX7_count_58 : decode cX7_count 58 = .ok (.invokestatic 279, 3) := dc_of dtX7_count_56_1_ok (i := 1) rfl
theorem dX7_count_61 : decode cX7_count 61 = .ok (.iconst 4, 1) := dc_of dtX7_count_56_1_ok (i := 2) rfl
theorem dX7_count_62 : decode cX7_count 62 = .ok (.iadd, 1) := dc_of dtX7_count_56_1_ok (i := 3) rfl
theorem dX7_count_63 : decode cX7_count 63 = .ok (.iaload, 1) := dc_of dtX7_count_56_1_ok (i := 4) rfl
theorem dX7_count_64 : decode cX7_count 64 = .ok (.ireturn, 1) := dc_of dtX7_count_56_1_ok (i := 5) rfl
def dtX7_total_0_0 : List (Nat × Instr × Nat) := [(0, .aload_n 0, 1), (1, .aload_n 0, 1), (2, .iload_n 1, 1), (3, .invokevirtual 352, 3), (6, .ifCond .eq 7, 3), (9, .iconst 0, 1), (10, .goto 4, 3), (13, .iconst 1, 1), (14, .putfield 60, 3), (17, .iconst 0, 1), (18, .istore_n 2, 1), (19, .iconst 0, 1), (20, .istore_n 3, 1), (21, .aload_n 0, 1), (22, .getfield 60, 3), (25, .ifCond .ne 35, 3), (28, .iload_n 3, 1), (29, .aload_n 0, 1), (30, .iconst 0, 1), (31, .iload_n 1, 1), (32, .invokevirtual 295, 3), (35, .if_icmp .ge 25, 3), (38, .iload_n 2, 1), (39, .aload_n 0, 1), (40, .getfield 24, 3), (43, .iconst 0, 1), (44, .iload_n 1, 1), (45, .iload_n 3, 1), (46, .invokestatic 279, 3), (49, .iconst 4, 1), (50, .iadd, 1), (51, .iaload, 1)]
theorem dtX7_total_0_0_ok : dcAll cX7_total dtX7_total_0_0 = true := by decide +kernel
theorem dX7_total_0 : decode cX7_total 0 = .ok (.aload_n 0, 1) := dc_of dtX7_total_0_0_ok (i := 0) rfl
theorem dX7_total_1 : decode cX7_total 1 = .ok (.aload_n 0, 1) := dc_of dtX7_total_0_0_ok (i := 1) rfl
theorem dX7_total_2 : decode cX7_total 2 = .ok (.iload_n 1, 1) := dc_of dtX7_total_0_0_ok (i := 2) rfl
theorem dX7_total_3 : decode cX7_total 3 = .ok (.invokevirtual 352, 3) := dc_of dtX7_total_0_0_ok (i := 3) rfl
theorem dX7_total_6 : decode cX7_total 6 = .ok (.ifCond .eq 7, 3) := dc_of dtX7_total_0_0_ok (i := 4) rfl
theorem dX7_total_9 : decode cX7_total 9 = .ok (.iconst 0, 1) := dc_of dtX7_total_0_0_ok (i := 5) rfl
theorem dX7_total_10 : decode cX7_total 10 = .ok (.goto 4, 3) := dc_of dtX7_total_0_0_ok (i := 6) rfl
theorem dX7_total_13 : decode cX7_total 13 = .ok (.iconst 1, 1) := dc_of dtX7_total_0_0_ok (i := 7) rfl
theorem dX7_total_14 : decode cX7_total 14 = .ok (.putfield 60, 3) := dc_of dtX7_total_0_0_ok (i := 8) rfl
theorem dX7_total_17 : decode cX7_total 17 = .ok (.iconst 0, 1) := dc_of dtX7_total_0_0_ok (i := 9) rfl
theorem dX7_total_18 : decode cX7_total 18 = .ok (.istore_n 2, 1) := dc_of dtX7_total_0_0_ok (i := 10) rfl
theorem dX7_total_19 : decode cX7_total 19 = .ok (.iconst 0, 1) := dc_of dtX7_total_0_0_ok (i := 11) rfl
theorem dX7_total_20 : decode cX7_total 20 = .ok (.istore_n 3, 1) := dc_of dtX7_total_0_0_ok (i := 12) rfl
theorem dX7_total_21 : decode cX7_total 21 = .ok (.aload_n 0, 1) := dc_of dtX7_total_0_0_ok (i := 13) rfl
theorem dX7_total_22 : decode cX7_total 22 = .ok (.getfield 60, 3) := dc_of dtX7_total_0_0_ok (i := 14) rfl
theorem dX7_total_25 : decode cX7_total 25 = .ok (.ifCond .ne 35, 3) := dc_of dtX7_total_0_0_ok (i := 15) rfl
theorem dX7_total_28 : decode cX7_total 28 = .ok (.iload_n 3, 1) := dc_of dtX7_total_0_0_ok (i := 16) rfl
theorem dX7_total_29 : decode cX7_total 29 = .ok (.aload_n 0, 1) := dc_of dtX7_total_0_0_ok (i := 17) rfl
theorem dX7_total_30 : decode cX7_total 30 = .ok (.iconst 0, 1) := dc_of dtX7_total_0_0_ok (i := 18) rfl
theorem dX7_total_31 : decode cX7_total 31 = .ok (.iload_n 1, 1) := dc_of dtX7_total_0_0_ok (i := 19) rfl
theorem dX7_total_32 : decode cX7_total 32 = .ok (.invokevirtual 295, 3) := dc_of dtX7_total_0_0_ok (i := 20) rfl
theorem dX7_total_35 : decode cX7_total 35 = .ok (.if_icmp .ge 25, 3) := dc_of dtX7_total_0_0_ok (i := 21) rfl
theorem dX7_total_38 : decode cX7_total 38 = .ok (.iload_n 2, 1) := dc_of dtX7_total_0_0_ok (i := 22) rfl
theorem dX7_total_39 : decode cX7_total 39 = .ok (.aload_n 0, 1) := dc_of dtX7_total_0_0_ok (i := 23) rfl
theorem dX7_total_40 : decode cX7_total 40 = .ok (.getfield 24, 3) := dc_of dtX7_total_0_0_ok (i := 24) rfl
theorem dX7_total_43 : decode cX7_total 43 = .ok (.iconst 0, 1) := dc_of dtX7_total_0_0_ok (i := 25) rfl
theorem dX7_total_44 : decode cX7_total 44 = .ok (.iload_n 1, 1) := dc_of dtX7_total_0_0_ok (i := 26) rfl
theorem dX7_total_45 : decode cX7_total 45 = .ok (.iload_n 3, 1) := dc_of dtX7_total_0_0_ok (i := 27) rfl
theorem dX7_total_46 : decode cX7_total 46 = .ok (.invokestatic 279, 3) := dc_of dtX7_total_0_0_ok (i := 28) rfl
theorem dX7_total_49 : decode cX7_total 49 = .ok (.iconst 4, 1) := dc_of dtX7_total_0_0_ok (i := 29) rfl
theorem dX7_total_50 : decode cX7_total 50 = .ok (.iadd, 1) := dc_of dtX7_total_0_0_ok (i := 30) rfl
theorem dX7_total_51 : decode cX7_total 51 = .ok (.iaload, 1) := dc_of dtX7_total_0_0_ok (i := 31) rfl
def dtX7_total_52_1 : List (Nat × Instr × Nat) := [(52, .iadd, 1), (53, .istore_n 2, 1), (54, .iinc 3 1, 3), (57, .goto (-36), 3), (60, .iload_n 2, 1), (61, .ireturn, 1)]
theorem dtX7_total_52_1_ok : dcAll cX7_total dtX7_total_52_1 = true := by decide +kernel
theorem dX7_total_52 : decode cX7_total 52 = .ok (.iadd, 1) := dc_of dtX7_total_52_1_ok (i := 0) rfl
theorem dX7_total_53 : decode cX7_total 53 = .ok (.istore_n 2, 1) := dc_of dtX7_total_52_1_ok (i := 1) rfl
theorem dX7_total_54 : decode cX7_total 54 = .ok (.iinc 3 1, 3) := dc_of dtX7_total_52_1_ok (i := 2) rfl
theorem dX7_total_57 : decode cX7_total 57 = .ok (.goto (-36), 3) := dc_of dtX7_total_52_1_ok (i := 3) rfl
theorem dX7_total_60 : decode cX7_total 60 = .ok (.iload_n 2, 1) := dc_of dtX7_total_52_1_ok (i := 4) rfl
theorem dX7_total_61 : decode cX7_total 61 = .ok (.ireturn, 1) := dc_of dtX7_total_52_1_ok (i := 5) rfl
def dtX7_laysMoved_0_0 : List (Nat × Instr × Nat) := [(0, .iconst 0, 1), (1, .istore_n 2, 1), (2, .iconst 0, 1), (3, .istore_n 3, 1), (4, .iconst 0, 1), (5, .istore 4, 2), (7, .iload_n 3, 1), (8, .aload_n 0, 1), (9, .bipush 9, 2), (11, .iload_n 1, 1), (12, .invokevirtual 295, 3), (15, .if_icmp .lt 14, 3), (18, .iload 4, 2), (20, .aload_n 0, 1), (21, .iconst 0, 1), (22, .iload_n 1, 1), (23, .invokevirtual 295, 3), (26, .if_icmp .ge 196, 3), (29, .bipush 9, 2), (31, .iload_n 1, 1), (32, .iload_n 3, 1), (33, .invokestatic 279, 3), (36, .istore 5, 2), (38, .iconst 0, 1), (39, .iload_n 1, 1), (40, .iload 4, 2), (42, .invokestatic 279, 3), (45, .istore 6, 2), (47, .iload_n 3, 1), (48, .aload_n 0, 1), (49, .bipush 9, 2), (51, .iload_n 1, 1)]
theorem dtX7_laysMoved_0_0_ok : dcAll cX7_laysMoved dtX7_laysMoved_0_0 = true := by decide +kernel
theorem dX7_laysMoved_0 : decode cX7_laysMoved 0 = .ok (.iconst 0, 1) := dc_of dtX7_laysMoved_0_0_ok (i := 0) rfl
theorem dX7_laysMoved_1 : decode cX7_laysMoved 1 = .ok (.istore_n 2, 1) := dc_of dtX7_laysMoved_0_0_ok (i := 1) rfl
theorem dX7_laysMoved_2 : decode cX7_laysMoved 2 = .ok (.iconst 0, 1) := dc_of dtX7_laysMoved_0_0_ok (i := 2) rfl
theorem dX7_laysMoved_3 : decode cX7_laysMoved 3 = .ok (.istore_n 3, 1) := dc_of dtX7_laysMoved_0_0_ok (i := 3) rfl
theorem dX7_laysMoved_4 : decode cX7_laysMoved 4 = .ok (.iconst 0, 1) := dc_of dtX7_laysMoved_0_0_ok (i := 4) rfl
theorem dX7_laysMoved_5 : decode cX7_laysMoved 5 = .ok (.istore 4, 2) := dc_of dtX7_laysMoved_0_0_ok (i := 5) rfl
theorem dX7_laysMoved_7 : decode cX7_laysMoved 7 = .ok (.iload_n 3, 1) := dc_of dtX7_laysMoved_0_0_ok (i := 6) rfl
theorem dX7_laysMoved_8 : decode cX7_laysMoved 8 = .ok (.aload_n 0, 1) := dc_of dtX7_laysMoved_0_0_ok (i := 7) rfl
theorem dX7_laysMoved_9 : decode cX7_laysMoved 9 = .ok (.bipush 9, 2) := dc_of dtX7_laysMoved_0_0_ok (i := 8) rfl
theorem dX7_laysMoved_11 : decode cX7_laysMoved 11 = .ok (.iload_n 1, 1) := dc_of dtX7_laysMoved_0_0_ok (i := 9) rfl
theorem dX7_laysMoved_12 : decode cX7_laysMoved 12 = .ok (.invokevirtual 295, 3) := dc_of dtX7_laysMoved_0_0_ok (i := 10) rfl
theorem dX7_laysMoved_15 : decode cX7_laysMoved 15 = .ok (.if_icmp .lt 14, 3) := dc_of dtX7_laysMoved_0_0_ok (i := 11) rfl
theorem dX7_laysMoved_18 : decode cX7_laysMoved 18 = .ok (.iload 4, 2) := dc_of dtX7_laysMoved_0_0_ok (i := 12) rfl
theorem dX7_laysMoved_20 : decode cX7_laysMoved 20 = .ok (.aload_n 0, 1) := dc_of dtX7_laysMoved_0_0_ok (i := 13) rfl
theorem dX7_laysMoved_21 : decode cX7_laysMoved 21 = .ok (.iconst 0, 1) := dc_of dtX7_laysMoved_0_0_ok (i := 14) rfl
theorem dX7_laysMoved_22 : decode cX7_laysMoved 22 = .ok (.iload_n 1, 1) := dc_of dtX7_laysMoved_0_0_ok (i := 15) rfl
theorem dX7_laysMoved_23 : decode cX7_laysMoved 23 = .ok (.invokevirtual 295, 3) := dc_of dtX7_laysMoved_0_0_ok (i := 16) rfl
theorem dX7_laysMoved_26 : decode cX7_laysMoved 26 = .ok (.if_icmp .ge 196, 3) := dc_of dtX7_laysMoved_0_0_ok (i := 17) rfl
theorem dX7_laysMoved_29 : decode cX7_laysMoved 29 = .ok (.bipush 9, 2) := dc_of dtX7_laysMoved_0_0_ok (i := 18) rfl
theorem dX7_laysMoved_31 : decode cX7_laysMoved 31 = .ok (.iload_n 1, 1) := dc_of dtX7_laysMoved_0_0_ok (i := 19) rfl
theorem dX7_laysMoved_32 : decode cX7_laysMoved 32 = .ok (.iload_n 3, 1) := dc_of dtX7_laysMoved_0_0_ok (i := 20) rfl
theorem dX7_laysMoved_33 : decode cX7_laysMoved 33 = .ok (.invokestatic 279, 3) := dc_of dtX7_laysMoved_0_0_ok (i := 21) rfl
theorem dX7_laysMoved_36 : decode cX7_laysMoved 36 = .ok (.istore 5, 2) := dc_of dtX7_laysMoved_0_0_ok (i := 22) rfl
theorem dX7_laysMoved_38 : decode cX7_laysMoved 38 = .ok (.iconst 0, 1) := dc_of dtX7_laysMoved_0_0_ok (i := 23) rfl
theorem dX7_laysMoved_39 : decode cX7_laysMoved 39 = .ok (.iload_n 1, 1) := dc_of dtX7_laysMoved_0_0_ok (i := 24) rfl
theorem dX7_laysMoved_40 : decode cX7_laysMoved 40 = .ok (.iload 4, 2) := dc_of dtX7_laysMoved_0_0_ok (i := 25) rfl
theorem dX7_laysMoved_42 : decode cX7_laysMoved 42 = .ok (.invokestatic 279, 3) := dc_of dtX7_laysMoved_0_0_ok (i := 26) rfl
theorem dX7_laysMoved_45 : decode cX7_laysMoved 45 = .ok (.istore 6, 2) := dc_of dtX7_laysMoved_0_0_ok (i := 27) rfl
theorem dX7_laysMoved_47 : decode cX7_laysMoved 47 = .ok (.iload_n 3, 1) := dc_of dtX7_laysMoved_0_0_ok (i := 28) rfl
theorem dX7_laysMoved_48 : decode cX7_laysMoved 48 = .ok (.aload_n 0, 1) := dc_of dtX7_laysMoved_0_0_ok (i := 29) rfl
theorem dX7_laysMoved_49 : decode cX7_laysMoved 49 = .ok (.bipush 9, 2) := dc_of dtX7_laysMoved_0_0_ok (i := 30) rfl
theorem dX7_laysMoved_51 : decode cX7_laysMoved 51 = .ok (.iload_n 1, 1) := dc_of dtX7_laysMoved_0_0_ok (i := 31) rfl
def dtX7_laysMoved_52_1 : List (Nat × Instr × Nat) := [(52, .invokevirtual 295, 3), (55, .if_icmp .ne 7, 3), (58, .iconst 1, 1), (59, .goto 33, 3), (62, .iload 4, 2), (64, .aload_n 0, 1), (65, .iconst 0, 1), (66, .iload_n 1, 1), (67, .invokevirtual 295, 3), (70, .if_icmp .ne 7, 3), (73, .iconst (-1), 1), (74, .goto 18, 3), (77, .aload_n 0, 1), (78, .getfield 24, 3), (81, .iload 5, 2), (83, .aload_n 0, 1), (84, .getfield 24, 3), (87, .iload 6, 2), (89, .invokestatic 272, 3), (92, .istore 7, 2), (94, .iload 7, 2), (96, .ifCond .lt 15, 3), (99, .aload_n 0, 1), (100, .getfield 24, 3), (103, .iload 6, 2), (105, .iconst 4, 1), (106, .iadd, 1), (107, .iaload, 1), (108, .goto 4, 3), (111, .iconst 0, 1), (112, .iload 7, 2), (114, .ifCond .gt 15, 3)]
theorem dtX7_laysMoved_52_1_ok : dcAll cX7_laysMoved dtX7_laysMoved_52_1 = true := by decide +kernel
theorem dX7_laysMoved_52 : decode cX7_laysMoved 52 = .ok (.invokevirtual 295, 3) := dc_of dtX7_laysMoved_52_1_ok (i := 0) rfl
theorem dX7_laysMoved_55 : decode cX7_laysMoved 55 = .ok (.if_icmp .ne 7, 3) := dc_of dtX7_laysMoved_52_1_ok (i := 1) rfl
theorem dX7_laysMoved_58 : decode cX7_laysMoved 58 = .ok (.iconst 1, 1) := dc_of dtX7_laysMoved_52_1_ok (i := 2) rfl
theorem dX7_laysMoved_59 : decode cX7_laysMoved 59 = .ok (.goto 33, 3) := dc_of dtX7_laysMoved_52_1_ok (i := 3) rfl
theorem dX7_laysMoved_62 : decode cX7_laysMoved 62 = .ok (.iload 4, 2) := dc_of dtX7_laysMoved_52_1_ok (i := 4) rfl
theorem dX7_laysMoved_64 : decode cX7_laysMoved 64 = .ok (.aload_n 0, 1) := dc_of dtX7_laysMoved_52_1_ok (i := 5) rfl
theorem dX7_laysMoved_65 : decode cX7_laysMoved 65 = .ok (.iconst 0, 1) := dc_of dtX7_laysMoved_52_1_ok (i := 6) rfl
theorem dX7_laysMoved_66 : decode cX7_laysMoved 66 = .ok (.iload_n 1, 1) := dc_of dtX7_laysMoved_52_1_ok (i := 7) rfl
theorem dX7_laysMoved_67 : decode cX7_laysMoved 67 = .ok (.invokevirtual 295, 3) := dc_of dtX7_laysMoved_52_1_ok (i := 8) rfl
theorem dX7_laysMoved_70 : decode cX7_laysMoved 70 = .ok (.if_icmp .ne 7, 3) := dc_of dtX7_laysMoved_52_1_ok (i := 9) rfl
theorem dX7_laysMoved_73 : decode cX7_laysMoved 73 = .ok (.iconst (-1), 1) := dc_of dtX7_laysMoved_52_1_ok (i := 10) rfl
theorem dX7_laysMoved_74 : decode cX7_laysMoved 74 = .ok (.goto 18, 3) := dc_of dtX7_laysMoved_52_1_ok (i := 11) rfl
theorem dX7_laysMoved_77 : decode cX7_laysMoved 77 = .ok (.aload_n 0, 1) := dc_of dtX7_laysMoved_52_1_ok (i := 12) rfl
theorem dX7_laysMoved_78 : decode cX7_laysMoved 78 = .ok (.getfield 24, 3) := dc_of dtX7_laysMoved_52_1_ok (i := 13) rfl
theorem dX7_laysMoved_81 : decode cX7_laysMoved 81 = .ok (.iload 5, 2) := dc_of dtX7_laysMoved_52_1_ok (i := 14) rfl
theorem dX7_laysMoved_83 : decode cX7_laysMoved 83 = .ok (.aload_n 0, 1) := dc_of dtX7_laysMoved_52_1_ok (i := 15) rfl
theorem dX7_laysMoved_84 : decode cX7_laysMoved 84 = .ok (.getfield 24, 3) := dc_of dtX7_laysMoved_52_1_ok (i := 16) rfl
theorem dX7_laysMoved_87 : decode cX7_laysMoved 87 = .ok (.iload 6, 2) := dc_of dtX7_laysMoved_52_1_ok (i := 17) rfl
theorem dX7_laysMoved_89 : decode cX7_laysMoved 89 = .ok (.invokestatic 272, 3) := dc_of dtX7_laysMoved_52_1_ok (i := 18) rfl
theorem dX7_laysMoved_92 : decode cX7_laysMoved 92 = .ok (.istore 7, 2) := dc_of dtX7_laysMoved_52_1_ok (i := 19) rfl
theorem dX7_laysMoved_94 : decode cX7_laysMoved 94 = .ok (.iload 7, 2) := dc_of dtX7_laysMoved_52_1_ok (i := 20) rfl
theorem dX7_laysMoved_96 : decode cX7_laysMoved 96 = .ok (.ifCond .lt 15, 3) := dc_of dtX7_laysMoved_52_1_ok (i := 21) rfl
theorem dX7_laysMoved_99 : decode cX7_laysMoved 99 = .ok (.aload_n 0, 1) := dc_of dtX7_laysMoved_52_1_ok (i := 22) rfl
theorem dX7_laysMoved_100 : decode cX7_laysMoved 100 = .ok (.getfield 24, 3) := dc_of dtX7_laysMoved_52_1_ok (i := 23) rfl
theorem dX7_laysMoved_103 : decode cX7_laysMoved 103 = .ok (.iload 6, 2) := dc_of dtX7_laysMoved_52_1_ok (i := 24) rfl
theorem dX7_laysMoved_105 : decode cX7_laysMoved 105 = .ok (.iconst 4, 1) := dc_of dtX7_laysMoved_52_1_ok (i := 25) rfl
theorem dX7_laysMoved_106 : decode cX7_laysMoved 106 = .ok (.iadd, 1) := dc_of dtX7_laysMoved_52_1_ok (i := 26) rfl
theorem dX7_laysMoved_107 : decode cX7_laysMoved 107 = .ok (.iaload, 1) := dc_of dtX7_laysMoved_52_1_ok (i := 27) rfl
theorem dX7_laysMoved_108 : decode cX7_laysMoved 108 = .ok (.goto 4, 3) := dc_of dtX7_laysMoved_52_1_ok (i := 28) rfl
theorem dX7_laysMoved_111 : decode cX7_laysMoved 111 = .ok (.iconst 0, 1) := dc_of dtX7_laysMoved_52_1_ok (i := 29) rfl
theorem dX7_laysMoved_112 : decode cX7_laysMoved 112 = .ok (.iload 7, 2) := dc_of dtX7_laysMoved_52_1_ok (i := 30) rfl
theorem dX7_laysMoved_114 : decode cX7_laysMoved 114 = .ok (.ifCond .gt 15, 3) := dc_of dtX7_laysMoved_52_1_ok (i := 31) rfl
def dtX7_laysMoved_117_2 : List (Nat × Instr × Nat) := [(117, .aload_n 0, 1), (118, .getfield 24, 3), (121, .iload 5, 2), (123, .iconst 4, 1), (124, .iadd, 1), (125, .iaload, 1), (126, .goto 4, 3), (129, .iconst 0, 1), (130, .isub, 1), (131, .istore 8, 2), (133, .iload 7, 2), (135, .ifCond .gt 8, 3), (138, .iload 5, 2), (140, .goto 5, 3), (143, .iload 6, 2), (145, .istore 9, 2), (147, .iload 8, 2), (149, .ifCond .eq 54, 3), (152, .iconst 0, 1), (153, .istore 10, 2), (155, .iload 10, 2), (157, .iconst 4, 1), (158, .if_icmp .ge 30, 3), (161, .aload_n 0, 1), (162, .getfield 57, 3), (165, .iconst 5, 1), (166, .iload_n 2, 1), (167, .imul, 1), (168, .iload 10, 2), (170, .iadd, 1), (171, .aload_n 0, 1), (172, .getfield 24, 3)]
theorem dtX7_laysMoved_117_2_ok : dcAll cX7_laysMoved dtX7_laysMoved_117_2 = true := by decide +kernel
theorem dX7_laysMoved_117 : decode cX7_laysMoved 117 = .ok (.aload_n 0, 1) := dc_of dtX7_laysMoved_117_2_ok (i := 0) rfl
theorem dX7_laysMoved_118 : decode cX7_laysMoved 118 = .ok (.getfield 24, 3) := dc_of dtX7_laysMoved_117_2_ok (i := 1) rfl
theorem dX7_laysMoved_121 : decode cX7_laysMoved 121 = .ok (.iload 5, 2) := dc_of dtX7_laysMoved_117_2_ok (i := 2) rfl
theorem dX7_laysMoved_123 : decode cX7_laysMoved 123 = .ok (.iconst 4, 1) := dc_of dtX7_laysMoved_117_2_ok (i := 3) rfl
theorem dX7_laysMoved_124 : decode cX7_laysMoved 124 = .ok (.iadd, 1) := dc_of dtX7_laysMoved_117_2_ok (i := 4) rfl
theorem dX7_laysMoved_125 : decode cX7_laysMoved 125 = .ok (.iaload, 1) := dc_of dtX7_laysMoved_117_2_ok (i := 5) rfl
theorem dX7_laysMoved_126 : decode cX7_laysMoved 126 = .ok (.goto 4, 3) := dc_of dtX7_laysMoved_117_2_ok (i := 6) rfl
theorem dX7_laysMoved_129 : decode cX7_laysMoved 129 = .ok (.iconst 0, 1) := dc_of dtX7_laysMoved_117_2_ok (i := 7) rfl
theorem dX7_laysMoved_130 : decode cX7_laysMoved 130 = .ok (.isub, 1) := dc_of dtX7_laysMoved_117_2_ok (i := 8) rfl
theorem dX7_laysMoved_131 : decode cX7_laysMoved 131 = .ok (.istore 8, 2) := dc_of dtX7_laysMoved_117_2_ok (i := 9) rfl
theorem dX7_laysMoved_133 : decode cX7_laysMoved 133 = .ok (.iload 7, 2) := dc_of dtX7_laysMoved_117_2_ok (i := 10) rfl
theorem dX7_laysMoved_135 : decode cX7_laysMoved 135 = .ok (.ifCond .gt 8, 3) := dc_of dtX7_laysMoved_117_2_ok (i := 11) rfl
theorem dX7_laysMoved_138 : decode cX7_laysMoved 138 = .ok (.iload 5, 2) := dc_of dtX7_laysMoved_117_2_ok (i := 12) rfl
theorem dX7_laysMoved_140 : decode cX7_laysMoved 140 = .ok (.goto 5, 3) := dc_of dtX7_laysMoved_117_2_ok (i := 13) rfl
theorem dX7_laysMoved_143 : decode cX7_laysMoved 143 = .ok (.iload 6, 2) := dc_of dtX7_laysMoved_117_2_ok (i := 14) rfl
theorem dX7_laysMoved_145 : decode cX7_laysMoved 145 = .ok (.istore 9, 2) := dc_of dtX7_laysMoved_117_2_ok (i := 15) rfl
theorem dX7_laysMoved_147 : decode cX7_laysMoved 147 = .ok (.iload 8, 2) := dc_of dtX7_laysMoved_117_2_ok (i := 16) rfl
theorem dX7_laysMoved_149 : decode cX7_laysMoved 149 = .ok (.ifCond .eq 54, 3) := dc_of dtX7_laysMoved_117_2_ok (i := 17) rfl
theorem dX7_laysMoved_152 : decode cX7_laysMoved 152 = .ok (.iconst 0, 1) := dc_of dtX7_laysMoved_117_2_ok (i := 18) rfl
theorem dX7_laysMoved_153 : decode cX7_laysMoved 153 = .ok (.istore 10, 2) := dc_of dtX7_laysMoved_117_2_ok (i := 19) rfl
theorem dX7_laysMoved_155 : decode cX7_laysMoved 155 = .ok (.iload 10, 2) := dc_of dtX7_laysMoved_117_2_ok (i := 20) rfl
theorem dX7_laysMoved_157 : decode cX7_laysMoved 157 = .ok (.iconst 4, 1) := dc_of dtX7_laysMoved_117_2_ok (i := 21) rfl
theorem dX7_laysMoved_158 : decode cX7_laysMoved 158 = .ok (.if_icmp .ge 30, 3) := dc_of dtX7_laysMoved_117_2_ok (i := 22) rfl
theorem dX7_laysMoved_161 : decode cX7_laysMoved 161 = .ok (.aload_n 0, 1) := dc_of dtX7_laysMoved_117_2_ok (i := 23) rfl
theorem dX7_laysMoved_162 : decode cX7_laysMoved 162 = .ok (.getfield 57, 3) := dc_of dtX7_laysMoved_117_2_ok (i := 24) rfl
theorem dX7_laysMoved_165 : decode cX7_laysMoved 165 = .ok (.iconst 5, 1) := dc_of dtX7_laysMoved_117_2_ok (i := 25) rfl
theorem dX7_laysMoved_166 : decode cX7_laysMoved 166 = .ok (.iload_n 2, 1) := dc_of dtX7_laysMoved_117_2_ok (i := 26) rfl
theorem dX7_laysMoved_167 : decode cX7_laysMoved 167 = .ok (.imul, 1) := dc_of dtX7_laysMoved_117_2_ok (i := 27) rfl
theorem dX7_laysMoved_168 : decode cX7_laysMoved 168 = .ok (.iload 10, 2) := dc_of dtX7_laysMoved_117_2_ok (i := 28) rfl
theorem dX7_laysMoved_170 : decode cX7_laysMoved 170 = .ok (.iadd, 1) := dc_of dtX7_laysMoved_117_2_ok (i := 29) rfl
theorem dX7_laysMoved_171 : decode cX7_laysMoved 171 = .ok (.aload_n 0, 1) := dc_of dtX7_laysMoved_117_2_ok (i := 30) rfl
theorem dX7_laysMoved_172 : decode cX7_laysMoved 172 = .ok (.getfield 24, 3) := dc_of dtX7_laysMoved_117_2_ok (i := 31) rfl
def dtX7_laysMoved_175_3 : List (Nat × Instr × Nat) := [(175, .iload 9, 2), (177, .iload 10, 2), (179, .iadd, 1), (180, .iaload, 1), (181, .iastore, 1), (182, .iinc 10 1, 3), (185, .goto (-30), 3), (188, .aload_n 0, 1), (189, .getfield 57, 3), (192, .iconst 5, 1), (193, .iload_n 2, 1), (194, .imul, 1), (195, .iconst 4, 1), (196, .iadd, 1), (197, .iload 8, 2), (199, .iastore, 1), (200, .iinc 2 1, 3), (203, .iload 7, 2), (205, .ifCond .gt 6, 3), (208, .iinc 3 1, 3), (211, .iload 7, 2), (213, .ifCond .lt 6, 3), (216, .iinc 4 1, 3), (219, .goto (-212), 3), (222, .iload_n 2, 1), (223, .ireturn, 1)]
theorem dtX7_laysMoved_175_3_ok : dcAll cX7_laysMoved dtX7_laysMoved_175_3 = true := by decide +kernel
theorem dX7_laysMoved_175 : decode cX7_laysMoved 175 = .ok (.iload 9, 2) := dc_of dtX7_laysMoved_175_3_ok (i := 0) rfl
theorem dX7_laysMoved_177 : decode cX7_laysMoved 177 = .ok (.iload 10, 2) := dc_of dtX7_laysMoved_175_3_ok (i := 1) rfl
theorem dX7_laysMoved_179 : decode cX7_laysMoved 179 = .ok (.iadd, 1) := dc_of dtX7_laysMoved_175_3_ok (i := 2) rfl
theorem dX7_laysMoved_180 : decode cX7_laysMoved 180 = .ok (.iaload, 1) := dc_of dtX7_laysMoved_175_3_ok (i := 3) rfl
theorem dX7_laysMoved_181 : decode cX7_laysMoved 181 = .ok (.iastore, 1) := dc_of dtX7_laysMoved_175_3_ok (i := 4) rfl
theorem dX7_laysMoved_182 : decode cX7_laysMoved 182 = .ok (.iinc 10 1, 3) := dc_of dtX7_laysMoved_175_3_ok (i := 5) rfl
theorem dX7_laysMoved_185 : decode cX7_laysMoved 185 = .ok (.goto (-30), 3) := dc_of dtX7_laysMoved_175_3_ok (i := 6) rfl
theorem dX7_laysMoved_188 : decode cX7_laysMoved 188 = .ok (.aload_n 0, 1) := dc_of dtX7_laysMoved_175_3_ok (i := 7) rfl
theorem dX7_laysMoved_189 : decode cX7_laysMoved 189 = .ok (.getfield 57, 3) := dc_of dtX7_laysMoved_175_3_ok (i := 8) rfl
theorem dX7_laysMoved_192 : decode cX7_laysMoved 192 = .ok (.iconst 5, 1) := dc_of dtX7_laysMoved_175_3_ok (i := 9) rfl
theorem dX7_laysMoved_193 : decode cX7_laysMoved 193 = .ok (.iload_n 2, 1) := dc_of dtX7_laysMoved_175_3_ok (i := 10) rfl
theorem dX7_laysMoved_194 : decode cX7_laysMoved 194 = .ok (.imul, 1) := dc_of dtX7_laysMoved_175_3_ok (i := 11) rfl
theorem dX7_laysMoved_195 : decode cX7_laysMoved 195 = .ok (.iconst 4, 1) := dc_of dtX7_laysMoved_175_3_ok (i := 12) rfl
theorem dX7_laysMoved_196 : decode cX7_laysMoved 196 = .ok (.iadd, 1) := dc_of dtX7_laysMoved_175_3_ok (i := 13) rfl
theorem dX7_laysMoved_197 : decode cX7_laysMoved 197 = .ok (.iload 8, 2) := dc_of dtX7_laysMoved_175_3_ok (i := 14) rfl
theorem dX7_laysMoved_199 : decode cX7_laysMoved 199 = .ok (.iastore, 1) := dc_of dtX7_laysMoved_175_3_ok (i := 15) rfl
theorem dX7_laysMoved_200 : decode cX7_laysMoved 200 = .ok (.iinc 2 1, 3) := dc_of dtX7_laysMoved_175_3_ok (i := 16) rfl
theorem dX7_laysMoved_203 : decode cX7_laysMoved 203 = .ok (.iload 7, 2) := dc_of dtX7_laysMoved_175_3_ok (i := 17) rfl
theorem dX7_laysMoved_205 : decode cX7_laysMoved 205 = .ok (.ifCond .gt 6, 3) := dc_of dtX7_laysMoved_175_3_ok (i := 18) rfl
theorem dX7_laysMoved_208 : decode cX7_laysMoved 208 = .ok (.iinc 3 1, 3) := dc_of dtX7_laysMoved_175_3_ok (i := 19) rfl
theorem dX7_laysMoved_211 : decode cX7_laysMoved 211 = .ok (.iload 7, 2) := dc_of dtX7_laysMoved_175_3_ok (i := 20) rfl
theorem dX7_laysMoved_213 : decode cX7_laysMoved 213 = .ok (.ifCond .lt 6, 3) := dc_of dtX7_laysMoved_175_3_ok (i := 21) rfl
theorem dX7_laysMoved_216 : decode cX7_laysMoved 216 = .ok (.iinc 4 1, 3) := dc_of dtX7_laysMoved_175_3_ok (i := 22) rfl
theorem dX7_laysMoved_219 : decode cX7_laysMoved 219 = .ok (.goto (-212), 3) := dc_of dtX7_laysMoved_175_3_ok (i := 23) rfl
theorem dX7_laysMoved_222 : decode cX7_laysMoved 222 = .ok (.iload_n 2, 1) := dc_of dtX7_laysMoved_175_3_ok (i := 24) rfl
theorem dX7_laysMoved_223 : decode cX7_laysMoved 223 = .ok (.ireturn, 1) := dc_of dtX7_laysMoved_175_3_ok (i := 25) rfl
def dtX7_movedInViews_0_0 : List (Nat × Instr × Nat) := [(0, .iconst 0, 1), (1, .istore_n 1, 1), (2, .aload_n 0, 1), (3, .invokevirtual 343, 3), (6, .istore_n 2, 1), (7, .iload_n 2, 1), (8, .aload_n 0, 1), (9, .getfield 64, 3), (12, .if_icmp .ge 17, 3), (15, .iload_n 1, 1), (16, .aload_n 0, 1), (17, .iload_n 2, 1), (18, .invokevirtual 371, 3), (21, .iadd, 1), (22, .istore_n 1, 1), (23, .iinc 2 1, 3), (26, .goto (-19), 3), (29, .iload_n 1, 1), (30, .ireturn, 1)]
theorem dtX7_movedInViews_0_0_ok : dcAll cX7_movedInViews dtX7_movedInViews_0_0 = true := by decide +kernel
theorem dX7_movedInViews_0 : decode cX7_movedInViews 0 = .ok (.iconst 0, 1) := dc_of dtX7_movedInViews_0_0_ok (i := 0) rfl
theorem dX7_movedInViews_1 : decode cX7_movedInViews 1 = .ok (.istore_n 1, 1) := dc_of dtX7_movedInViews_0_0_ok (i := 1) rfl
theorem dX7_movedInViews_2 : decode cX7_movedInViews 2 = .ok (.aload_n 0, 1) := dc_of dtX7_movedInViews_0_0_ok (i := 2) rfl
theorem dX7_movedInViews_3 : decode cX7_movedInViews 3 = .ok (.invokevirtual 343, 3) := dc_of dtX7_movedInViews_0_0_ok (i := 3) rfl
theorem dX7_movedInViews_6 : decode cX7_movedInViews 6 = .ok (.istore_n 2, 1) := dc_of dtX7_movedInViews_0_0_ok (i := 4) rfl
theorem dX7_movedInViews_7 : decode cX7_movedInViews 7 = .ok (.iload_n 2, 1) := dc_of dtX7_movedInViews_0_0_ok (i := 5) rfl
theorem dX7_movedInViews_8 : decode cX7_movedInViews 8 = .ok (.aload_n 0, 1) := dc_of dtX7_movedInViews_0_0_ok (i := 6) rfl
theorem dX7_movedInViews_9 : decode cX7_movedInViews 9 = .ok (.getfield 64, 3) := dc_of dtX7_movedInViews_0_0_ok (i := 7) rfl
theorem dX7_movedInViews_12 : decode cX7_movedInViews 12 = .ok (.if_icmp .ge 17, 3) := dc_of dtX7_movedInViews_0_0_ok (i := 8) rfl
theorem dX7_movedInViews_15 : decode cX7_movedInViews 15 = .ok (.iload_n 1, 1) := dc_of dtX7_movedInViews_0_0_ok (i := 9) rfl
theorem dX7_movedInViews_16 : decode cX7_movedInViews 16 = .ok (.aload_n 0, 1) := dc_of dtX7_movedInViews_0_0_ok (i := 10) rfl
theorem dX7_movedInViews_17 : decode cX7_movedInViews 17 = .ok (.iload_n 2, 1) := dc_of dtX7_movedInViews_0_0_ok (i := 11) rfl
theorem dX7_movedInViews_18 : decode cX7_movedInViews 18 = .ok (.invokevirtual 371, 3) := dc_of dtX7_movedInViews_0_0_ok (i := 12) rfl
theorem dX7_movedInViews_21 : decode cX7_movedInViews 21 = .ok (.iadd, 1) := dc_of dtX7_movedInViews_0_0_ok (i := 13) rfl
theorem dX7_movedInViews_22 : decode cX7_movedInViews 22 = .ok (.istore_n 1, 1) := dc_of dtX7_movedInViews_0_0_ok (i := 14) rfl
theorem dX7_movedInViews_23 : decode cX7_movedInViews 23 = .ok (.iinc 2 1, 3) := dc_of dtX7_movedInViews_0_0_ok (i := 15) rfl
theorem dX7_movedInViews_26 : decode cX7_movedInViews 26 = .ok (.goto (-19), 3) := dc_of dtX7_movedInViews_0_0_ok (i := 16) rfl
theorem dX7_movedInViews_29 : decode cX7_movedInViews 29 = .ok (.iload_n 1, 1) := dc_of dtX7_movedInViews_0_0_ok (i := 17) rfl
theorem dX7_movedInViews_30 : decode cX7_movedInViews 30 = .ok (.ireturn, 1) := dc_of dtX7_movedInViews_0_0_ok (i := 18) rfl
def dtX7_cameTo_0_0 : List (Nat × Instr × Nat) := [(0, .aload_n 0, 1), (1, .aload_n 0, 1), (2, .iload_n 1, 1), (3, .invokevirtual 289, 3), (6, .invokevirtual 371, 3), (9, .istore_n 2, 1), (10, .aload_n 0, 1), (11, .iload_n 1, 1), (12, .invokevirtual 292, 3), (15, .ifCond .ge 7, 3), (18, .iload_n 2, 1), (19, .goto 14, 3), (22, .iload_n 2, 1), (23, .aload_n 0, 1), (24, .aload_n 0, 1), (25, .iload_n 1, 1), (26, .invokevirtual 292, 3), (29, .invokevirtual 371, 3), (32, .iadd, 1), (33, .ireturn, 1)]
theorem dtX7_cameTo_0_0_ok : dcAll cX7_cameTo dtX7_cameTo_0_0 = true := by decide +kernel
theorem dX7_cameTo_0 : decode cX7_cameTo 0 = .ok (.aload_n 0, 1) := dc_of dtX7_cameTo_0_0_ok (i := 0) rfl
theorem dX7_cameTo_1 : decode cX7_cameTo 1 = .ok (.aload_n 0, 1) := dc_of dtX7_cameTo_0_0_ok (i := 1) rfl
theorem dX7_cameTo_2 : decode cX7_cameTo 2 = .ok (.iload_n 1, 1) := dc_of dtX7_cameTo_0_0_ok (i := 2) rfl
theorem dX7_cameTo_3 : decode cX7_cameTo 3 = .ok (.invokevirtual 289, 3) := dc_of dtX7_cameTo_0_0_ok (i := 3) rfl
theorem dX7_cameTo_6 : decode cX7_cameTo 6 = .ok (.invokevirtual 371, 3) := dc_of dtX7_cameTo_0_0_ok (i := 4) rfl
theorem dX7_cameTo_9 : decode cX7_cameTo 9 = .ok (.istore_n 2, 1) := dc_of dtX7_cameTo_0_0_ok (i := 5) rfl
theorem dX7_cameTo_10 : decode cX7_cameTo 10 = .ok (.aload_n 0, 1) := dc_of dtX7_cameTo_0_0_ok (i := 6) rfl
theorem dX7_cameTo_11 : decode cX7_cameTo 11 = .ok (.iload_n 1, 1) := dc_of dtX7_cameTo_0_0_ok (i := 7) rfl
theorem dX7_cameTo_12 : decode cX7_cameTo 12 = .ok (.invokevirtual 292, 3) := dc_of dtX7_cameTo_0_0_ok (i := 8) rfl
theorem dX7_cameTo_15 : decode cX7_cameTo 15 = .ok (.ifCond .ge 7, 3) := dc_of dtX7_cameTo_0_0_ok (i := 9) rfl
theorem dX7_cameTo_18 : decode cX7_cameTo 18 = .ok (.iload_n 2, 1) := dc_of dtX7_cameTo_0_0_ok (i := 10) rfl
theorem dX7_cameTo_19 : decode cX7_cameTo 19 = .ok (.goto 14, 3) := dc_of dtX7_cameTo_0_0_ok (i := 11) rfl
theorem dX7_cameTo_22 : decode cX7_cameTo 22 = .ok (.iload_n 2, 1) := dc_of dtX7_cameTo_0_0_ok (i := 12) rfl
theorem dX7_cameTo_23 : decode cX7_cameTo 23 = .ok (.aload_n 0, 1) := dc_of dtX7_cameTo_0_0_ok (i := 13) rfl
theorem dX7_cameTo_24 : decode cX7_cameTo 24 = .ok (.aload_n 0, 1) := dc_of dtX7_cameTo_0_0_ok (i := 14) rfl
theorem dX7_cameTo_25 : decode cX7_cameTo 25 = .ok (.iload_n 1, 1) := dc_of dtX7_cameTo_0_0_ok (i := 15) rfl
theorem dX7_cameTo_26 : decode cX7_cameTo 26 = .ok (.invokevirtual 292, 3) := dc_of dtX7_cameTo_0_0_ok (i := 16) rfl
theorem dX7_cameTo_29 : decode cX7_cameTo 29 = .ok (.invokevirtual 371, 3) := dc_of dtX7_cameTo_0_0_ok (i := 17) rfl
theorem dX7_cameTo_32 : decode cX7_cameTo 32 = .ok (.iadd, 1) := dc_of dtX7_cameTo_0_0_ok (i := 18) rfl
theorem dX7_cameTo_33 : decode cX7_cameTo 33 = .ok (.ireturn, 1) := dc_of dtX7_cameTo_0_0_ok (i := 19) rfl
def dtX7_moved_0_0 : List (Nat × Instr × Nat) := [(0, .aload_n 0, 1), (1, .iconst 0, 1), (2, .putfield 60, 3), (5, .aload_n 0, 1), (6, .iload_n 1, 1), (7, .invokevirtual 352, 3), (10, .ifCond .eq 11, 3), (13, .aload_n 0, 1), (14, .iload_n 1, 1), (15, .invokevirtual 371, 3), (18, .goto 4, 3), (21, .iconst (-1), 1), (22, .ireturn, 1)]
theorem dtX7_moved_0_0_ok : dcAll cX7_moved dtX7_moved_0_0 = true := by decide +kernel
theorem dX7_moved_0 : decode cX7_moved 0 = .ok (.aload_n 0, 1) := dc_of dtX7_moved_0_0_ok (i := 0) rfl
theorem dX7_moved_1 : decode cX7_moved 1 = .ok (.iconst 0, 1) := dc_of dtX7_moved_0_0_ok (i := 1) rfl
theorem dX7_moved_2 : decode cX7_moved 2 = .ok (.putfield 60, 3) := dc_of dtX7_moved_0_0_ok (i := 2) rfl
theorem dX7_moved_5 : decode cX7_moved 5 = .ok (.aload_n 0, 1) := dc_of dtX7_moved_0_0_ok (i := 3) rfl
theorem dX7_moved_6 : decode cX7_moved 6 = .ok (.iload_n 1, 1) := dc_of dtX7_moved_0_0_ok (i := 4) rfl
theorem dX7_moved_7 : decode cX7_moved 7 = .ok (.invokevirtual 352, 3) := dc_of dtX7_moved_0_0_ok (i := 5) rfl
theorem dX7_moved_10 : decode cX7_moved 10 = .ok (.ifCond .eq 11, 3) := dc_of dtX7_moved_0_0_ok (i := 6) rfl
theorem dX7_moved_13 : decode cX7_moved 13 = .ok (.aload_n 0, 1) := dc_of dtX7_moved_0_0_ok (i := 7) rfl
theorem dX7_moved_14 : decode cX7_moved 14 = .ok (.iload_n 1, 1) := dc_of dtX7_moved_0_0_ok (i := 8) rfl
theorem dX7_moved_15 : decode cX7_moved 15 = .ok (.invokevirtual 371, 3) := dc_of dtX7_moved_0_0_ok (i := 9) rfl
theorem dX7_moved_18 : decode cX7_moved 18 = .ok (.goto 4, 3) := dc_of dtX7_moved_0_0_ok (i := 10) rfl
theorem dX7_moved_21 : decode cX7_moved 21 = .ok (.iconst (-1), 1) := dc_of dtX7_moved_0_0_ok (i := 11) rfl
theorem dX7_moved_22 : decode cX7_moved 22 = .ok (.ireturn, 1) := dc_of dtX7_moved_0_0_ok (i := 12) rfl
def dtX7_movedAt_0_0 : List (Nat × Instr × Nat) := [(0, .aload_n 0, 1), (1, .aload_n 0, 1), (2, .iload_n 1, 1), (3, .iload_n 3, 1), (4, .invokevirtual 364, 3), (7, .ifCond .eq 22, 3), (10, .iload_n 2, 1), (11, .iconst 0, 1), (12, .aload_n 0, 1), (13, .iload_n 1, 1), (14, .invokevirtual 371, 3), (17, .iconst 1, 1), (18, .isub, 1), (19, .invokestatic 67, 3), (22, .ifCond .eq 7, 3), (25, .iconst 0, 1), (26, .goto 4, 3), (29, .iconst 1, 1), (30, .putfield 60, 3), (33, .aload_n 0, 1), (34, .getfield 60, 3), (37, .ifCond .ne 16, 3), (40, .aload_n 0, 1), (41, .getfield 57, 3), (44, .iconst 5, 1), (45, .iload_n 2, 1), (46, .imul, 1), (47, .iload_n 3, 1), (48, .iadd, 1), (49, .iaload, 1), (50, .goto 4, 3), (53, .iconst 0, 1)]
theorem dtX7_movedAt_0_0_ok : dcAll cX7_movedAt dtX7_movedAt_0_0 = true := by decide +kernel
theorem dX7_movedAt_0 : decode cX7_movedAt 0 = .ok (.aload_n 0, 1) := dc_of dtX7_movedAt_0_0_ok (i := 0) rfl
theorem dX7_movedAt_1 : decode cX7_movedAt 1 = .ok (.aload_n 0, 1) := dc_of dtX7_movedAt_0_0_ok (i := 1) rfl
theorem dX7_movedAt_2 : decode cX7_movedAt 2 = .ok (.iload_n 1, 1) := dc_of dtX7_movedAt_0_0_ok (i := 2) rfl
theorem dX7_movedAt_3 : decode cX7_movedAt 3 = .ok (.iload_n 3, 1) := dc_of dtX7_movedAt_0_0_ok (i := 3) rfl
theorem dX7_movedAt_4 : decode cX7_movedAt 4 = .ok (.invokevirtual 364, 3) := dc_of dtX7_movedAt_0_0_ok (i := 4) rfl
theorem dX7_movedAt_7 : decode cX7_movedAt 7 = .ok (.ifCond .eq 22, 3) := dc_of dtX7_movedAt_0_0_ok (i := 5) rfl
theorem dX7_movedAt_10 : decode cX7_movedAt 10 = .ok (.iload_n 2, 1) := dc_of dtX7_movedAt_0_0_ok (i := 6) rfl
theorem dX7_movedAt_11 : decode cX7_movedAt 11 = .ok (.iconst 0, 1) := dc_of dtX7_movedAt_0_0_ok (i := 7) rfl
theorem dX7_movedAt_12 : decode cX7_movedAt 12 = .ok (.aload_n 0, 1) := dc_of dtX7_movedAt_0_0_ok (i := 8) rfl
theorem dX7_movedAt_13 : decode cX7_movedAt 13 = .ok (.iload_n 1, 1) := dc_of dtX7_movedAt_0_0_ok (i := 9) rfl
theorem dX7_movedAt_14 : decode cX7_movedAt 14 = .ok (.invokevirtual 371, 3) := dc_of dtX7_movedAt_0_0_ok (i := 10) rfl
theorem dX7_movedAt_17 : decode cX7_movedAt 17 = .ok (.iconst 1, 1) := dc_of dtX7_movedAt_0_0_ok (i := 11) rfl
theorem dX7_movedAt_18 : decode cX7_movedAt 18 = .ok (.isub, 1) := dc_of dtX7_movedAt_0_0_ok (i := 12) rfl
theorem dX7_movedAt_19 : decode cX7_movedAt 19 = .ok (.invokestatic 67, 3) := dc_of dtX7_movedAt_0_0_ok (i := 13) rfl
theorem dX7_movedAt_22 : decode cX7_movedAt 22 = .ok (.ifCond .eq 7, 3) := dc_of dtX7_movedAt_0_0_ok (i := 14) rfl
theorem dX7_movedAt_25 : decode cX7_movedAt 25 = .ok (.iconst 0, 1) := dc_of dtX7_movedAt_0_0_ok (i := 15) rfl
theorem dX7_movedAt_26 : decode cX7_movedAt 26 = .ok (.goto 4, 3) := dc_of dtX7_movedAt_0_0_ok (i := 16) rfl
theorem dX7_movedAt_29 : decode cX7_movedAt 29 = .ok (.iconst 1, 1) := dc_of dtX7_movedAt_0_0_ok (i := 17) rfl
theorem dX7_movedAt_30 : decode cX7_movedAt 30 = .ok (.putfield 60, 3) := dc_of dtX7_movedAt_0_0_ok (i := 18) rfl
theorem dX7_movedAt_33 : decode cX7_movedAt 33 = .ok (.aload_n 0, 1) := dc_of dtX7_movedAt_0_0_ok (i := 19) rfl
theorem dX7_movedAt_34 : decode cX7_movedAt 34 = .ok (.getfield 60, 3) := dc_of dtX7_movedAt_0_0_ok (i := 20) rfl
theorem dX7_movedAt_37 : decode cX7_movedAt 37 = .ok (.ifCond .ne 16, 3) := dc_of dtX7_movedAt_0_0_ok (i := 21) rfl
theorem dX7_movedAt_40 : decode cX7_movedAt 40 = .ok (.aload_n 0, 1) := dc_of dtX7_movedAt_0_0_ok (i := 22) rfl
theorem dX7_movedAt_41 : decode cX7_movedAt 41 = .ok (.getfield 57, 3) := dc_of dtX7_movedAt_0_0_ok (i := 23) rfl
theorem dX7_movedAt_44 : decode cX7_movedAt 44 = .ok (.iconst 5, 1) := dc_of dtX7_movedAt_0_0_ok (i := 24) rfl
theorem dX7_movedAt_45 : decode cX7_movedAt 45 = .ok (.iload_n 2, 1) := dc_of dtX7_movedAt_0_0_ok (i := 25) rfl
theorem dX7_movedAt_46 : decode cX7_movedAt 46 = .ok (.imul, 1) := dc_of dtX7_movedAt_0_0_ok (i := 26) rfl
theorem dX7_movedAt_47 : decode cX7_movedAt 47 = .ok (.iload_n 3, 1) := dc_of dtX7_movedAt_0_0_ok (i := 27) rfl
theorem dX7_movedAt_48 : decode cX7_movedAt 48 = .ok (.iadd, 1) := dc_of dtX7_movedAt_0_0_ok (i := 28) rfl
theorem dX7_movedAt_49 : decode cX7_movedAt 49 = .ok (.iaload, 1) := dc_of dtX7_movedAt_0_0_ok (i := 29) rfl
theorem dX7_movedAt_50 : decode cX7_movedAt 50 = .ok (.goto 4, 3) := dc_of dtX7_movedAt_0_0_ok (i := 30) rfl
theorem dX7_movedAt_53 : decode cX7_movedAt 53 = .ok (.iconst 0, 1) := dc_of dtX7_movedAt_0_0_ok (i := 31) rfl
def dtX7_movedAt_54_1 : List (Nat × Instr × Nat) := [(54, .ireturn, 1)]
theorem dtX7_movedAt_54_1_ok : dcAll cX7_movedAt dtX7_movedAt_54_1 = true := by decide +kernel
theorem dX7_movedAt_54 : decode cX7_movedAt 54 = .ok (.ireturn, 1) := dc_of dtX7_movedAt_54_1_ok (i := 0) rfl
def dtX7_came_0_0 : List (Nat × Instr × Nat) := [(0, .aload_n 0, 1), (1, .iconst 0, 1), (2, .putfield 60, 3), (5, .aload_n 0, 1), (6, .iload_n 1, 1), (7, .invokevirtual 352, 3), (10, .ifCond .eq 19, 3), (13, .aload_n 0, 1), (14, .iload_n 1, 1), (15, .invokevirtual 322, 3), (18, .ifCond .eq 11, 3), (21, .aload_n 0, 1), (22, .iload_n 1, 1), (23, .invokevirtual 374, 3), (26, .goto 4, 3), (29, .iconst (-1), 1), (30, .ireturn, 1)]
theorem dtX7_came_0_0_ok : dcAll cX7_came dtX7_came_0_0 = true := by decide +kernel
theorem dX7_came_0 : decode cX7_came 0 = .ok (.aload_n 0, 1) := dc_of dtX7_came_0_0_ok (i := 0) rfl
theorem dX7_came_1 : decode cX7_came 1 = .ok (.iconst 0, 1) := dc_of dtX7_came_0_0_ok (i := 1) rfl
theorem dX7_came_2 : decode cX7_came 2 = .ok (.putfield 60, 3) := dc_of dtX7_came_0_0_ok (i := 2) rfl
theorem dX7_came_5 : decode cX7_came 5 = .ok (.aload_n 0, 1) := dc_of dtX7_came_0_0_ok (i := 3) rfl
theorem dX7_came_6 : decode cX7_came 6 = .ok (.iload_n 1, 1) := dc_of dtX7_came_0_0_ok (i := 4) rfl
theorem dX7_came_7 : decode cX7_came 7 = .ok (.invokevirtual 352, 3) := dc_of dtX7_came_0_0_ok (i := 5) rfl
theorem dX7_came_10 : decode cX7_came 10 = .ok (.ifCond .eq 19, 3) := dc_of dtX7_came_0_0_ok (i := 6) rfl
theorem dX7_came_13 : decode cX7_came 13 = .ok (.aload_n 0, 1) := dc_of dtX7_came_0_0_ok (i := 7) rfl
theorem dX7_came_14 : decode cX7_came 14 = .ok (.iload_n 1, 1) := dc_of dtX7_came_0_0_ok (i := 8) rfl
theorem dX7_came_15 : decode cX7_came 15 = .ok (.invokevirtual 322, 3) := dc_of dtX7_came_0_0_ok (i := 9) rfl
theorem dX7_came_18 : decode cX7_came 18 = .ok (.ifCond .eq 11, 3) := dc_of dtX7_came_0_0_ok (i := 10) rfl
theorem dX7_came_21 : decode cX7_came 21 = .ok (.aload_n 0, 1) := dc_of dtX7_came_0_0_ok (i := 11) rfl
theorem dX7_came_22 : decode cX7_came 22 = .ok (.iload_n 1, 1) := dc_of dtX7_came_0_0_ok (i := 12) rfl
theorem dX7_came_23 : decode cX7_came 23 = .ok (.invokevirtual 374, 3) := dc_of dtX7_came_0_0_ok (i := 13) rfl
theorem dX7_came_26 : decode cX7_came 26 = .ok (.goto 4, 3) := dc_of dtX7_came_0_0_ok (i := 14) rfl
theorem dX7_came_29 : decode cX7_came 29 = .ok (.iconst (-1), 1) := dc_of dtX7_came_0_0_ok (i := 15) rfl
theorem dX7_came_30 : decode cX7_came 30 = .ok (.ireturn, 1) := dc_of dtX7_came_0_0_ok (i := 16) rfl
def dtX7_round_0_0 : List (Nat × Instr × Nat) := [(0, .aload_n 0, 1), (1, .iconst 0, 1), (2, .putfield 60, 3), (5, .aload_n 0, 1), (6, .iload_n 1, 1), (7, .invokevirtual 352, 3), (10, .ifCond .eq 13, 3), (13, .aload_n 0, 1), (14, .iload_n 1, 1), (15, .invokevirtual 322, 3), (18, .bipush 8, 2), (20, .if_icmp .eq 5, 3), (23, .iconst (-1), 1), (24, .ireturn, 1), (25, .aload_n 0, 1), (26, .iconst 0, 1), (27, .iload_n 1, 1), (28, .iload_n 2, 1), (29, .iload_n 3, 1), (30, .iload 4, 2), (32, .iload 5, 2), (34, .invokevirtual 367, 3), (37, .istore 6, 2), (39, .iload 6, 2), (41, .ifCond .ge 7, 3), (44, .iconst (-1), 1), (45, .goto 17, 3), (48, .aload_n 0, 1), (49, .getfield 24, 3), (52, .iconst 0, 1), (53, .iload_n 1, 1), (54, .iload 6, 2)]
theorem dtX7_round_0_0_ok : dcAll cX7_round dtX7_round_0_0 = true := by decide +kernel
theorem dX7_round_0 : decode cX7_round 0 = .ok (.aload_n 0, 1) := dc_of dtX7_round_0_0_ok (i := 0) rfl
theorem dX7_round_1 : decode cX7_round 1 = .ok (.iconst 0, 1) := dc_of dtX7_round_0_0_ok (i := 1) rfl
theorem dX7_round_2 : decode cX7_round 2 = .ok (.putfield 60, 3) := dc_of dtX7_round_0_0_ok (i := 2) rfl
theorem dX7_round_5 : decode cX7_round 5 = .ok (.aload_n 0, 1) := dc_of dtX7_round_0_0_ok (i := 3) rfl
theorem dX7_round_6 : decode cX7_round 6 = .ok (.iload_n 1, 1) := dc_of dtX7_round_0_0_ok (i := 4) rfl
theorem dX7_round_7 : decode cX7_round 7 = .ok (.invokevirtual 352, 3) := dc_of dtX7_round_0_0_ok (i := 5) rfl
theorem dX7_round_10 : decode cX7_round 10 = .ok (.ifCond .eq 13, 3) := dc_of dtX7_round_0_0_ok (i := 6) rfl
theorem dX7_round_13 : decode cX7_round 13 = .ok (.aload_n 0, 1) := dc_of dtX7_round_0_0_ok (i := 7) rfl
theorem dX7_round_14 : decode cX7_round 14 = .ok (.iload_n 1, 1) := dc_of dtX7_round_0_0_ok (i := 8) rfl
theorem dX7_round_15 : decode cX7_round 15 = .ok (.invokevirtual 322, 3) := dc_of dtX7_round_0_0_ok (i := 9) rfl
theorem dX7_round_18 : decode cX7_round 18 = .ok (.bipush 8, 2) := dc_of dtX7_round_0_0_ok (i := 10) rfl
theorem dX7_round_20 : decode cX7_round 20 = .ok (.if_icmp .eq 5, 3) := dc_of dtX7_round_0_0_ok (i := 11) rfl
theorem dX7_round_23 : decode cX7_round 23 = .ok (.iconst (-1), 1) := dc_of dtX7_round_0_0_ok (i := 12) rfl
theorem dX7_round_24 : decode cX7_round 24 = .ok (.ireturn, 1) := dc_of dtX7_round_0_0_ok (i := 13) rfl
theorem dX7_round_25 : decode cX7_round 25 = .ok (.aload_n 0, 1) := dc_of dtX7_round_0_0_ok (i := 14) rfl
theorem dX7_round_26 : decode cX7_round 26 = .ok (.iconst 0, 1) := dc_of dtX7_round_0_0_ok (i := 15) rfl
theorem dX7_round_27 : decode cX7_round 27 = .ok (.iload_n 1, 1) := dc_of dtX7_round_0_0_ok (i := 16) rfl
theorem dX7_round_28 : decode cX7_round 28 = .ok (.iload_n 2, 1) := dc_of dtX7_round_0_0_ok (i := 17) rfl
theorem dX7_round_29 : decode cX7_round 29 = .ok (.iload_n 3, 1) := dc_of dtX7_round_0_0_ok (i := 18) rfl
theorem dX7_round_30 : decode cX7_round 30 = .ok (.iload 4, 2) := dc_of dtX7_round_0_0_ok (i := 19) rfl
theorem dX7_round_32 : decode cX7_round 32 = .ok (.iload 5, 2) := dc_of dtX7_round_0_0_ok (i := 20) rfl
theorem dX7_round_34 : decode cX7_round 34 = .ok (.invokevirtual 367, 3) := dc_of dtX7_round_0_0_ok (i := 21) rfl
theorem dX7_round_37 : decode cX7_round 37 = .ok (.istore 6, 2) := dc_of dtX7_round_0_0_ok (i := 22) rfl
theorem dX7_round_39 : decode cX7_round 39 = .ok (.iload 6, 2) := dc_of dtX7_round_0_0_ok (i := 23) rfl
theorem dX7_round_41 : decode cX7_round 41 = .ok (.ifCond .ge 7, 3) := dc_of dtX7_round_0_0_ok (i := 24) rfl
theorem dX7_round_44 : decode cX7_round 44 = .ok (.iconst (-1), 1) := dc_of dtX7_round_0_0_ok (i := 25) rfl
theorem dX7_round_45 : decode cX7_round 45 = .ok (.goto 17, 3) := dc_of dtX7_round_0_0_ok (i := 26) rfl
theorem dX7_round_48 : decode cX7_round 48 = .ok (.aload_n 0, 1) := dc_of dtX7_round_0_0_ok (i := 27) rfl
theorem dX7_round_49 : decode cX7_round 49 = .ok (.getfield 24, 3) := dc_of dtX7_round_0_0_ok (i := 28) rfl
theorem dX7_round_52 : decode cX7_round 52 = .ok (.iconst 0, 1) := dc_of dtX7_round_0_0_ok (i := 29) rfl
theorem dX7_round_53 : decode cX7_round 53 = .ok (.iload_n 1, 1) := dc_of dtX7_round_0_0_ok (i := 30) rfl
theorem dX7_round_54 : decode cX7_round 54 = .ok (.iload 6, 2) := dc_of dtX7_round_0_0_ok (i := 31) rfl
def dtX7_round_56_1 : List (Nat × Instr × Nat) := [(56, .invokestatic 279, 3), (59, .iconst 5, 1), (60, .iadd, 1), (61, .iaload, 1), (62, .ireturn, 1)]
theorem dtX7_round_56_1_ok : dcAll cX7_round dtX7_round_56_1 = true := by decide +kernel
theorem dX7_round_56 : decode cX7_round 56 = .ok (.invokestatic 279, 3) := dc_of dtX7_round_56_1_ok (i := 0) rfl
theorem dX7_round_59 : decode cX7_round 59 = .ok (.iconst 5, 1) := dc_of dtX7_round_56_1_ok (i := 1) rfl
theorem dX7_round_60 : decode cX7_round 60 = .ok (.iadd, 1) := dc_of dtX7_round_56_1_ok (i := 2) rfl
theorem dX7_round_61 : decode cX7_round 61 = .ok (.iaload, 1) := dc_of dtX7_round_56_1_ok (i := 3) rfl
theorem dX7_round_62 : decode cX7_round 62 = .ok (.ireturn, 1) := dc_of dtX7_round_56_1_ok (i := 4) rfl
def dtX7_rounds_0_0 : List (Nat × Instr × Nat) := [(0, .aload_n 0, 1), (1, .iconst 0, 1), (2, .putfield 60, 3), (5, .aload_n 0, 1), (6, .iload_n 1, 1), (7, .invokevirtual 352, 3), (10, .ifCond .eq 24, 3), (13, .aload_n 0, 1), (14, .iload_n 1, 1), (15, .invokevirtual 322, 3), (18, .bipush 8, 2), (20, .if_icmp .ne 14, 3), (23, .aload_n 0, 1), (24, .getfield 51, 3), (27, .iconst 0, 1), (28, .iload_n 1, 1), (29, .iadd, 1), (30, .iaload, 1), (31, .goto 4, 3), (34, .iconst (-1), 1), (35, .ireturn, 1)]
theorem dtX7_rounds_0_0_ok : dcAll cX7_rounds dtX7_rounds_0_0 = true := by decide +kernel
theorem dX7_rounds_0 : decode cX7_rounds 0 = .ok (.aload_n 0, 1) := dc_of dtX7_rounds_0_0_ok (i := 0) rfl
theorem dX7_rounds_1 : decode cX7_rounds 1 = .ok (.iconst 0, 1) := dc_of dtX7_rounds_0_0_ok (i := 1) rfl
theorem dX7_rounds_2 : decode cX7_rounds 2 = .ok (.putfield 60, 3) := dc_of dtX7_rounds_0_0_ok (i := 2) rfl
theorem dX7_rounds_5 : decode cX7_rounds 5 = .ok (.aload_n 0, 1) := dc_of dtX7_rounds_0_0_ok (i := 3) rfl
theorem dX7_rounds_6 : decode cX7_rounds 6 = .ok (.iload_n 1, 1) := dc_of dtX7_rounds_0_0_ok (i := 4) rfl
theorem dX7_rounds_7 : decode cX7_rounds 7 = .ok (.invokevirtual 352, 3) := dc_of dtX7_rounds_0_0_ok (i := 5) rfl
theorem dX7_rounds_10 : decode cX7_rounds 10 = .ok (.ifCond .eq 24, 3) := dc_of dtX7_rounds_0_0_ok (i := 6) rfl
theorem dX7_rounds_13 : decode cX7_rounds 13 = .ok (.aload_n 0, 1) := dc_of dtX7_rounds_0_0_ok (i := 7) rfl
theorem dX7_rounds_14 : decode cX7_rounds 14 = .ok (.iload_n 1, 1) := dc_of dtX7_rounds_0_0_ok (i := 8) rfl
theorem dX7_rounds_15 : decode cX7_rounds 15 = .ok (.invokevirtual 322, 3) := dc_of dtX7_rounds_0_0_ok (i := 9) rfl
theorem dX7_rounds_18 : decode cX7_rounds 18 = .ok (.bipush 8, 2) := dc_of dtX7_rounds_0_0_ok (i := 10) rfl
theorem dX7_rounds_20 : decode cX7_rounds 20 = .ok (.if_icmp .ne 14, 3) := dc_of dtX7_rounds_0_0_ok (i := 11) rfl
theorem dX7_rounds_23 : decode cX7_rounds 23 = .ok (.aload_n 0, 1) := dc_of dtX7_rounds_0_0_ok (i := 12) rfl
theorem dX7_rounds_24 : decode cX7_rounds 24 = .ok (.getfield 51, 3) := dc_of dtX7_rounds_0_0_ok (i := 13) rfl
theorem dX7_rounds_27 : decode cX7_rounds 27 = .ok (.iconst 0, 1) := dc_of dtX7_rounds_0_0_ok (i := 14) rfl
theorem dX7_rounds_28 : decode cX7_rounds 28 = .ok (.iload_n 1, 1) := dc_of dtX7_rounds_0_0_ok (i := 15) rfl
theorem dX7_rounds_29 : decode cX7_rounds 29 = .ok (.iadd, 1) := dc_of dtX7_rounds_0_0_ok (i := 16) rfl
theorem dX7_rounds_30 : decode cX7_rounds 30 = .ok (.iaload, 1) := dc_of dtX7_rounds_0_0_ok (i := 17) rfl
theorem dX7_rounds_31 : decode cX7_rounds 31 = .ok (.goto 4, 3) := dc_of dtX7_rounds_0_0_ok (i := 18) rfl
theorem dX7_rounds_34 : decode cX7_rounds 34 = .ok (.iconst (-1), 1) := dc_of dtX7_rounds_0_0_ok (i := 19) rfl
theorem dX7_rounds_35 : decode cX7_rounds 35 = .ok (.ireturn, 1) := dc_of dtX7_rounds_0_0_ok (i := 20) rfl
def dtX7_differs_0_0 : List (Nat × Instr × Nat) := [(0, .aload_n 0, 1), (1, .iconst 0, 1), (2, .putfield 60, 3), (5, .aload_n 0, 1), (6, .iload_n 1, 1), (7, .invokevirtual 352, 3), (10, .ifCond .ne 5, 3), (13, .iconst (-1), 1), (14, .ireturn, 1), (15, .aload_n 0, 1), (16, .iconst 0, 1), (17, .bipush 10, 2), (19, .invokevirtual 340, 3), (22, .aload_n 0, 1), (23, .invokevirtual 343, 3), (26, .istore_n 2, 1), (27, .iload_n 2, 1), (28, .iload_n 1, 1), (29, .if_icmp .gt 26, 3), (32, .aload_n 0, 1), (33, .bipush 10, 2), (35, .iload_n 2, 1), (36, .invokevirtual 349, 3), (39, .ifCond .ge 10, 3), (42, .aload_n 0, 1), (43, .iconst 0, 1), (44, .iload_n 1, 1), (45, .invokevirtual 295, 3), (48, .ireturn, 1), (49, .iinc 2 1, 3), (52, .goto (-25), 3), (55, .aload_n 0, 1)]
theorem dtX7_differs_0_0_ok : dcAll cX7_differs dtX7_differs_0_0 = true := by decide +kernel
theorem dX7_differs_0 : decode cX7_differs 0 = .ok (.aload_n 0, 1) := dc_of dtX7_differs_0_0_ok (i := 0) rfl
theorem dX7_differs_1 : decode cX7_differs 1 = .ok (.iconst 0, 1) := dc_of dtX7_differs_0_0_ok (i := 1) rfl
theorem dX7_differs_2 : decode cX7_differs 2 = .ok (.putfield 60, 3) := dc_of dtX7_differs_0_0_ok (i := 2) rfl
theorem dX7_differs_5 : decode cX7_differs 5 = .ok (.aload_n 0, 1) := dc_of dtX7_differs_0_0_ok (i := 3) rfl
theorem dX7_differs_6 : decode cX7_differs 6 = .ok (.iload_n 1, 1) := dc_of dtX7_differs_0_0_ok (i := 4) rfl
theorem dX7_differs_7 : decode cX7_differs 7 = .ok (.invokevirtual 352, 3) := dc_of dtX7_differs_0_0_ok (i := 5) rfl
theorem dX7_differs_10 : decode cX7_differs 10 = .ok (.ifCond .ne 5, 3) := dc_of dtX7_differs_0_0_ok (i := 6) rfl
theorem dX7_differs_13 : decode cX7_differs 13 = .ok (.iconst (-1), 1) := dc_of dtX7_differs_0_0_ok (i := 7) rfl
theorem dX7_differs_14 : decode cX7_differs 14 = .ok (.ireturn, 1) := dc_of dtX7_differs_0_0_ok (i := 8) rfl
theorem dX7_differs_15 : decode cX7_differs 15 = .ok (.aload_n 0, 1) := dc_of dtX7_differs_0_0_ok (i := 9) rfl
theorem dX7_differs_16 : decode cX7_differs 16 = .ok (.iconst 0, 1) := dc_of dtX7_differs_0_0_ok (i := 10) rfl
theorem dX7_differs_17 : decode cX7_differs 17 = .ok (.bipush 10, 2) := dc_of dtX7_differs_0_0_ok (i := 11) rfl
theorem dX7_differs_19 : decode cX7_differs 19 = .ok (.invokevirtual 340, 3) := dc_of dtX7_differs_0_0_ok (i := 12) rfl
theorem dX7_differs_22 : decode cX7_differs 22 = .ok (.aload_n 0, 1) := dc_of dtX7_differs_0_0_ok (i := 13) rfl
theorem dX7_differs_23 : decode cX7_differs 23 = .ok (.invokevirtual 343, 3) := dc_of dtX7_differs_0_0_ok (i := 14) rfl
theorem dX7_differs_26 : decode cX7_differs 26 = .ok (.istore_n 2, 1) := dc_of dtX7_differs_0_0_ok (i := 15) rfl
theorem dX7_differs_27 : decode cX7_differs 27 = .ok (.iload_n 2, 1) := dc_of dtX7_differs_0_0_ok (i := 16) rfl
theorem dX7_differs_28 : decode cX7_differs 28 = .ok (.iload_n 1, 1) := dc_of dtX7_differs_0_0_ok (i := 17) rfl
theorem dX7_differs_29 : decode cX7_differs 29 = .ok (.if_icmp .gt 26, 3) := dc_of dtX7_differs_0_0_ok (i := 18) rfl
theorem dX7_differs_32 : decode cX7_differs 32 = .ok (.aload_n 0, 1) := dc_of dtX7_differs_0_0_ok (i := 19) rfl
theorem dX7_differs_33 : decode cX7_differs 33 = .ok (.bipush 10, 2) := dc_of dtX7_differs_0_0_ok (i := 20) rfl
theorem dX7_differs_35 : decode cX7_differs 35 = .ok (.iload_n 2, 1) := dc_of dtX7_differs_0_0_ok (i := 21) rfl
theorem dX7_differs_36 : decode cX7_differs 36 = .ok (.invokevirtual 349, 3) := dc_of dtX7_differs_0_0_ok (i := 22) rfl
theorem dX7_differs_39 : decode cX7_differs 39 = .ok (.ifCond .ge 10, 3) := dc_of dtX7_differs_0_0_ok (i := 23) rfl
theorem dX7_differs_42 : decode cX7_differs 42 = .ok (.aload_n 0, 1) := dc_of dtX7_differs_0_0_ok (i := 24) rfl
theorem dX7_differs_43 : decode cX7_differs 43 = .ok (.iconst 0, 1) := dc_of dtX7_differs_0_0_ok (i := 25) rfl
theorem dX7_differs_44 : decode cX7_differs 44 = .ok (.iload_n 1, 1) := dc_of dtX7_differs_0_0_ok (i := 26) rfl
theorem dX7_differs_45 : decode cX7_differs 45 = .ok (.invokevirtual 295, 3) := dc_of dtX7_differs_0_0_ok (i := 27) rfl
theorem dX7_differs_48 : decode cX7_differs 48 = .ok (.ireturn, 1) := dc_of dtX7_differs_0_0_ok (i := 28) rfl
theorem dX7_differs_49 : decode cX7_differs 49 = .ok (.iinc 2 1, 3) := dc_of dtX7_differs_0_0_ok (i := 29) rfl
theorem dX7_differs_52 : decode cX7_differs 52 = .ok (.goto (-25), 3) := dc_of dtX7_differs_0_0_ok (i := 30) rfl
theorem dX7_differs_55 : decode cX7_differs 55 = .ok (.aload_n 0, 1) := dc_of dtX7_differs_0_0_ok (i := 31) rfl
def dtX7_differs_56_1 : List (Nat × Instr × Nat) := [(56, .iconst 0, 1), (57, .iload_n 1, 1), (58, .invokevirtual 295, 3), (61, .aload_n 0, 1), (62, .bipush 10, 2), (64, .iload_n 1, 1), (65, .invokevirtual 295, 3), (68, .iadd, 1), (69, .istore_n 2, 1), (70, .iconst 0, 1), (71, .istore_n 3, 1), (72, .iload_n 3, 1), (73, .aload_n 0, 1), (74, .iconst 0, 1), (75, .iload_n 1, 1), (76, .invokevirtual 295, 3), (79, .if_icmp .ge 95, 3), (82, .iconst 0, 1), (83, .istore 4, 2), (85, .iload 4, 2), (87, .aload_n 0, 1), (88, .bipush 10, 2), (90, .iload_n 1, 1), (91, .invokevirtual 295, 3), (94, .if_icmp .ge 74, 3), (97, .iconst 0, 1), (98, .iload_n 1, 1), (99, .iload_n 3, 1), (100, .invokestatic 279, 3), (103, .istore 5, 2), (105, .bipush 10, 2), (107, .iload_n 1, 1)]
theorem dtX7_differs_56_1_ok : dcAll cX7_differs dtX7_differs_56_1 = true := by decide +kernel
theorem dX7_differs_56 : decode cX7_differs 56 = .ok (.iconst 0, 1) := dc_of dtX7_differs_56_1_ok (i := 0) rfl
theorem dX7_differs_57 : decode cX7_differs 57 = .ok (.iload_n 1, 1) := dc_of dtX7_differs_56_1_ok (i := 1) rfl
theorem dX7_differs_58 : decode cX7_differs 58 = .ok (.invokevirtual 295, 3) := dc_of dtX7_differs_56_1_ok (i := 2) rfl
theorem dX7_differs_61 : decode cX7_differs 61 = .ok (.aload_n 0, 1) := dc_of dtX7_differs_56_1_ok (i := 3) rfl
theorem dX7_differs_62 : decode cX7_differs 62 = .ok (.bipush 10, 2) := dc_of dtX7_differs_56_1_ok (i := 4) rfl
theorem dX7_differs_64 : decode cX7_differs 64 = .ok (.iload_n 1, 1) := dc_of dtX7_differs_56_1_ok (i := 5) rfl
theorem dX7_differs_65 : decode cX7_differs 65 = .ok (.invokevirtual 295, 3) := dc_of dtX7_differs_56_1_ok (i := 6) rfl
theorem dX7_differs_68 : decode cX7_differs 68 = .ok (.iadd, 1) := dc_of dtX7_differs_56_1_ok (i := 7) rfl
theorem dX7_differs_69 : decode cX7_differs 69 = .ok (.istore_n 2, 1) := dc_of dtX7_differs_56_1_ok (i := 8) rfl
theorem dX7_differs_70 : decode cX7_differs 70 = .ok (.iconst 0, 1) := dc_of dtX7_differs_56_1_ok (i := 9) rfl
theorem dX7_differs_71 : decode cX7_differs 71 = .ok (.istore_n 3, 1) := dc_of dtX7_differs_56_1_ok (i := 10) rfl
theorem dX7_differs_72 : decode cX7_differs 72 = .ok (.iload_n 3, 1) := dc_of dtX7_differs_56_1_ok (i := 11) rfl
theorem dX7_differs_73 : decode cX7_differs 73 = .ok (.aload_n 0, 1) := dc_of dtX7_differs_56_1_ok (i := 12) rfl
theorem dX7_differs_74 : decode cX7_differs 74 = .ok (.iconst 0, 1) := dc_of dtX7_differs_56_1_ok (i := 13) rfl
theorem dX7_differs_75 : decode cX7_differs 75 = .ok (.iload_n 1, 1) := dc_of dtX7_differs_56_1_ok (i := 14) rfl
theorem dX7_differs_76 : decode cX7_differs 76 = .ok (.invokevirtual 295, 3) := dc_of dtX7_differs_56_1_ok (i := 15) rfl
theorem dX7_differs_79 : decode cX7_differs 79 = .ok (.if_icmp .ge 95, 3) := dc_of dtX7_differs_56_1_ok (i := 16) rfl
theorem dX7_differs_82 : decode cX7_differs 82 = .ok (.iconst 0, 1) := dc_of dtX7_differs_56_1_ok (i := 17) rfl
theorem dX7_differs_83 : decode cX7_differs 83 = .ok (.istore 4, 2) := dc_of dtX7_differs_56_1_ok (i := 18) rfl
theorem dX7_differs_85 : decode cX7_differs 85 = .ok (.iload 4, 2) := dc_of dtX7_differs_56_1_ok (i := 19) rfl
theorem dX7_differs_87 : decode cX7_differs 87 = .ok (.aload_n 0, 1) := dc_of dtX7_differs_56_1_ok (i := 20) rfl
theorem dX7_differs_88 : decode cX7_differs 88 = .ok (.bipush 10, 2) := dc_of dtX7_differs_56_1_ok (i := 21) rfl
theorem dX7_differs_90 : decode cX7_differs 90 = .ok (.iload_n 1, 1) := dc_of dtX7_differs_56_1_ok (i := 22) rfl
theorem dX7_differs_91 : decode cX7_differs 91 = .ok (.invokevirtual 295, 3) := dc_of dtX7_differs_56_1_ok (i := 23) rfl
theorem dX7_differs_94 : decode cX7_differs 94 = .ok (.if_icmp .ge 74, 3) := dc_of dtX7_differs_56_1_ok (i := 24) rfl
theorem dX7_differs_97 : decode cX7_differs 97 = .ok (.iconst 0, 1) := dc_of dtX7_differs_56_1_ok (i := 25) rfl
theorem dX7_differs_98 : decode cX7_differs 98 = .ok (.iload_n 1, 1) := dc_of dtX7_differs_56_1_ok (i := 26) rfl
theorem dX7_differs_99 : decode cX7_differs 99 = .ok (.iload_n 3, 1) := dc_of dtX7_differs_56_1_ok (i := 27) rfl
theorem dX7_differs_100 : decode cX7_differs 100 = .ok (.invokestatic 279, 3) := dc_of dtX7_differs_56_1_ok (i := 28) rfl
theorem dX7_differs_103 : decode cX7_differs 103 = .ok (.istore 5, 2) := dc_of dtX7_differs_56_1_ok (i := 29) rfl
theorem dX7_differs_105 : decode cX7_differs 105 = .ok (.bipush 10, 2) := dc_of dtX7_differs_56_1_ok (i := 30) rfl
theorem dX7_differs_107 : decode cX7_differs 107 = .ok (.iload_n 1, 1) := dc_of dtX7_differs_56_1_ok (i := 31) rfl
def dtX7_differs_108_2 : List (Nat × Instr × Nat) := [(108, .iload 4, 2), (110, .invokestatic 279, 3), (113, .istore 6, 2), (115, .aload_n 0, 1), (116, .getfield 24, 3), (119, .iload 5, 2), (121, .aload_n 0, 1), (122, .getfield 24, 3), (125, .iload 6, 2), (127, .invokestatic 272, 3), (130, .ifCond .ne 32, 3), (133, .iload_n 2, 1), (134, .aload_n 0, 1), (135, .getfield 24, 3), (138, .iload 5, 2), (140, .iconst 4, 1), (141, .iadd, 1), (142, .iaload, 1), (143, .aload_n 0, 1), (144, .getfield 24, 3), (147, .iload 6, 2), (149, .iconst 4, 1), (150, .iadd, 1), (151, .iaload, 1), (152, .if_icmp .ne 7, 3), (155, .iconst 2, 1), (156, .goto 4, 3), (159, .iconst 1, 1), (160, .isub, 1), (161, .istore_n 2, 1), (162, .iinc 4 1, 3), (165, .goto (-80), 3)]
theorem dtX7_differs_108_2_ok : dcAll cX7_differs dtX7_differs_108_2 = true := by decide +kernel
theorem dX7_differs_108 : decode cX7_differs 108 = .ok (.iload 4, 2) := dc_of dtX7_differs_108_2_ok (i := 0) rfl
theorem dX7_differs_110 : decode cX7_differs 110 = .ok (.invokestatic 279, 3) := dc_of dtX7_differs_108_2_ok (i := 1) rfl
theorem dX7_differs_113 : decode cX7_differs 113 = .ok (.istore 6, 2) := dc_of dtX7_differs_108_2_ok (i := 2) rfl
theorem dX7_differs_115 : decode cX7_differs 115 = .ok (.aload_n 0, 1) := dc_of dtX7_differs_108_2_ok (i := 3) rfl
theorem dX7_differs_116 : decode cX7_differs 116 = .ok (.getfield 24, 3) := dc_of dtX7_differs_108_2_ok (i := 4) rfl
theorem dX7_differs_119 : decode cX7_differs 119 = .ok (.iload 5, 2) := dc_of dtX7_differs_108_2_ok (i := 5) rfl
theorem dX7_differs_121 : decode cX7_differs 121 = .ok (.aload_n 0, 1) := dc_of dtX7_differs_108_2_ok (i := 6) rfl
theorem dX7_differs_122 : decode cX7_differs 122 = .ok (.getfield 24, 3) := dc_of dtX7_differs_108_2_ok (i := 7) rfl
theorem dX7_differs_125 : decode cX7_differs 125 = .ok (.iload 6, 2) := dc_of dtX7_differs_108_2_ok (i := 8) rfl
theorem dX7_differs_127 : decode cX7_differs 127 = .ok (.invokestatic 272, 3) := dc_of dtX7_differs_108_2_ok (i := 9) rfl
theorem dX7_differs_130 : decode cX7_differs 130 = .ok (.ifCond .ne 32, 3) := dc_of dtX7_differs_108_2_ok (i := 10) rfl
theorem dX7_differs_133 : decode cX7_differs 133 = .ok (.iload_n 2, 1) := dc_of dtX7_differs_108_2_ok (i := 11) rfl
theorem dX7_differs_134 : decode cX7_differs 134 = .ok (.aload_n 0, 1) := dc_of dtX7_differs_108_2_ok (i := 12) rfl
theorem dX7_differs_135 : decode cX7_differs 135 = .ok (.getfield 24, 3) := dc_of dtX7_differs_108_2_ok (i := 13) rfl
theorem dX7_differs_138 : decode cX7_differs 138 = .ok (.iload 5, 2) := dc_of dtX7_differs_108_2_ok (i := 14) rfl
theorem dX7_differs_140 : decode cX7_differs 140 = .ok (.iconst 4, 1) := dc_of dtX7_differs_108_2_ok (i := 15) rfl
theorem dX7_differs_141 : decode cX7_differs 141 = .ok (.iadd, 1) := dc_of dtX7_differs_108_2_ok (i := 16) rfl
theorem dX7_differs_142 : decode cX7_differs 142 = .ok (.iaload, 1) := dc_of dtX7_differs_108_2_ok (i := 17) rfl
theorem dX7_differs_143 : decode cX7_differs 143 = .ok (.aload_n 0, 1) := dc_of dtX7_differs_108_2_ok (i := 18) rfl
theorem dX7_differs_144 : decode cX7_differs 144 = .ok (.getfield 24, 3) := dc_of dtX7_differs_108_2_ok (i := 19) rfl
theorem dX7_differs_147 : decode cX7_differs 147 = .ok (.iload 6, 2) := dc_of dtX7_differs_108_2_ok (i := 20) rfl
theorem dX7_differs_149 : decode cX7_differs 149 = .ok (.iconst 4, 1) := dc_of dtX7_differs_108_2_ok (i := 21) rfl
theorem dX7_differs_150 : decode cX7_differs 150 = .ok (.iadd, 1) := dc_of dtX7_differs_108_2_ok (i := 22) rfl
theorem dX7_differs_151 : decode cX7_differs 151 = .ok (.iaload, 1) := dc_of dtX7_differs_108_2_ok (i := 23) rfl
theorem dX7_differs_152 : decode cX7_differs 152 = .ok (.if_icmp .ne 7, 3) := dc_of dtX7_differs_108_2_ok (i := 24) rfl
theorem dX7_differs_155 : decode cX7_differs 155 = .ok (.iconst 2, 1) := dc_of dtX7_differs_108_2_ok (i := 25) rfl
theorem dX7_differs_156 : decode cX7_differs 156 = .ok (.goto 4, 3) := dc_of dtX7_differs_108_2_ok (i := 26) rfl
theorem dX7_differs_159 : decode cX7_differs 159 = .ok (.iconst 1, 1) := dc_of dtX7_differs_108_2_ok (i := 27) rfl
theorem dX7_differs_160 : decode cX7_differs 160 = .ok (.isub, 1) := dc_of dtX7_differs_108_2_ok (i := 28) rfl
theorem dX7_differs_161 : decode cX7_differs 161 = .ok (.istore_n 2, 1) := dc_of dtX7_differs_108_2_ok (i := 29) rfl
theorem dX7_differs_162 : decode cX7_differs 162 = .ok (.iinc 4 1, 3) := dc_of dtX7_differs_108_2_ok (i := 30) rfl
theorem dX7_differs_165 : decode cX7_differs 165 = .ok (.goto (-80), 3) := dc_of dtX7_differs_108_2_ok (i := 31) rfl
def dtX7_differs_168_3 : List (Nat × Instr × Nat) := [(168, .iinc 3 1, 3), (171, .goto (-99), 3), (174, .iload_n 2, 1), (175, .ireturn, 1)]
theorem dtX7_differs_168_3_ok : dcAll cX7_differs dtX7_differs_168_3 = true := by decide +kernel
theorem dX7_differs_168 : decode cX7_differs 168 = .ok (.iinc 3 1, 3) := dc_of dtX7_differs_168_3_ok (i := 0) rfl
theorem dX7_differs_171 : decode cX7_differs 171 = .ok (.goto (-99), 3) := dc_of dtX7_differs_168_3_ok (i := 1) rfl
theorem dX7_differs_174 : decode cX7_differs 174 = .ok (.iload_n 2, 1) := dc_of dtX7_differs_168_3_ok (i := 2) rfl
theorem dX7_differs_175 : decode cX7_differs 175 = .ok (.ireturn, 1) := dc_of dtX7_differs_168_3_ok (i := 3) rfl
def dtX7_hangsOn_0_0 : List (Nat × Instr × Nat) := [(0, .aload_n 0, 1), (1, .iload_n 1, 1), (2, .invokevirtual 322, 3), (5, .ifCond .ne 5, 3), (8, .iconst 0, 1), (9, .ireturn, 1), (10, .iconst 1, 1), (11, .aload_n 0, 1), (12, .iload_n 1, 1), (13, .invokevirtual 289, 3), (16, .ishl, 1), (17, .aload_n 0, 1), (18, .aload_n 0, 1), (19, .iload_n 1, 1), (20, .invokevirtual 289, 3), (23, .invokevirtual 377, 3), (26, .ior, 1), (27, .istore_n 2, 1), (28, .aload_n 0, 1), (29, .iload_n 1, 1), (30, .invokevirtual 292, 3), (33, .ifCond .ge 7, 3), (36, .iload_n 2, 1), (37, .goto 22, 3), (40, .iload_n 2, 1), (41, .iconst 1, 1), (42, .aload_n 0, 1), (43, .iload_n 1, 1), (44, .invokevirtual 292, 3), (47, .ishl, 1), (48, .ior, 1), (49, .aload_n 0, 1)]
theorem dtX7_hangsOn_0_0_ok : dcAll cX7_hangsOn dtX7_hangsOn_0_0 = true := by decide +kernel
theorem dX7_hangsOn_0 : decode cX7_hangsOn 0 = .ok (.aload_n 0, 1) := dc_of dtX7_hangsOn_0_0_ok (i := 0) rfl
theorem dX7_hangsOn_1 : decode cX7_hangsOn 1 = .ok (.iload_n 1, 1) := dc_of dtX7_hangsOn_0_0_ok (i := 1) rfl
theorem dX7_hangsOn_2 : decode cX7_hangsOn 2 = .ok (.invokevirtual 322, 3) := dc_of dtX7_hangsOn_0_0_ok (i := 2) rfl
theorem dX7_hangsOn_5 : decode cX7_hangsOn 5 = .ok (.ifCond .ne 5, 3) := dc_of dtX7_hangsOn_0_0_ok (i := 3) rfl
theorem dX7_hangsOn_8 : decode cX7_hangsOn 8 = .ok (.iconst 0, 1) := dc_of dtX7_hangsOn_0_0_ok (i := 4) rfl
theorem dX7_hangsOn_9 : decode cX7_hangsOn 9 = .ok (.ireturn, 1) := dc_of dtX7_hangsOn_0_0_ok (i := 5) rfl
theorem dX7_hangsOn_10 : decode cX7_hangsOn 10 = .ok (.iconst 1, 1) := dc_of dtX7_hangsOn_0_0_ok (i := 6) rfl
theorem dX7_hangsOn_11 : decode cX7_hangsOn 11 = .ok (.aload_n 0, 1) := dc_of dtX7_hangsOn_0_0_ok (i := 7) rfl
theorem dX7_hangsOn_12 : decode cX7_hangsOn 12 = .ok (.iload_n 1, 1) := dc_of dtX7_hangsOn_0_0_ok (i := 8) rfl
theorem dX7_hangsOn_13 : decode cX7_hangsOn 13 = .ok (.invokevirtual 289, 3) := dc_of dtX7_hangsOn_0_0_ok (i := 9) rfl
theorem dX7_hangsOn_16 : decode cX7_hangsOn 16 = .ok (.ishl, 1) := dc_of dtX7_hangsOn_0_0_ok (i := 10) rfl
theorem dX7_hangsOn_17 : decode cX7_hangsOn 17 = .ok (.aload_n 0, 1) := dc_of dtX7_hangsOn_0_0_ok (i := 11) rfl
theorem dX7_hangsOn_18 : decode cX7_hangsOn 18 = .ok (.aload_n 0, 1) := dc_of dtX7_hangsOn_0_0_ok (i := 12) rfl
theorem dX7_hangsOn_19 : decode cX7_hangsOn 19 = .ok (.iload_n 1, 1) := dc_of dtX7_hangsOn_0_0_ok (i := 13) rfl
theorem dX7_hangsOn_20 : decode cX7_hangsOn 20 = .ok (.invokevirtual 289, 3) := dc_of dtX7_hangsOn_0_0_ok (i := 14) rfl
theorem dX7_hangsOn_23 : decode cX7_hangsOn 23 = .ok (.invokevirtual 377, 3) := dc_of dtX7_hangsOn_0_0_ok (i := 15) rfl
theorem dX7_hangsOn_26 : decode cX7_hangsOn 26 = .ok (.ior, 1) := dc_of dtX7_hangsOn_0_0_ok (i := 16) rfl
theorem dX7_hangsOn_27 : decode cX7_hangsOn 27 = .ok (.istore_n 2, 1) := dc_of dtX7_hangsOn_0_0_ok (i := 17) rfl
theorem dX7_hangsOn_28 : decode cX7_hangsOn 28 = .ok (.aload_n 0, 1) := dc_of dtX7_hangsOn_0_0_ok (i := 18) rfl
theorem dX7_hangsOn_29 : decode cX7_hangsOn 29 = .ok (.iload_n 1, 1) := dc_of dtX7_hangsOn_0_0_ok (i := 19) rfl
theorem dX7_hangsOn_30 : decode cX7_hangsOn 30 = .ok (.invokevirtual 292, 3) := dc_of dtX7_hangsOn_0_0_ok (i := 20) rfl
theorem dX7_hangsOn_33 : decode cX7_hangsOn 33 = .ok (.ifCond .ge 7, 3) := dc_of dtX7_hangsOn_0_0_ok (i := 21) rfl
theorem dX7_hangsOn_36 : decode cX7_hangsOn 36 = .ok (.iload_n 2, 1) := dc_of dtX7_hangsOn_0_0_ok (i := 22) rfl
theorem dX7_hangsOn_37 : decode cX7_hangsOn 37 = .ok (.goto 22, 3) := dc_of dtX7_hangsOn_0_0_ok (i := 23) rfl
theorem dX7_hangsOn_40 : decode cX7_hangsOn 40 = .ok (.iload_n 2, 1) := dc_of dtX7_hangsOn_0_0_ok (i := 24) rfl
theorem dX7_hangsOn_41 : decode cX7_hangsOn 41 = .ok (.iconst 1, 1) := dc_of dtX7_hangsOn_0_0_ok (i := 25) rfl
theorem dX7_hangsOn_42 : decode cX7_hangsOn 42 = .ok (.aload_n 0, 1) := dc_of dtX7_hangsOn_0_0_ok (i := 26) rfl
theorem dX7_hangsOn_43 : decode cX7_hangsOn 43 = .ok (.iload_n 1, 1) := dc_of dtX7_hangsOn_0_0_ok (i := 27) rfl
theorem dX7_hangsOn_44 : decode cX7_hangsOn 44 = .ok (.invokevirtual 292, 3) := dc_of dtX7_hangsOn_0_0_ok (i := 28) rfl
theorem dX7_hangsOn_47 : decode cX7_hangsOn 47 = .ok (.ishl, 1) := dc_of dtX7_hangsOn_0_0_ok (i := 29) rfl
theorem dX7_hangsOn_48 : decode cX7_hangsOn 48 = .ok (.ior, 1) := dc_of dtX7_hangsOn_0_0_ok (i := 30) rfl
theorem dX7_hangsOn_49 : decode cX7_hangsOn 49 = .ok (.aload_n 0, 1) := dc_of dtX7_hangsOn_0_0_ok (i := 31) rfl
def dtX7_hangsOn_50_1 : List (Nat × Instr × Nat) := [(50, .aload_n 0, 1), (51, .iload_n 1, 1), (52, .invokevirtual 292, 3), (55, .invokevirtual 377, 3), (58, .ior, 1), (59, .ireturn, 1)]
theorem dtX7_hangsOn_50_1_ok : dcAll cX7_hangsOn dtX7_hangsOn_50_1 = true := by decide +kernel
theorem dX7_hangsOn_50 : decode cX7_hangsOn 50 = .ok (.aload_n 0, 1) := dc_of dtX7_hangsOn_50_1_ok (i := 0) rfl
theorem dX7_hangsOn_51 : decode cX7_hangsOn 51 = .ok (.iload_n 1, 1) := dc_of dtX7_hangsOn_50_1_ok (i := 1) rfl
theorem dX7_hangsOn_52 : decode cX7_hangsOn 52 = .ok (.invokevirtual 292, 3) := dc_of dtX7_hangsOn_50_1_ok (i := 2) rfl
theorem dX7_hangsOn_55 : decode cX7_hangsOn 55 = .ok (.invokevirtual 377, 3) := dc_of dtX7_hangsOn_50_1_ok (i := 3) rfl
theorem dX7_hangsOn_58 : decode cX7_hangsOn 58 = .ok (.ior, 1) := dc_of dtX7_hangsOn_50_1_ok (i := 4) rfl
theorem dX7_hangsOn_59 : decode cX7_hangsOn 59 = .ok (.ireturn, 1) := dc_of dtX7_hangsOn_50_1_ok (i := 5) rfl
def dtX7_hangOn_0_0 : List (Nat × Instr × Nat) := [(0, .iconst 0, 1), (1, .istore_n 2, 1), (2, .iconst 0, 1), (3, .istore_n 3, 1), (4, .iload_n 3, 1), (5, .aload_n 0, 1), (6, .getfield 64, 3), (9, .if_icmp .ge 28, 3), (12, .aload_n 0, 1), (13, .iload_n 3, 1), (14, .invokevirtual 377, 3), (17, .iload_n 1, 1), (18, .ishr, 1), (19, .iconst 1, 1), (20, .iand, 1), (21, .iconst 1, 1), (22, .if_icmp .ne 9, 3), (25, .iload_n 2, 1), (26, .iconst 1, 1), (27, .iload_n 3, 1), (28, .ishl, 1), (29, .ior, 1), (30, .istore_n 2, 1), (31, .iinc 3 1, 3), (34, .goto (-30), 3), (37, .iload_n 2, 1), (38, .ireturn, 1)]
theorem dtX7_hangOn_0_0_ok : dcAll cX7_hangOn dtX7_hangOn_0_0 = true := by decide +kernel
theorem dX7_hangOn_0 : decode cX7_hangOn 0 = .ok (.iconst 0, 1) := dc_of dtX7_hangOn_0_0_ok (i := 0) rfl
theorem dX7_hangOn_1 : decode cX7_hangOn 1 = .ok (.istore_n 2, 1) := dc_of dtX7_hangOn_0_0_ok (i := 1) rfl
theorem dX7_hangOn_2 : decode cX7_hangOn 2 = .ok (.iconst 0, 1) := dc_of dtX7_hangOn_0_0_ok (i := 2) rfl
theorem dX7_hangOn_3 : decode cX7_hangOn 3 = .ok (.istore_n 3, 1) := dc_of dtX7_hangOn_0_0_ok (i := 3) rfl
theorem dX7_hangOn_4 : decode cX7_hangOn 4 = .ok (.iload_n 3, 1) := dc_of dtX7_hangOn_0_0_ok (i := 4) rfl
theorem dX7_hangOn_5 : decode cX7_hangOn 5 = .ok (.aload_n 0, 1) := dc_of dtX7_hangOn_0_0_ok (i := 5) rfl
theorem dX7_hangOn_6 : decode cX7_hangOn 6 = .ok (.getfield 64, 3) := dc_of dtX7_hangOn_0_0_ok (i := 6) rfl
theorem dX7_hangOn_9 : decode cX7_hangOn 9 = .ok (.if_icmp .ge 28, 3) := dc_of dtX7_hangOn_0_0_ok (i := 7) rfl
theorem dX7_hangOn_12 : decode cX7_hangOn 12 = .ok (.aload_n 0, 1) := dc_of dtX7_hangOn_0_0_ok (i := 8) rfl
theorem dX7_hangOn_13 : decode cX7_hangOn 13 = .ok (.iload_n 3, 1) := dc_of dtX7_hangOn_0_0_ok (i := 9) rfl
theorem dX7_hangOn_14 : decode cX7_hangOn 14 = .ok (.invokevirtual 377, 3) := dc_of dtX7_hangOn_0_0_ok (i := 10) rfl
theorem dX7_hangOn_17 : decode cX7_hangOn 17 = .ok (.iload_n 1, 1) := dc_of dtX7_hangOn_0_0_ok (i := 11) rfl
theorem dX7_hangOn_18 : decode cX7_hangOn 18 = .ok (.ishr, 1) := dc_of dtX7_hangOn_0_0_ok (i := 12) rfl
theorem dX7_hangOn_19 : decode cX7_hangOn 19 = .ok (.iconst 1, 1) := dc_of dtX7_hangOn_0_0_ok (i := 13) rfl
theorem dX7_hangOn_20 : decode cX7_hangOn 20 = .ok (.iand, 1) := dc_of dtX7_hangOn_0_0_ok (i := 14) rfl
theorem dX7_hangOn_21 : decode cX7_hangOn 21 = .ok (.iconst 1, 1) := dc_of dtX7_hangOn_0_0_ok (i := 15) rfl
theorem dX7_hangOn_22 : decode cX7_hangOn 22 = .ok (.if_icmp .ne 9, 3) := dc_of dtX7_hangOn_0_0_ok (i := 16) rfl
theorem dX7_hangOn_25 : decode cX7_hangOn 25 = .ok (.iload_n 2, 1) := dc_of dtX7_hangOn_0_0_ok (i := 17) rfl
theorem dX7_hangOn_26 : decode cX7_hangOn 26 = .ok (.iconst 1, 1) := dc_of dtX7_hangOn_0_0_ok (i := 18) rfl
theorem dX7_hangOn_27 : decode cX7_hangOn 27 = .ok (.iload_n 3, 1) := dc_of dtX7_hangOn_0_0_ok (i := 19) rfl
theorem dX7_hangOn_28 : decode cX7_hangOn 28 = .ok (.ishl, 1) := dc_of dtX7_hangOn_0_0_ok (i := 20) rfl
theorem dX7_hangOn_29 : decode cX7_hangOn 29 = .ok (.ior, 1) := dc_of dtX7_hangOn_0_0_ok (i := 21) rfl
theorem dX7_hangOn_30 : decode cX7_hangOn 30 = .ok (.istore_n 2, 1) := dc_of dtX7_hangOn_0_0_ok (i := 22) rfl
theorem dX7_hangOn_31 : decode cX7_hangOn 31 = .ok (.iinc 3 1, 3) := dc_of dtX7_hangOn_0_0_ok (i := 23) rfl
theorem dX7_hangOn_34 : decode cX7_hangOn 34 = .ok (.goto (-30), 3) := dc_of dtX7_hangOn_0_0_ok (i := 24) rfl
theorem dX7_hangOn_37 : decode cX7_hangOn 37 = .ok (.iload_n 2, 1) := dc_of dtX7_hangOn_0_0_ok (i := 25) rfl
theorem dX7_hangOn_38 : decode cX7_hangOn 38 = .ok (.ireturn, 1) := dc_of dtX7_hangOn_0_0_ok (i := 26) rfl
def dtX7_farOf_0_0 : List (Nat × Instr × Nat) := [(0, .aload_n 0, 1), (1, .iload_n 1, 1), (2, .invokevirtual 322, 3), (5, .ifCond .ne 5, 3), (8, .iconst 0, 1), (9, .ireturn, 1), (10, .aload_n 0, 1), (11, .aload_n 0, 1), (12, .iload_n 1, 1), (13, .invokevirtual 289, 3), (16, .invokevirtual 380, 3), (19, .istore_n 2, 1), (20, .aload_n 0, 1), (21, .iload_n 1, 1), (22, .invokevirtual 292, 3), (25, .ifCond .ge 7, 3), (28, .iconst 0, 1), (29, .goto 12, 3), (32, .aload_n 0, 1), (33, .aload_n 0, 1), (34, .iload_n 1, 1), (35, .invokevirtual 292, 3), (38, .invokevirtual 380, 3), (41, .istore_n 3, 1), (42, .iconst 1, 1), (43, .iload_n 2, 1), (44, .iload_n 3, 1), (45, .if_icmp .le 7, 3), (48, .iload_n 2, 1), (49, .goto 4, 3), (52, .iload_n 3, 1), (53, .iadd, 1)]
theorem dtX7_farOf_0_0_ok : dcAll cX7_farOf dtX7_farOf_0_0 = true := by decide +kernel
theorem dX7_farOf_0 : decode cX7_farOf 0 = .ok (.aload_n 0, 1) := dc_of dtX7_farOf_0_0_ok (i := 0) rfl
theorem dX7_farOf_1 : decode cX7_farOf 1 = .ok (.iload_n 1, 1) := dc_of dtX7_farOf_0_0_ok (i := 1) rfl
theorem dX7_farOf_2 : decode cX7_farOf 2 = .ok (.invokevirtual 322, 3) := dc_of dtX7_farOf_0_0_ok (i := 2) rfl
theorem dX7_farOf_5 : decode cX7_farOf 5 = .ok (.ifCond .ne 5, 3) := dc_of dtX7_farOf_0_0_ok (i := 3) rfl
theorem dX7_farOf_8 : decode cX7_farOf 8 = .ok (.iconst 0, 1) := dc_of dtX7_farOf_0_0_ok (i := 4) rfl
theorem dX7_farOf_9 : decode cX7_farOf 9 = .ok (.ireturn, 1) := dc_of dtX7_farOf_0_0_ok (i := 5) rfl
theorem dX7_farOf_10 : decode cX7_farOf 10 = .ok (.aload_n 0, 1) := dc_of dtX7_farOf_0_0_ok (i := 6) rfl
theorem dX7_farOf_11 : decode cX7_farOf 11 = .ok (.aload_n 0, 1) := dc_of dtX7_farOf_0_0_ok (i := 7) rfl
theorem dX7_farOf_12 : decode cX7_farOf 12 = .ok (.iload_n 1, 1) := dc_of dtX7_farOf_0_0_ok (i := 8) rfl
theorem dX7_farOf_13 : decode cX7_farOf 13 = .ok (.invokevirtual 289, 3) := dc_of dtX7_farOf_0_0_ok (i := 9) rfl
theorem dX7_farOf_16 : decode cX7_farOf 16 = .ok (.invokevirtual 380, 3) := dc_of dtX7_farOf_0_0_ok (i := 10) rfl
theorem dX7_farOf_19 : decode cX7_farOf 19 = .ok (.istore_n 2, 1) := dc_of dtX7_farOf_0_0_ok (i := 11) rfl
theorem dX7_farOf_20 : decode cX7_farOf 20 = .ok (.aload_n 0, 1) := dc_of dtX7_farOf_0_0_ok (i := 12) rfl
theorem dX7_farOf_21 : decode cX7_farOf 21 = .ok (.iload_n 1, 1) := dc_of dtX7_farOf_0_0_ok (i := 13) rfl
theorem dX7_farOf_22 : decode cX7_farOf 22 = .ok (.invokevirtual 292, 3) := dc_of dtX7_farOf_0_0_ok (i := 14) rfl
theorem dX7_farOf_25 : decode cX7_farOf 25 = .ok (.ifCond .ge 7, 3) := dc_of dtX7_farOf_0_0_ok (i := 15) rfl
theorem dX7_farOf_28 : decode cX7_farOf 28 = .ok (.iconst 0, 1) := dc_of dtX7_farOf_0_0_ok (i := 16) rfl
theorem dX7_farOf_29 : decode cX7_farOf 29 = .ok (.goto 12, 3) := dc_of dtX7_farOf_0_0_ok (i := 17) rfl
theorem dX7_farOf_32 : decode cX7_farOf 32 = .ok (.aload_n 0, 1) := dc_of dtX7_farOf_0_0_ok (i := 18) rfl
theorem dX7_farOf_33 : decode cX7_farOf 33 = .ok (.aload_n 0, 1) := dc_of dtX7_farOf_0_0_ok (i := 19) rfl
theorem dX7_farOf_34 : decode cX7_farOf 34 = .ok (.iload_n 1, 1) := dc_of dtX7_farOf_0_0_ok (i := 20) rfl
theorem dX7_farOf_35 : decode cX7_farOf 35 = .ok (.invokevirtual 292, 3) := dc_of dtX7_farOf_0_0_ok (i := 21) rfl
theorem dX7_farOf_38 : decode cX7_farOf 38 = .ok (.invokevirtual 380, 3) := dc_of dtX7_farOf_0_0_ok (i := 22) rfl
theorem dX7_farOf_41 : decode cX7_farOf 41 = .ok (.istore_n 3, 1) := dc_of dtX7_farOf_0_0_ok (i := 23) rfl
theorem dX7_farOf_42 : decode cX7_farOf 42 = .ok (.iconst 1, 1) := dc_of dtX7_farOf_0_0_ok (i := 24) rfl
theorem dX7_farOf_43 : decode cX7_farOf 43 = .ok (.iload_n 2, 1) := dc_of dtX7_farOf_0_0_ok (i := 25) rfl
theorem dX7_farOf_44 : decode cX7_farOf 44 = .ok (.iload_n 3, 1) := dc_of dtX7_farOf_0_0_ok (i := 26) rfl
theorem dX7_farOf_45 : decode cX7_farOf 45 = .ok (.if_icmp .le 7, 3) := dc_of dtX7_farOf_0_0_ok (i := 27) rfl
theorem dX7_farOf_48 : decode cX7_farOf 48 = .ok (.iload_n 2, 1) := dc_of dtX7_farOf_0_0_ok (i := 28) rfl
theorem dX7_farOf_49 : decode cX7_farOf 49 = .ok (.goto 4, 3) := dc_of dtX7_farOf_0_0_ok (i := 29) rfl
theorem dX7_farOf_52 : decode cX7_farOf 52 = .ok (.iload_n 3, 1) := dc_of dtX7_farOf_0_0_ok (i := 30) rfl
theorem dX7_farOf_53 : decode cX7_farOf 53 = .ok (.iadd, 1) := dc_of dtX7_farOf_0_0_ok (i := 31) rfl
def dtX7_farOf_54_1 : List (Nat × Instr × Nat) := [(54, .ireturn, 1)]
theorem dtX7_farOf_54_1_ok : dcAll cX7_farOf dtX7_farOf_54_1 = true := by decide +kernel
theorem dX7_farOf_54 : decode cX7_farOf 54 = .ok (.ireturn, 1) := dc_of dtX7_farOf_54_1_ok (i := 0) rfl
def dtX7_of_0_0 : List (Nat × Instr × Nat) := [(0, .aload_n 0, 1), (1, .iconst 0, 1), (2, .putfield 60, 3), (5, .aload_n 0, 1), (6, .iload_n 1, 1), (7, .invokevirtual 352, 3), (10, .ifCond .ne 5, 3), (13, .iconst (-1), 1), (14, .ireturn, 1), (15, .iload_n 2, 1), (16, .tableswitch 143 0 8 #[52, 58, 64, 70, 76, 82, 88, 94, 126], 52), (68, .aload_n 0, 1), (69, .iload_n 1, 1), (70, .invokevirtual 322, 3), (73, .ireturn, 1), (74, .aload_n 0, 1), (75, .iload_n 1, 1), (76, .invokevirtual 301, 3), (79, .ireturn, 1), (80, .aload_n 0, 1), (81, .iload_n 1, 1), (82, .invokevirtual 289, 3), (85, .ireturn, 1), (86, .aload_n 0, 1), (87, .iload_n 1, 1), (88, .invokevirtual 292, 3), (91, .ireturn, 1), (92, .aload_n 0, 1), (93, .iload_n 1, 1), (94, .invokevirtual 377, 3), (97, .ireturn, 1), (98, .aload_n 0, 1)]
theorem dtX7_of_0_0_ok : dcAll cX7_of dtX7_of_0_0 = true := by decide +kernel
theorem dX7_of_0 : decode cX7_of 0 = .ok (.aload_n 0, 1) := dc_of dtX7_of_0_0_ok (i := 0) rfl
theorem dX7_of_1 : decode cX7_of 1 = .ok (.iconst 0, 1) := dc_of dtX7_of_0_0_ok (i := 1) rfl
theorem dX7_of_2 : decode cX7_of 2 = .ok (.putfield 60, 3) := dc_of dtX7_of_0_0_ok (i := 2) rfl
theorem dX7_of_5 : decode cX7_of 5 = .ok (.aload_n 0, 1) := dc_of dtX7_of_0_0_ok (i := 3) rfl
theorem dX7_of_6 : decode cX7_of 6 = .ok (.iload_n 1, 1) := dc_of dtX7_of_0_0_ok (i := 4) rfl
theorem dX7_of_7 : decode cX7_of 7 = .ok (.invokevirtual 352, 3) := dc_of dtX7_of_0_0_ok (i := 5) rfl
theorem dX7_of_10 : decode cX7_of 10 = .ok (.ifCond .ne 5, 3) := dc_of dtX7_of_0_0_ok (i := 6) rfl
theorem dX7_of_13 : decode cX7_of 13 = .ok (.iconst (-1), 1) := dc_of dtX7_of_0_0_ok (i := 7) rfl
theorem dX7_of_14 : decode cX7_of 14 = .ok (.ireturn, 1) := dc_of dtX7_of_0_0_ok (i := 8) rfl
theorem dX7_of_15 : decode cX7_of 15 = .ok (.iload_n 2, 1) := dc_of dtX7_of_0_0_ok (i := 9) rfl
theorem dX7_of_16 : decode cX7_of 16 = .ok (.tableswitch 143 0 8 #[52, 58, 64, 70, 76, 82, 88, 94, 126], 52) := dc_of dtX7_of_0_0_ok (i := 10) rfl
theorem dX7_of_68 : decode cX7_of 68 = .ok (.aload_n 0, 1) := dc_of dtX7_of_0_0_ok (i := 11) rfl
theorem dX7_of_69 : decode cX7_of 69 = .ok (.iload_n 1, 1) := dc_of dtX7_of_0_0_ok (i := 12) rfl
theorem dX7_of_70 : decode cX7_of 70 = .ok (.invokevirtual 322, 3) := dc_of dtX7_of_0_0_ok (i := 13) rfl
theorem dX7_of_73 : decode cX7_of 73 = .ok (.ireturn, 1) := dc_of dtX7_of_0_0_ok (i := 14) rfl
theorem dX7_of_74 : decode cX7_of 74 = .ok (.aload_n 0, 1) := dc_of dtX7_of_0_0_ok (i := 15) rfl
theorem dX7_of_75 : decode cX7_of 75 = .ok (.iload_n 1, 1) := dc_of dtX7_of_0_0_ok (i := 16) rfl
theorem dX7_of_76 : decode cX7_of 76 = .ok (.invokevirtual 301, 3) := dc_of dtX7_of_0_0_ok (i := 17) rfl
theorem dX7_of_79 : decode cX7_of 79 = .ok (.ireturn, 1) := dc_of dtX7_of_0_0_ok (i := 18) rfl
theorem dX7_of_80 : decode cX7_of 80 = .ok (.aload_n 0, 1) := dc_of dtX7_of_0_0_ok (i := 19) rfl
theorem dX7_of_81 : decode cX7_of 81 = .ok (.iload_n 1, 1) := dc_of dtX7_of_0_0_ok (i := 20) rfl
theorem dX7_of_82 : decode cX7_of 82 = .ok (.invokevirtual 289, 3) := dc_of dtX7_of_0_0_ok (i := 21) rfl
theorem dX7_of_85 : decode cX7_of 85 = .ok (.ireturn, 1) := dc_of dtX7_of_0_0_ok (i := 22) rfl
theorem dX7_of_86 : decode cX7_of 86 = .ok (.aload_n 0, 1) := dc_of dtX7_of_0_0_ok (i := 23) rfl
theorem dX7_of_87 : decode cX7_of 87 = .ok (.iload_n 1, 1) := dc_of dtX7_of_0_0_ok (i := 24) rfl
theorem dX7_of_88 : decode cX7_of 88 = .ok (.invokevirtual 292, 3) := dc_of dtX7_of_0_0_ok (i := 25) rfl
theorem dX7_of_91 : decode cX7_of 91 = .ok (.ireturn, 1) := dc_of dtX7_of_0_0_ok (i := 26) rfl
theorem dX7_of_92 : decode cX7_of 92 = .ok (.aload_n 0, 1) := dc_of dtX7_of_0_0_ok (i := 27) rfl
theorem dX7_of_93 : decode cX7_of 93 = .ok (.iload_n 1, 1) := dc_of dtX7_of_0_0_ok (i := 28) rfl
theorem dX7_of_94 : decode cX7_of 94 = .ok (.invokevirtual 377, 3) := dc_of dtX7_of_0_0_ok (i := 29) rfl
theorem dX7_of_97 : decode cX7_of 97 = .ok (.ireturn, 1) := dc_of dtX7_of_0_0_ok (i := 30) rfl
theorem dX7_of_98 : decode cX7_of 98 = .ok (.aload_n 0, 1) := dc_of dtX7_of_0_0_ok (i := 31) rfl
def dtX7_of_99_1 : List (Nat × Instr × Nat) := [(99, .iload_n 1, 1), (100, .invokevirtual 383, 3), (103, .ireturn, 1), (104, .aload_n 0, 1), (105, .iload_n 1, 1), (106, .invokevirtual 380, 3), (109, .ireturn, 1), (110, .aload_n 0, 1), (111, .getfield 13, 3), (114, .iload_n 1, 1), (115, .laload, 1), (116, .lstore_n 3, 1), (117, .lload_n 3, 1), (118, .ldc2_w 115, 3), (121, .lcmp, 1), (122, .ifCond .lt 12, 3), (125, .lload_n 3, 1), (126, .ldc2_w 115, 3), (129, .ldiv, 1), (130, .lstore_n 3, 1), (131, .goto (-14), 3), (134, .lload_n 3, 1), (135, .l2i, 1), (136, .bipush 97, 2), (138, .isub, 1), (139, .iconst 1, 1), (140, .iadd, 1), (141, .ireturn, 1), (142, .aload_n 0, 1), (143, .getfield 13, 3), (146, .iload_n 1, 1), (147, .laload, 1)]
theorem dtX7_of_99_1_ok : dcAll cX7_of dtX7_of_99_1 = true := by decide +kernel
theorem dX7_of_99 : decode cX7_of 99 = .ok (.iload_n 1, 1) := dc_of dtX7_of_99_1_ok (i := 0) rfl
theorem dX7_of_100 : decode cX7_of 100 = .ok (.invokevirtual 383, 3) := dc_of dtX7_of_99_1_ok (i := 1) rfl
theorem dX7_of_103 : decode cX7_of 103 = .ok (.ireturn, 1) := dc_of dtX7_of_99_1_ok (i := 2) rfl
theorem dX7_of_104 : decode cX7_of 104 = .ok (.aload_n 0, 1) := dc_of dtX7_of_99_1_ok (i := 3) rfl
theorem dX7_of_105 : decode cX7_of 105 = .ok (.iload_n 1, 1) := dc_of dtX7_of_99_1_ok (i := 4) rfl
theorem dX7_of_106 : decode cX7_of 106 = .ok (.invokevirtual 380, 3) := dc_of dtX7_of_99_1_ok (i := 5) rfl
theorem dX7_of_109 : decode cX7_of 109 = .ok (.ireturn, 1) := dc_of dtX7_of_99_1_ok (i := 6) rfl
theorem dX7_of_110 : decode cX7_of 110 = .ok (.aload_n 0, 1) := dc_of dtX7_of_99_1_ok (i := 7) rfl
theorem dX7_of_111 : decode cX7_of 111 = .ok (.getfield 13, 3) := dc_of dtX7_of_99_1_ok (i := 8) rfl
theorem dX7_of_114 : decode cX7_of 114 = .ok (.iload_n 1, 1) := dc_of dtX7_of_99_1_ok (i := 9) rfl
theorem dX7_of_115 : decode cX7_of 115 = .ok (.laload, 1) := dc_of dtX7_of_99_1_ok (i := 10) rfl
theorem dX7_of_116 : decode cX7_of 116 = .ok (.lstore_n 3, 1) := dc_of dtX7_of_99_1_ok (i := 11) rfl
theorem dX7_of_117 : decode cX7_of 117 = .ok (.lload_n 3, 1) := dc_of dtX7_of_99_1_ok (i := 12) rfl
theorem dX7_of_118 : decode cX7_of 118 = .ok (.ldc2_w 115, 3) := dc_of dtX7_of_99_1_ok (i := 13) rfl
theorem dX7_of_121 : decode cX7_of 121 = .ok (.lcmp, 1) := dc_of dtX7_of_99_1_ok (i := 14) rfl
theorem dX7_of_122 : decode cX7_of 122 = .ok (.ifCond .lt 12, 3) := dc_of dtX7_of_99_1_ok (i := 15) rfl
theorem dX7_of_125 : decode cX7_of 125 = .ok (.lload_n 3, 1) := dc_of dtX7_of_99_1_ok (i := 16) rfl
theorem dX7_of_126 : decode cX7_of 126 = .ok (.ldc2_w 115, 3) := dc_of dtX7_of_99_1_ok (i := 17) rfl
theorem dX7_of_129 : decode cX7_of 129 = .ok (.ldiv, 1) := dc_of dtX7_of_99_1_ok (i := 18) rfl
theorem dX7_of_130 : decode cX7_of 130 = .ok (.lstore_n 3, 1) := dc_of dtX7_of_99_1_ok (i := 19) rfl
theorem dX7_of_131 : decode cX7_of 131 = .ok (.goto (-14), 3) := dc_of dtX7_of_99_1_ok (i := 20) rfl
theorem dX7_of_134 : decode cX7_of 134 = .ok (.lload_n 3, 1) := dc_of dtX7_of_99_1_ok (i := 21) rfl
theorem dX7_of_135 : decode cX7_of 135 = .ok (.l2i, 1) := dc_of dtX7_of_99_1_ok (i := 22) rfl
theorem dX7_of_136 : decode cX7_of 136 = .ok (.bipush 97, 2) := dc_of dtX7_of_99_1_ok (i := 23) rfl
theorem dX7_of_138 : decode cX7_of 138 = .ok (.isub, 1) := dc_of dtX7_of_99_1_ok (i := 24) rfl
theorem dX7_of_139 : decode cX7_of 139 = .ok (.iconst 1, 1) := dc_of dtX7_of_99_1_ok (i := 25) rfl
theorem dX7_of_140 : decode cX7_of 140 = .ok (.iadd, 1) := dc_of dtX7_of_99_1_ok (i := 26) rfl
theorem dX7_of_141 : decode cX7_of 141 = .ok (.ireturn, 1) := dc_of dtX7_of_99_1_ok (i := 27) rfl
theorem dX7_of_142 : decode cX7_of 142 = .ok (.aload_n 0, 1) := dc_of dtX7_of_99_1_ok (i := 28) rfl
theorem dX7_of_143 : decode cX7_of 143 = .ok (.getfield 13, 3) := dc_of dtX7_of_99_1_ok (i := 29) rfl
theorem dX7_of_146 : decode cX7_of 146 = .ok (.iload_n 1, 1) := dc_of dtX7_of_99_1_ok (i := 30) rfl
theorem dX7_of_147 : decode cX7_of 147 = .ok (.laload, 1) := dc_of dtX7_of_99_1_ok (i := 31) rfl
def dtX7_of_148_2 : List (Nat × Instr × Nat) := [(148, .ldc2_w 115, 3), (151, .lrem, 1), (152, .l2i, 1), (153, .bipush 97, 2), (155, .isub, 1), (156, .iconst 1, 1), (157, .iadd, 1), (158, .ireturn, 1), (159, .iconst (-1), 1), (160, .ireturn, 1)]
theorem dtX7_of_148_2_ok : dcAll cX7_of dtX7_of_148_2 = true := by decide +kernel
theorem dX7_of_148 : decode cX7_of 148 = .ok (.ldc2_w 115, 3) := dc_of dtX7_of_148_2_ok (i := 0) rfl
theorem dX7_of_151 : decode cX7_of 151 = .ok (.lrem, 1) := dc_of dtX7_of_148_2_ok (i := 1) rfl
theorem dX7_of_152 : decode cX7_of 152 = .ok (.l2i, 1) := dc_of dtX7_of_148_2_ok (i := 2) rfl
theorem dX7_of_153 : decode cX7_of 153 = .ok (.bipush 97, 2) := dc_of dtX7_of_148_2_ok (i := 3) rfl
theorem dX7_of_155 : decode cX7_of 155 = .ok (.isub, 1) := dc_of dtX7_of_148_2_ok (i := 4) rfl
theorem dX7_of_156 : decode cX7_of 156 = .ok (.iconst 1, 1) := dc_of dtX7_of_148_2_ok (i := 5) rfl
theorem dX7_of_157 : decode cX7_of 157 = .ok (.iadd, 1) := dc_of dtX7_of_148_2_ok (i := 6) rfl
theorem dX7_of_158 : decode cX7_of 158 = .ok (.ireturn, 1) := dc_of dtX7_of_148_2_ok (i := 7) rfl
theorem dX7_of_159 : decode cX7_of 159 = .ok (.iconst (-1), 1) := dc_of dtX7_of_148_2_ok (i := 8) rfl
theorem dX7_of_160 : decode cX7_of 160 = .ok (.ireturn, 1) := dc_of dtX7_of_148_2_ok (i := 9) rfl
def dtX7_column__0_0 : List (Nat × Instr × Nat) := [(0, .aload_n 0, 1), (1, .aload_n 0, 1), (2, .iload_n 1, 1), (3, .invokevirtual 352, 3), (6, .ifCond .eq 45, 3), (9, .iload_n 2, 1), (10, .iconst 0, 1), (11, .aload_n 0, 1), (12, .iload_n 1, 1), (13, .invokevirtual 301, 3), (16, .iconst 1, 1), (17, .isub, 1), (18, .invokestatic 67, 3), (21, .ifCond .eq 30, 3), (24, .iload_n 3, 1), (25, .iconst 0, 1), (26, .iconst 2, 1), (27, .invokestatic 67, 3), (30, .ifCond .eq 21, 3), (33, .iload_n 3, 1), (34, .iconst 2, 1), (35, .if_icmp .eq 12, 3), (38, .aload_n 0, 1), (39, .iconst 0, 1), (40, .iload_n 1, 1), (41, .invokevirtual 295, 3), (44, .ifCond .le 7, 3), (47, .iconst 0, 1), (48, .goto 4, 3), (51, .iconst 1, 1), (52, .putfield 60, 3), (55, .aload_n 0, 1)]
theorem dtX7_column__0_0_ok : dcAll cX7_column_ dtX7_column__0_0 = true := by decide +kernel
theorem dX7_column__0 : decode cX7_column_ 0 = .ok (.aload_n 0, 1) := dc_of dtX7_column__0_0_ok (i := 0) rfl
theorem dX7_column__1 : decode cX7_column_ 1 = .ok (.aload_n 0, 1) := dc_of dtX7_column__0_0_ok (i := 1) rfl
theorem dX7_column__2 : decode cX7_column_ 2 = .ok (.iload_n 1, 1) := dc_of dtX7_column__0_0_ok (i := 2) rfl
theorem dX7_column__3 : decode cX7_column_ 3 = .ok (.invokevirtual 352, 3) := dc_of dtX7_column__0_0_ok (i := 3) rfl
theorem dX7_column__6 : decode cX7_column_ 6 = .ok (.ifCond .eq 45, 3) := dc_of dtX7_column__0_0_ok (i := 4) rfl
theorem dX7_column__9 : decode cX7_column_ 9 = .ok (.iload_n 2, 1) := dc_of dtX7_column__0_0_ok (i := 5) rfl
theorem dX7_column__10 : decode cX7_column_ 10 = .ok (.iconst 0, 1) := dc_of dtX7_column__0_0_ok (i := 6) rfl
theorem dX7_column__11 : decode cX7_column_ 11 = .ok (.aload_n 0, 1) := dc_of dtX7_column__0_0_ok (i := 7) rfl
theorem dX7_column__12 : decode cX7_column_ 12 = .ok (.iload_n 1, 1) := dc_of dtX7_column__0_0_ok (i := 8) rfl
theorem dX7_column__13 : decode cX7_column_ 13 = .ok (.invokevirtual 301, 3) := dc_of dtX7_column__0_0_ok (i := 9) rfl
theorem dX7_column__16 : decode cX7_column_ 16 = .ok (.iconst 1, 1) := dc_of dtX7_column__0_0_ok (i := 10) rfl
theorem dX7_column__17 : decode cX7_column_ 17 = .ok (.isub, 1) := dc_of dtX7_column__0_0_ok (i := 11) rfl
theorem dX7_column__18 : decode cX7_column_ 18 = .ok (.invokestatic 67, 3) := dc_of dtX7_column__0_0_ok (i := 12) rfl
theorem dX7_column__21 : decode cX7_column_ 21 = .ok (.ifCond .eq 30, 3) := dc_of dtX7_column__0_0_ok (i := 13) rfl
theorem dX7_column__24 : decode cX7_column_ 24 = .ok (.iload_n 3, 1) := dc_of dtX7_column__0_0_ok (i := 14) rfl
theorem dX7_column__25 : decode cX7_column_ 25 = .ok (.iconst 0, 1) := dc_of dtX7_column__0_0_ok (i := 15) rfl
theorem dX7_column__26 : decode cX7_column_ 26 = .ok (.iconst 2, 1) := dc_of dtX7_column__0_0_ok (i := 16) rfl
theorem dX7_column__27 : decode cX7_column_ 27 = .ok (.invokestatic 67, 3) := dc_of dtX7_column__0_0_ok (i := 17) rfl
theorem dX7_column__30 : decode cX7_column_ 30 = .ok (.ifCond .eq 21, 3) := dc_of dtX7_column__0_0_ok (i := 18) rfl
theorem dX7_column__33 : decode cX7_column_ 33 = .ok (.iload_n 3, 1) := dc_of dtX7_column__0_0_ok (i := 19) rfl
theorem dX7_column__34 : decode cX7_column_ 34 = .ok (.iconst 2, 1) := dc_of dtX7_column__0_0_ok (i := 20) rfl
theorem dX7_column__35 : decode cX7_column_ 35 = .ok (.if_icmp .eq 12, 3) := dc_of dtX7_column__0_0_ok (i := 21) rfl
theorem dX7_column__38 : decode cX7_column_ 38 = .ok (.aload_n 0, 1) := dc_of dtX7_column__0_0_ok (i := 22) rfl
theorem dX7_column__39 : decode cX7_column_ 39 = .ok (.iconst 0, 1) := dc_of dtX7_column__0_0_ok (i := 23) rfl
theorem dX7_column__40 : decode cX7_column_ 40 = .ok (.iload_n 1, 1) := dc_of dtX7_column__0_0_ok (i := 24) rfl
theorem dX7_column__41 : decode cX7_column_ 41 = .ok (.invokevirtual 295, 3) := dc_of dtX7_column__0_0_ok (i := 25) rfl
theorem dX7_column__44 : decode cX7_column_ 44 = .ok (.ifCond .le 7, 3) := dc_of dtX7_column__0_0_ok (i := 26) rfl
theorem dX7_column__47 : decode cX7_column_ 47 = .ok (.iconst 0, 1) := dc_of dtX7_column__0_0_ok (i := 27) rfl
theorem dX7_column__48 : decode cX7_column_ 48 = .ok (.goto 4, 3) := dc_of dtX7_column__0_0_ok (i := 28) rfl
theorem dX7_column__51 : decode cX7_column_ 51 = .ok (.iconst 1, 1) := dc_of dtX7_column__0_0_ok (i := 29) rfl
theorem dX7_column__52 : decode cX7_column_ 52 = .ok (.putfield 60, 3) := dc_of dtX7_column__0_0_ok (i := 30) rfl
theorem dX7_column__55 : decode cX7_column_ 55 = .ok (.aload_n 0, 1) := dc_of dtX7_column__0_0_ok (i := 31) rfl
def dtX7_column__56_1 : List (Nat × Instr × Nat) := [(56, .getfield 60, 3), (59, .iconst 1, 1), (60, .if_icmp .ne 5, 3), (63, .iconst 0, 1), (64, .ireturn, 1), (65, .ldc_w 388, 3), (68, .istore 4, 2), (70, .ldc_w 389, 3), (73, .istore 5, 2), (75, .iconst 0, 1), (76, .istore 6, 2), (78, .iconst 0, 1), (79, .istore 7, 2), (81, .iload 7, 2), (83, .aload_n 0, 1), (84, .iconst 0, 1), (85, .iload_n 1, 1), (86, .invokevirtual 295, 3), (89, .if_icmp .ge 105, 3), (92, .aload_n 0, 1), (93, .getfield 24, 3), (96, .iconst 0, 1), (97, .iload_n 1, 1), (98, .iload 7, 2), (100, .invokestatic 279, 3), (103, .iload_n 2, 1), (104, .iadd, 1), (105, .iaload, 1), (106, .istore 8, 2), (108, .iload 8, 2), (110, .iload 4, 2), (112, .if_icmp .ge 7, 3)]
theorem dtX7_column__56_1_ok : dcAll cX7_column_ dtX7_column__56_1 = true := by decide +kernel
theorem dX7_column__56 : decode cX7_column_ 56 = .ok (.getfield 60, 3) := dc_of dtX7_column__56_1_ok (i := 0) rfl
theorem dX7_column__59 : decode cX7_column_ 59 = .ok (.iconst 1, 1) := dc_of dtX7_column__56_1_ok (i := 1) rfl
theorem dX7_column__60 : decode cX7_column_ 60 = .ok (.if_icmp .ne 5, 3) := dc_of dtX7_column__56_1_ok (i := 2) rfl
theorem dX7_column__63 : decode cX7_column_ 63 = .ok (.iconst 0, 1) := dc_of dtX7_column__56_1_ok (i := 3) rfl
theorem dX7_column__64 : decode cX7_column_ 64 = .ok (.ireturn, 1) := dc_of dtX7_column__56_1_ok (i := 4) rfl
theorem dX7_column__65 : decode cX7_column_ 65 = .ok (.ldc_w 388, 3) := dc_of dtX7_column__56_1_ok (i := 5) rfl
theorem dX7_column__68 : decode cX7_column_ 68 = .ok (.istore 4, 2) := dc_of dtX7_column__56_1_ok (i := 6) rfl
theorem dX7_column__70 : decode cX7_column_ 70 = .ok (.ldc_w 389, 3) := dc_of dtX7_column__56_1_ok (i := 7) rfl
theorem dX7_column__73 : decode cX7_column_ 73 = .ok (.istore 5, 2) := dc_of dtX7_column__56_1_ok (i := 8) rfl
theorem dX7_column__75 : decode cX7_column_ 75 = .ok (.iconst 0, 1) := dc_of dtX7_column__56_1_ok (i := 9) rfl
theorem dX7_column__76 : decode cX7_column_ 76 = .ok (.istore 6, 2) := dc_of dtX7_column__56_1_ok (i := 10) rfl
theorem dX7_column__78 : decode cX7_column_ 78 = .ok (.iconst 0, 1) := dc_of dtX7_column__56_1_ok (i := 11) rfl
theorem dX7_column__79 : decode cX7_column_ 79 = .ok (.istore 7, 2) := dc_of dtX7_column__56_1_ok (i := 12) rfl
theorem dX7_column__81 : decode cX7_column_ 81 = .ok (.iload 7, 2) := dc_of dtX7_column__56_1_ok (i := 13) rfl
theorem dX7_column__83 : decode cX7_column_ 83 = .ok (.aload_n 0, 1) := dc_of dtX7_column__56_1_ok (i := 14) rfl
theorem dX7_column__84 : decode cX7_column_ 84 = .ok (.iconst 0, 1) := dc_of dtX7_column__56_1_ok (i := 15) rfl
theorem dX7_column__85 : decode cX7_column_ 85 = .ok (.iload_n 1, 1) := dc_of dtX7_column__56_1_ok (i := 16) rfl
theorem dX7_column__86 : decode cX7_column_ 86 = .ok (.invokevirtual 295, 3) := dc_of dtX7_column__56_1_ok (i := 17) rfl
theorem dX7_column__89 : decode cX7_column_ 89 = .ok (.if_icmp .ge 105, 3) := dc_of dtX7_column__56_1_ok (i := 18) rfl
theorem dX7_column__92 : decode cX7_column_ 92 = .ok (.aload_n 0, 1) := dc_of dtX7_column__56_1_ok (i := 19) rfl
theorem dX7_column__93 : decode cX7_column_ 93 = .ok (.getfield 24, 3) := dc_of dtX7_column__56_1_ok (i := 20) rfl
theorem dX7_column__96 : decode cX7_column_ 96 = .ok (.iconst 0, 1) := dc_of dtX7_column__56_1_ok (i := 21) rfl
theorem dX7_column__97 : decode cX7_column_ 97 = .ok (.iload_n 1, 1) := dc_of dtX7_column__56_1_ok (i := 22) rfl
theorem dX7_column__98 : decode cX7_column_ 98 = .ok (.iload 7, 2) := dc_of dtX7_column__56_1_ok (i := 23) rfl
theorem dX7_column__100 : decode cX7_column_ 100 = .ok (.invokestatic 279, 3) := dc_of dtX7_column__56_1_ok (i := 24) rfl
theorem dX7_column__103 : decode cX7_column_ 103 = .ok (.iload_n 2, 1) := dc_of dtX7_column__56_1_ok (i := 25) rfl
theorem dX7_column__104 : decode cX7_column_ 104 = .ok (.iadd, 1) := dc_of dtX7_column__56_1_ok (i := 26) rfl
theorem dX7_column__105 : decode cX7_column_ 105 = .ok (.iaload, 1) := dc_of dtX7_column__56_1_ok (i := 27) rfl
theorem dX7_column__106 : decode cX7_column_ 106 = .ok (.istore 8, 2) := dc_of dtX7_column__56_1_ok (i := 28) rfl
theorem dX7_column__108 : decode cX7_column_ 108 = .ok (.iload 8, 2) := dc_of dtX7_column__56_1_ok (i := 29) rfl
theorem dX7_column__110 : decode cX7_column_ 110 = .ok (.iload 4, 2) := dc_of dtX7_column__56_1_ok (i := 30) rfl
theorem dX7_column__112 : decode cX7_column_ 112 = .ok (.if_icmp .ge 7, 3) := dc_of dtX7_column__56_1_ok (i := 31) rfl
def dtX7_column__115_2 : List (Nat × Instr × Nat) := [(115, .iload 8, 2), (117, .istore 4, 2), (119, .iload 8, 2), (121, .iload 5, 2), (123, .if_icmp .le 7, 3), (126, .iload 8, 2), (128, .istore 5, 2), (130, .iconst 1, 1), (131, .istore 9, 2), (133, .iconst 0, 1), (134, .istore 10, 2), (136, .iload 10, 2), (138, .iload 7, 2), (140, .if_icmp .ge 40, 3), (143, .iload 9, 2), (145, .ifCond .eq 26, 3), (148, .aload_n 0, 1), (149, .getfield 24, 3), (152, .iconst 0, 1), (153, .iload_n 1, 1), (154, .iload 10, 2), (156, .invokestatic 279, 3), (159, .iload_n 2, 1), (160, .iadd, 1), (161, .iaload, 1), (162, .iload 8, 2), (164, .if_icmp .eq 7, 3), (167, .iconst 1, 1), (168, .goto 4, 3), (171, .iconst 0, 1), (172, .istore 9, 2), (174, .iinc 10 1, 3)]
theorem dtX7_column__115_2_ok : dcAll cX7_column_ dtX7_column__115_2 = true := by decide +kernel
theorem dX7_column__115 : decode cX7_column_ 115 = .ok (.iload 8, 2) := dc_of dtX7_column__115_2_ok (i := 0) rfl
theorem dX7_column__117 : decode cX7_column_ 117 = .ok (.istore 4, 2) := dc_of dtX7_column__115_2_ok (i := 1) rfl
theorem dX7_column__119 : decode cX7_column_ 119 = .ok (.iload 8, 2) := dc_of dtX7_column__115_2_ok (i := 2) rfl
theorem dX7_column__121 : decode cX7_column_ 121 = .ok (.iload 5, 2) := dc_of dtX7_column__115_2_ok (i := 3) rfl
theorem dX7_column__123 : decode cX7_column_ 123 = .ok (.if_icmp .le 7, 3) := dc_of dtX7_column__115_2_ok (i := 4) rfl
theorem dX7_column__126 : decode cX7_column_ 126 = .ok (.iload 8, 2) := dc_of dtX7_column__115_2_ok (i := 5) rfl
theorem dX7_column__128 : decode cX7_column_ 128 = .ok (.istore 5, 2) := dc_of dtX7_column__115_2_ok (i := 6) rfl
theorem dX7_column__130 : decode cX7_column_ 130 = .ok (.iconst 1, 1) := dc_of dtX7_column__115_2_ok (i := 7) rfl
theorem dX7_column__131 : decode cX7_column_ 131 = .ok (.istore 9, 2) := dc_of dtX7_column__115_2_ok (i := 8) rfl
theorem dX7_column__133 : decode cX7_column_ 133 = .ok (.iconst 0, 1) := dc_of dtX7_column__115_2_ok (i := 9) rfl
theorem dX7_column__134 : decode cX7_column_ 134 = .ok (.istore 10, 2) := dc_of dtX7_column__115_2_ok (i := 10) rfl
theorem dX7_column__136 : decode cX7_column_ 136 = .ok (.iload 10, 2) := dc_of dtX7_column__115_2_ok (i := 11) rfl
theorem dX7_column__138 : decode cX7_column_ 138 = .ok (.iload 7, 2) := dc_of dtX7_column__115_2_ok (i := 12) rfl
theorem dX7_column__140 : decode cX7_column_ 140 = .ok (.if_icmp .ge 40, 3) := dc_of dtX7_column__115_2_ok (i := 13) rfl
theorem dX7_column__143 : decode cX7_column_ 143 = .ok (.iload 9, 2) := dc_of dtX7_column__115_2_ok (i := 14) rfl
theorem dX7_column__145 : decode cX7_column_ 145 = .ok (.ifCond .eq 26, 3) := dc_of dtX7_column__115_2_ok (i := 15) rfl
theorem dX7_column__148 : decode cX7_column_ 148 = .ok (.aload_n 0, 1) := dc_of dtX7_column__115_2_ok (i := 16) rfl
theorem dX7_column__149 : decode cX7_column_ 149 = .ok (.getfield 24, 3) := dc_of dtX7_column__115_2_ok (i := 17) rfl
theorem dX7_column__152 : decode cX7_column_ 152 = .ok (.iconst 0, 1) := dc_of dtX7_column__115_2_ok (i := 18) rfl
theorem dX7_column__153 : decode cX7_column_ 153 = .ok (.iload_n 1, 1) := dc_of dtX7_column__115_2_ok (i := 19) rfl
theorem dX7_column__154 : decode cX7_column_ 154 = .ok (.iload 10, 2) := dc_of dtX7_column__115_2_ok (i := 20) rfl
theorem dX7_column__156 : decode cX7_column_ 156 = .ok (.invokestatic 279, 3) := dc_of dtX7_column__115_2_ok (i := 21) rfl
theorem dX7_column__159 : decode cX7_column_ 159 = .ok (.iload_n 2, 1) := dc_of dtX7_column__115_2_ok (i := 22) rfl
theorem dX7_column__160 : decode cX7_column_ 160 = .ok (.iadd, 1) := dc_of dtX7_column__115_2_ok (i := 23) rfl
theorem dX7_column__161 : decode cX7_column_ 161 = .ok (.iaload, 1) := dc_of dtX7_column__115_2_ok (i := 24) rfl
theorem dX7_column__162 : decode cX7_column_ 162 = .ok (.iload 8, 2) := dc_of dtX7_column__115_2_ok (i := 25) rfl
theorem dX7_column__164 : decode cX7_column_ 164 = .ok (.if_icmp .eq 7, 3) := dc_of dtX7_column__115_2_ok (i := 26) rfl
theorem dX7_column__167 : decode cX7_column_ 167 = .ok (.iconst 1, 1) := dc_of dtX7_column__115_2_ok (i := 27) rfl
theorem dX7_column__168 : decode cX7_column_ 168 = .ok (.goto 4, 3) := dc_of dtX7_column__115_2_ok (i := 28) rfl
theorem dX7_column__171 : decode cX7_column_ 171 = .ok (.iconst 0, 1) := dc_of dtX7_column__115_2_ok (i := 29) rfl
theorem dX7_column__172 : decode cX7_column_ 172 = .ok (.istore 9, 2) := dc_of dtX7_column__115_2_ok (i := 30) rfl
theorem dX7_column__174 : decode cX7_column_ 174 = .ok (.iinc 10 1, 3) := dc_of dtX7_column__115_2_ok (i := 31) rfl
def dtX7_column__177_3 : List (Nat × Instr × Nat) := [(177, .goto (-41), 3), (180, .iload 9, 2), (182, .ifCond .eq 6, 3), (185, .iinc 6 1, 3), (188, .iinc 7 1, 3), (191, .goto (-110), 3), (194, .iload_n 3, 1), (195, .ifCond .ne 8, 3), (198, .iload 4, 2), (200, .goto 15, 3), (203, .iload_n 3, 1), (204, .iconst 1, 1), (205, .if_icmp .ne 8, 3), (208, .iload 5, 2), (210, .goto 5, 3), (213, .iload 6, 2), (215, .ireturn, 1)]
theorem dtX7_column__177_3_ok : dcAll cX7_column_ dtX7_column__177_3 = true := by decide +kernel
theorem dX7_column__177 : decode cX7_column_ 177 = .ok (.goto (-41), 3) := dc_of dtX7_column__177_3_ok (i := 0) rfl
theorem dX7_column__180 : decode cX7_column_ 180 = .ok (.iload 9, 2) := dc_of dtX7_column__177_3_ok (i := 1) rfl
theorem dX7_column__182 : decode cX7_column_ 182 = .ok (.ifCond .eq 6, 3) := dc_of dtX7_column__177_3_ok (i := 2) rfl
theorem dX7_column__185 : decode cX7_column_ 185 = .ok (.iinc 6 1, 3) := dc_of dtX7_column__177_3_ok (i := 3) rfl
theorem dX7_column__188 : decode cX7_column_ 188 = .ok (.iinc 7 1, 3) := dc_of dtX7_column__177_3_ok (i := 4) rfl
theorem dX7_column__191 : decode cX7_column_ 191 = .ok (.goto (-110), 3) := dc_of dtX7_column__177_3_ok (i := 5) rfl
theorem dX7_column__194 : decode cX7_column_ 194 = .ok (.iload_n 3, 1) := dc_of dtX7_column__177_3_ok (i := 6) rfl
theorem dX7_column__195 : decode cX7_column_ 195 = .ok (.ifCond .ne 8, 3) := dc_of dtX7_column__177_3_ok (i := 7) rfl
theorem dX7_column__198 : decode cX7_column_ 198 = .ok (.iload 4, 2) := dc_of dtX7_column__177_3_ok (i := 8) rfl
theorem dX7_column__200 : decode cX7_column_ 200 = .ok (.goto 15, 3) := dc_of dtX7_column__177_3_ok (i := 9) rfl
theorem dX7_column__203 : decode cX7_column_ 203 = .ok (.iload_n 3, 1) := dc_of dtX7_column__177_3_ok (i := 10) rfl
theorem dX7_column__204 : decode cX7_column_ 204 = .ok (.iconst 1, 1) := dc_of dtX7_column__177_3_ok (i := 11) rfl
theorem dX7_column__205 : decode cX7_column_ 205 = .ok (.if_icmp .ne 8, 3) := dc_of dtX7_column__177_3_ok (i := 12) rfl
theorem dX7_column__208 : decode cX7_column_ 208 = .ok (.iload 5, 2) := dc_of dtX7_column__177_3_ok (i := 13) rfl
theorem dX7_column__210 : decode cX7_column_ 210 = .ok (.goto 5, 3) := dc_of dtX7_column__177_3_ok (i := 14) rfl
theorem dX7_column__213 : decode cX7_column_ 213 = .ok (.iload 6, 2) := dc_of dtX7_column__177_3_ok (i := 15) rfl
theorem dX7_column__215 : decode cX7_column_ 215 = .ok (.ireturn, 1) := dc_of dtX7_column__177_3_ok (i := 16) rfl
def dtX7_told_0_0 : List (Nat × Instr × Nat) := [(0, .aload_n 0, 1), (1, .iconst 0, 1), (2, .putfield 60, 3), (5, .iconst 0, 1), (6, .istore_n 2, 1), (7, .iload_n 1, 1), (8, .tableswitch 160 0 9 #[56, 61, 71, 76, 81, 86, 91, 121, 126, 155], 56), (64, .aload_n 0, 1), (65, .invokevirtual 343, 3), (68, .ireturn, 1), (69, .aload_n 0, 1), (70, .getfield 64, 3), (73, .aload_n 0, 1), (74, .invokevirtual 343, 3), (77, .isub, 1), (78, .ireturn, 1), (79, .aload_n 0, 1), (80, .getfield 260, 3), (83, .ireturn, 1), (84, .aload_n 0, 1), (85, .getfield 263, 3), (88, .ireturn, 1), (89, .aload_n 0, 1), (90, .getfield 257, 3), (93, .ireturn, 1), (94, .aload_n 0, 1), (95, .getfield 266, 3), (98, .ireturn, 1), (99, .aload_n 0, 1), (100, .invokevirtual 343, 3), (103, .istore_n 3, 1), (104, .iload_n 3, 1)]
theorem dtX7_told_0_0_ok : dcAll cX7_told dtX7_told_0_0 = true := by decide +kernel
theorem dX7_told_0 : decode cX7_told 0 = .ok (.aload_n 0, 1) := dc_of dtX7_told_0_0_ok (i := 0) rfl
theorem dX7_told_1 : decode cX7_told 1 = .ok (.iconst 0, 1) := dc_of dtX7_told_0_0_ok (i := 1) rfl
theorem dX7_told_2 : decode cX7_told 2 = .ok (.putfield 60, 3) := dc_of dtX7_told_0_0_ok (i := 2) rfl
theorem dX7_told_5 : decode cX7_told 5 = .ok (.iconst 0, 1) := dc_of dtX7_told_0_0_ok (i := 3) rfl
theorem dX7_told_6 : decode cX7_told 6 = .ok (.istore_n 2, 1) := dc_of dtX7_told_0_0_ok (i := 4) rfl
theorem dX7_told_7 : decode cX7_told 7 = .ok (.iload_n 1, 1) := dc_of dtX7_told_0_0_ok (i := 5) rfl
theorem dX7_told_8 : decode cX7_told 8 = .ok (.tableswitch 160 0 9 #[56, 61, 71, 76, 81, 86, 91, 121, 126, 155], 56) := dc_of dtX7_told_0_0_ok (i := 6) rfl
theorem dX7_told_64 : decode cX7_told 64 = .ok (.aload_n 0, 1) := dc_of dtX7_told_0_0_ok (i := 7) rfl
theorem dX7_told_65 : decode cX7_told 65 = .ok (.invokevirtual 343, 3) := dc_of dtX7_told_0_0_ok (i := 8) rfl
theorem dX7_told_68 : decode cX7_told 68 = .ok (.ireturn, 1) := dc_of dtX7_told_0_0_ok (i := 9) rfl
theorem dX7_told_69 : decode cX7_told 69 = .ok (.aload_n 0, 1) := dc_of dtX7_told_0_0_ok (i := 10) rfl
theorem dX7_told_70 : decode cX7_told 70 = .ok (.getfield 64, 3) := dc_of dtX7_told_0_0_ok (i := 11) rfl
theorem dX7_told_73 : decode cX7_told 73 = .ok (.aload_n 0, 1) := dc_of dtX7_told_0_0_ok (i := 12) rfl
theorem dX7_told_74 : decode cX7_told 74 = .ok (.invokevirtual 343, 3) := dc_of dtX7_told_0_0_ok (i := 13) rfl
theorem dX7_told_77 : decode cX7_told 77 = .ok (.isub, 1) := dc_of dtX7_told_0_0_ok (i := 14) rfl
theorem dX7_told_78 : decode cX7_told 78 = .ok (.ireturn, 1) := dc_of dtX7_told_0_0_ok (i := 15) rfl
theorem dX7_told_79 : decode cX7_told 79 = .ok (.aload_n 0, 1) := dc_of dtX7_told_0_0_ok (i := 16) rfl
theorem dX7_told_80 : decode cX7_told 80 = .ok (.getfield 260, 3) := dc_of dtX7_told_0_0_ok (i := 17) rfl
theorem dX7_told_83 : decode cX7_told 83 = .ok (.ireturn, 1) := dc_of dtX7_told_0_0_ok (i := 18) rfl
theorem dX7_told_84 : decode cX7_told 84 = .ok (.aload_n 0, 1) := dc_of dtX7_told_0_0_ok (i := 19) rfl
theorem dX7_told_85 : decode cX7_told 85 = .ok (.getfield 263, 3) := dc_of dtX7_told_0_0_ok (i := 20) rfl
theorem dX7_told_88 : decode cX7_told 88 = .ok (.ireturn, 1) := dc_of dtX7_told_0_0_ok (i := 21) rfl
theorem dX7_told_89 : decode cX7_told 89 = .ok (.aload_n 0, 1) := dc_of dtX7_told_0_0_ok (i := 22) rfl
theorem dX7_told_90 : decode cX7_told 90 = .ok (.getfield 257, 3) := dc_of dtX7_told_0_0_ok (i := 23) rfl
theorem dX7_told_93 : decode cX7_told 93 = .ok (.ireturn, 1) := dc_of dtX7_told_0_0_ok (i := 24) rfl
theorem dX7_told_94 : decode cX7_told 94 = .ok (.aload_n 0, 1) := dc_of dtX7_told_0_0_ok (i := 25) rfl
theorem dX7_told_95 : decode cX7_told 95 = .ok (.getfield 266, 3) := dc_of dtX7_told_0_0_ok (i := 26) rfl
theorem dX7_told_98 : decode cX7_told 98 = .ok (.ireturn, 1) := dc_of dtX7_told_0_0_ok (i := 27) rfl
theorem dX7_told_99 : decode cX7_told 99 = .ok (.aload_n 0, 1) := dc_of dtX7_told_0_0_ok (i := 28) rfl
theorem dX7_told_100 : decode cX7_told 100 = .ok (.invokevirtual 343, 3) := dc_of dtX7_told_0_0_ok (i := 29) rfl
theorem dX7_told_103 : decode cX7_told 103 = .ok (.istore_n 3, 1) := dc_of dtX7_told_0_0_ok (i := 30) rfl
theorem dX7_told_104 : decode cX7_told 104 = .ok (.iload_n 3, 1) := dc_of dtX7_told_0_0_ok (i := 31) rfl
def dtX7_told_105_1 : List (Nat × Instr × Nat) := [(105, .aload_n 0, 1), (106, .getfield 64, 3), (109, .if_icmp .ge 18, 3), (112, .iload_n 2, 1), (113, .aload_n 0, 1), (114, .iconst 0, 1), (115, .iload_n 3, 1), (116, .invokevirtual 295, 3), (119, .iadd, 1), (120, .istore_n 2, 1), (121, .iinc 3 1, 3), (124, .goto (-20), 3), (127, .iload_n 2, 1), (128, .ireturn, 1), (129, .aload_n 0, 1), (130, .invokevirtual 361, 3), (133, .ireturn, 1), (134, .aload_n 0, 1), (135, .invokevirtual 343, 3), (138, .istore_n 3, 1), (139, .iload_n 3, 1), (140, .aload_n 0, 1), (141, .getfield 64, 3), (144, .if_icmp .ge 17, 3), (147, .iload_n 2, 1), (148, .aload_n 0, 1), (149, .iload_n 3, 1), (150, .invokevirtual 374, 3), (153, .iadd, 1), (154, .istore_n 2, 1), (155, .iinc 3 1, 3), (158, .goto (-19), 3)]
theorem dtX7_told_105_1_ok : dcAll cX7_told dtX7_told_105_1 = true := by decide +kernel
theorem dX7_told_105 : decode cX7_told 105 = .ok (.aload_n 0, 1) := dc_of dtX7_told_105_1_ok (i := 0) rfl
theorem dX7_told_106 : decode cX7_told 106 = .ok (.getfield 64, 3) := dc_of dtX7_told_105_1_ok (i := 1) rfl
theorem dX7_told_109 : decode cX7_told 109 = .ok (.if_icmp .ge 18, 3) := dc_of dtX7_told_105_1_ok (i := 2) rfl
theorem dX7_told_112 : decode cX7_told 112 = .ok (.iload_n 2, 1) := dc_of dtX7_told_105_1_ok (i := 3) rfl
theorem dX7_told_113 : decode cX7_told 113 = .ok (.aload_n 0, 1) := dc_of dtX7_told_105_1_ok (i := 4) rfl
theorem dX7_told_114 : decode cX7_told 114 = .ok (.iconst 0, 1) := dc_of dtX7_told_105_1_ok (i := 5) rfl
theorem dX7_told_115 : decode cX7_told 115 = .ok (.iload_n 3, 1) := dc_of dtX7_told_105_1_ok (i := 6) rfl
theorem dX7_told_116 : decode cX7_told 116 = .ok (.invokevirtual 295, 3) := dc_of dtX7_told_105_1_ok (i := 7) rfl
theorem dX7_told_119 : decode cX7_told 119 = .ok (.iadd, 1) := dc_of dtX7_told_105_1_ok (i := 8) rfl
theorem dX7_told_120 : decode cX7_told 120 = .ok (.istore_n 2, 1) := dc_of dtX7_told_105_1_ok (i := 9) rfl
theorem dX7_told_121 : decode cX7_told 121 = .ok (.iinc 3 1, 3) := dc_of dtX7_told_105_1_ok (i := 10) rfl
theorem dX7_told_124 : decode cX7_told 124 = .ok (.goto (-20), 3) := dc_of dtX7_told_105_1_ok (i := 11) rfl
theorem dX7_told_127 : decode cX7_told 127 = .ok (.iload_n 2, 1) := dc_of dtX7_told_105_1_ok (i := 12) rfl
theorem dX7_told_128 : decode cX7_told 128 = .ok (.ireturn, 1) := dc_of dtX7_told_105_1_ok (i := 13) rfl
theorem dX7_told_129 : decode cX7_told 129 = .ok (.aload_n 0, 1) := dc_of dtX7_told_105_1_ok (i := 14) rfl
theorem dX7_told_130 : decode cX7_told 130 = .ok (.invokevirtual 361, 3) := dc_of dtX7_told_105_1_ok (i := 15) rfl
theorem dX7_told_133 : decode cX7_told 133 = .ok (.ireturn, 1) := dc_of dtX7_told_105_1_ok (i := 16) rfl
theorem dX7_told_134 : decode cX7_told 134 = .ok (.aload_n 0, 1) := dc_of dtX7_told_105_1_ok (i := 17) rfl
theorem dX7_told_135 : decode cX7_told 135 = .ok (.invokevirtual 343, 3) := dc_of dtX7_told_105_1_ok (i := 18) rfl
theorem dX7_told_138 : decode cX7_told 138 = .ok (.istore_n 3, 1) := dc_of dtX7_told_105_1_ok (i := 19) rfl
theorem dX7_told_139 : decode cX7_told 139 = .ok (.iload_n 3, 1) := dc_of dtX7_told_105_1_ok (i := 20) rfl
theorem dX7_told_140 : decode cX7_told 140 = .ok (.aload_n 0, 1) := dc_of dtX7_told_105_1_ok (i := 21) rfl
theorem dX7_told_141 : decode cX7_told 141 = .ok (.getfield 64, 3) := dc_of dtX7_told_105_1_ok (i := 22) rfl
theorem dX7_told_144 : decode cX7_told 144 = .ok (.if_icmp .ge 17, 3) := dc_of dtX7_told_105_1_ok (i := 23) rfl
theorem dX7_told_147 : decode cX7_told 147 = .ok (.iload_n 2, 1) := dc_of dtX7_told_105_1_ok (i := 24) rfl
theorem dX7_told_148 : decode cX7_told 148 = .ok (.aload_n 0, 1) := dc_of dtX7_told_105_1_ok (i := 25) rfl
theorem dX7_told_149 : decode cX7_told 149 = .ok (.iload_n 3, 1) := dc_of dtX7_told_105_1_ok (i := 26) rfl
theorem dX7_told_150 : decode cX7_told 150 = .ok (.invokevirtual 374, 3) := dc_of dtX7_told_105_1_ok (i := 27) rfl
theorem dX7_told_153 : decode cX7_told 153 = .ok (.iadd, 1) := dc_of dtX7_told_105_1_ok (i := 28) rfl
theorem dX7_told_154 : decode cX7_told 154 = .ok (.istore_n 2, 1) := dc_of dtX7_told_105_1_ok (i := 29) rfl
theorem dX7_told_155 : decode cX7_told 155 = .ok (.iinc 3 1, 3) := dc_of dtX7_told_105_1_ok (i := 30) rfl
theorem dX7_told_158 : decode cX7_told 158 = .ok (.goto (-19), 3) := dc_of dtX7_told_105_1_ok (i := 31) rfl
def dtX7_told_161_2 : List (Nat × Instr × Nat) := [(161, .iload_n 2, 1), (162, .ireturn, 1), (163, .aload_n 0, 1), (164, .getfield 71, 3), (167, .ireturn, 1), (168, .iconst (-1), 1), (169, .ireturn, 1)]
theorem dtX7_told_161_2_ok : dcAll cX7_told dtX7_told_161_2 = true := by decide +kernel
theorem dX7_told_161 : decode cX7_told 161 = .ok (.iload_n 2, 1) := dc_of dtX7_told_161_2_ok (i := 0) rfl
theorem dX7_told_162 : decode cX7_told 162 = .ok (.ireturn, 1) := dc_of dtX7_told_161_2_ok (i := 1) rfl
theorem dX7_told_163 : decode cX7_told 163 = .ok (.aload_n 0, 1) := dc_of dtX7_told_161_2_ok (i := 2) rfl
theorem dX7_told_164 : decode cX7_told 164 = .ok (.getfield 71, 3) := dc_of dtX7_told_161_2_ok (i := 3) rfl
theorem dX7_told_167 : decode cX7_told 167 = .ok (.ireturn, 1) := dc_of dtX7_told_161_2_ok (i := 4) rfl
theorem dX7_told_168 : decode cX7_told 168 = .ok (.iconst (-1), 1) := dc_of dtX7_told_161_2_ok (i := 5) rfl
theorem dX7_told_169 : decode cX7_told 169 = .ok (.ireturn, 1) := dc_of dtX7_told_161_2_ok (i := 6) rfl
def dtJ11_isValidCodePoint_9a6ad_0_0 : List (Nat × Instr × Nat) := [(0, .iload_n 0, 1), (1, .bipush 16, 2), (3, .iushr, 1), (4, .istore_n 1, 1), (5, .iload_n 1, 1), (6, .bipush 17, 2), (8, .if_icmp .ge 7, 3), (11, .iconst 1, 1), (12, .goto 4, 3), (15, .iconst 0, 1), (16, .ireturn, 1)]
theorem dtJ11_isValidCodePoint_9a6ad_0_0_ok : dcAll cJ11_isValidCodePoint_9a6ad dtJ11_isValidCodePoint_9a6ad_0_0 = true := by decide +kernel
theorem dJ11_isValidCodePoint_9a6ad_0 : decode cJ11_isValidCodePoint_9a6ad 0 = .ok (.iload_n 0, 1) := dc_of dtJ11_isValidCodePoint_9a6ad_0_0_ok (i := 0) rfl
theorem dJ11_isValidCodePoint_9a6ad_1 : decode cJ11_isValidCodePoint_9a6ad 1 = .ok (.bipush 16, 2) := dc_of dtJ11_isValidCodePoint_9a6ad_0_0_ok (i := 1) rfl
theorem dJ11_isValidCodePoint_9a6ad_3 : decode cJ11_isValidCodePoint_9a6ad 3 = .ok (.iushr, 1) := dc_of dtJ11_isValidCodePoint_9a6ad_0_0_ok (i := 2) rfl
theorem dJ11_isValidCodePoint_9a6ad_4 : decode cJ11_isValidCodePoint_9a6ad 4 = .ok (.istore_n 1, 1) := dc_of dtJ11_isValidCodePoint_9a6ad_0_0_ok (i := 3) rfl
theorem dJ11_isValidCodePoint_9a6ad_5 : decode cJ11_isValidCodePoint_9a6ad 5 = .ok (.iload_n 1, 1) := dc_of dtJ11_isValidCodePoint_9a6ad_0_0_ok (i := 4) rfl
theorem dJ11_isValidCodePoint_9a6ad_6 : decode cJ11_isValidCodePoint_9a6ad 6 = .ok (.bipush 17, 2) := dc_of dtJ11_isValidCodePoint_9a6ad_0_0_ok (i := 5) rfl
theorem dJ11_isValidCodePoint_9a6ad_8 : decode cJ11_isValidCodePoint_9a6ad 8 = .ok (.if_icmp .ge 7, 3) := dc_of dtJ11_isValidCodePoint_9a6ad_0_0_ok (i := 6) rfl
theorem dJ11_isValidCodePoint_9a6ad_11 : decode cJ11_isValidCodePoint_9a6ad 11 = .ok (.iconst 1, 1) := dc_of dtJ11_isValidCodePoint_9a6ad_0_0_ok (i := 7) rfl
theorem dJ11_isValidCodePoint_9a6ad_12 : decode cJ11_isValidCodePoint_9a6ad 12 = .ok (.goto 4, 3) := dc_of dtJ11_isValidCodePoint_9a6ad_0_0_ok (i := 8) rfl
theorem dJ11_isValidCodePoint_9a6ad_15 : decode cJ11_isValidCodePoint_9a6ad 15 = .ok (.iconst 0, 1) := dc_of dtJ11_isValidCodePoint_9a6ad_0_0_ok (i := 9) rfl
theorem dJ11_isValidCodePoint_9a6ad_16 : decode cJ11_isValidCodePoint_9a6ad 16 = .ok (.ireturn, 1) := dc_of dtJ11_isValidCodePoint_9a6ad_0_0_ok (i := 10) rfl
def dtJ11_highSurrogate_5068e_0_0 : List (Nat × Instr × Nat) := [(0, .iload_n 0, 1), (1, .bipush 10, 2), (3, .iushr, 1), (4, .ldc 110, 2), (6, .iadd, 1), (7, .i2c, 1), (8, .ireturn, 1)]
theorem dtJ11_highSurrogate_5068e_0_0_ok : dcAll cJ11_highSurrogate_5068e dtJ11_highSurrogate_5068e_0_0 = true := by decide +kernel
theorem dJ11_highSurrogate_5068e_0 : decode cJ11_highSurrogate_5068e 0 = .ok (.iload_n 0, 1) := dc_of dtJ11_highSurrogate_5068e_0_0_ok (i := 0) rfl
theorem dJ11_highSurrogate_5068e_1 : decode cJ11_highSurrogate_5068e 1 = .ok (.bipush 10, 2) := dc_of dtJ11_highSurrogate_5068e_0_0_ok (i := 1) rfl
theorem dJ11_highSurrogate_5068e_3 : decode cJ11_highSurrogate_5068e 3 = .ok (.iushr, 1) := dc_of dtJ11_highSurrogate_5068e_0_0_ok (i := 2) rfl
theorem dJ11_highSurrogate_5068e_4 : decode cJ11_highSurrogate_5068e 4 = .ok (.ldc 110, 2) := dc_of dtJ11_highSurrogate_5068e_0_0_ok (i := 3) rfl
theorem dJ11_highSurrogate_5068e_6 : decode cJ11_highSurrogate_5068e 6 = .ok (.iadd, 1) := dc_of dtJ11_highSurrogate_5068e_0_0_ok (i := 4) rfl
theorem dJ11_highSurrogate_5068e_7 : decode cJ11_highSurrogate_5068e 7 = .ok (.i2c, 1) := dc_of dtJ11_highSurrogate_5068e_0_0_ok (i := 5) rfl
theorem dJ11_highSurrogate_5068e_8 : decode cJ11_highSurrogate_5068e 8 = .ok (.ireturn, 1) := dc_of dtJ11_highSurrogate_5068e_0_0_ok (i := 6) rfl
def dtJ11_lowSurrogate_5068e_0_0 : List (Nat × Instr × Nat) := [(0, .iload_n 0, 1), (1, .sipush 1023, 3), (4, .iand, 1), (5, .ldc 76, 2), (7, .iadd, 1), (8, .i2c, 1), (9, .ireturn, 1)]
theorem dtJ11_lowSurrogate_5068e_0_0_ok : dcAll cJ11_lowSurrogate_5068e dtJ11_lowSurrogate_5068e_0_0 = true := by decide +kernel
theorem dJ11_lowSurrogate_5068e_0 : decode cJ11_lowSurrogate_5068e 0 = .ok (.iload_n 0, 1) := dc_of dtJ11_lowSurrogate_5068e_0_0_ok (i := 0) rfl
theorem dJ11_lowSurrogate_5068e_1 : decode cJ11_lowSurrogate_5068e 1 = .ok (.sipush 1023, 3) := dc_of dtJ11_lowSurrogate_5068e_0_0_ok (i := 1) rfl
theorem dJ11_lowSurrogate_5068e_4 : decode cJ11_lowSurrogate_5068e 4 = .ok (.iand, 1) := dc_of dtJ11_lowSurrogate_5068e_0_0_ok (i := 2) rfl
theorem dJ11_lowSurrogate_5068e_5 : decode cJ11_lowSurrogate_5068e 5 = .ok (.ldc 76, 2) := dc_of dtJ11_lowSurrogate_5068e_0_0_ok (i := 3) rfl
theorem dJ11_lowSurrogate_5068e_7 : decode cJ11_lowSurrogate_5068e 7 = .ok (.iadd, 1) := dc_of dtJ11_lowSurrogate_5068e_0_0_ok (i := 4) rfl
theorem dJ11_lowSurrogate_5068e_8 : decode cJ11_lowSurrogate_5068e 8 = .ok (.i2c, 1) := dc_of dtJ11_lowSurrogate_5068e_0_0_ok (i := 5) rfl
theorem dJ11_lowSurrogate_5068e_9 : decode cJ11_lowSurrogate_5068e 9 = .ok (.ireturn, 1) := dc_of dtJ11_lowSurrogate_5068e_0_0_ok (i := 6) rfl
def dtJ9_max_7cf53_0_0 : List (Nat × Instr × Nat) := [(0, .iload_n 0, 1), (1, .iload_n 1, 1), (2, .if_icmp .lt 7, 3), (5, .iload_n 0, 1), (6, .goto 4, 3), (9, .iload_n 1, 1), (10, .ireturn, 1)]
theorem dtJ9_max_7cf53_0_0_ok : dcAll cJ9_max_7cf53 dtJ9_max_7cf53_0_0 = true := by decide +kernel
theorem dJ9_max_7cf53_0 : decode cJ9_max_7cf53 0 = .ok (.iload_n 0, 1) := dc_of dtJ9_max_7cf53_0_0_ok (i := 0) rfl
theorem dJ9_max_7cf53_1 : decode cJ9_max_7cf53 1 = .ok (.iload_n 1, 1) := dc_of dtJ9_max_7cf53_0_0_ok (i := 1) rfl
theorem dJ9_max_7cf53_2 : decode cJ9_max_7cf53 2 = .ok (.if_icmp .lt 7, 3) := dc_of dtJ9_max_7cf53_0_0_ok (i := 2) rfl
theorem dJ9_max_7cf53_5 : decode cJ9_max_7cf53 5 = .ok (.iload_n 0, 1) := dc_of dtJ9_max_7cf53_0_0_ok (i := 3) rfl
theorem dJ9_max_7cf53_6 : decode cJ9_max_7cf53 6 = .ok (.goto 4, 3) := dc_of dtJ9_max_7cf53_0_0_ok (i := 4) rfl
theorem dJ9_max_7cf53_9 : decode cJ9_max_7cf53 9 = .ok (.iload_n 1, 1) := dc_of dtJ9_max_7cf53_0_0_ok (i := 5) rfl
theorem dJ9_max_7cf53_10 : decode cJ9_max_7cf53 10 = .ok (.ireturn, 1) := dc_of dtJ9_max_7cf53_0_0_ok (i := 6) rfl
def dtJ9_min_7cf53_0_0 : List (Nat × Instr × Nat) := [(0, .iload_n 0, 1), (1, .iload_n 1, 1), (2, .if_icmp .gt 7, 3), (5, .iload_n 0, 1), (6, .goto 4, 3), (9, .iload_n 1, 1), (10, .ireturn, 1)]
theorem dtJ9_min_7cf53_0_0_ok : dcAll cJ9_min_7cf53 dtJ9_min_7cf53_0_0 = true := by decide +kernel
theorem dJ9_min_7cf53_0 : decode cJ9_min_7cf53 0 = .ok (.iload_n 0, 1) := dc_of dtJ9_min_7cf53_0_0_ok (i := 0) rfl
theorem dJ9_min_7cf53_1 : decode cJ9_min_7cf53 1 = .ok (.iload_n 1, 1) := dc_of dtJ9_min_7cf53_0_0_ok (i := 1) rfl
theorem dJ9_min_7cf53_2 : decode cJ9_min_7cf53 2 = .ok (.if_icmp .gt 7, 3) := dc_of dtJ9_min_7cf53_0_0_ok (i := 2) rfl
theorem dJ9_min_7cf53_5 : decode cJ9_min_7cf53 5 = .ok (.iload_n 0, 1) := dc_of dtJ9_min_7cf53_0_0_ok (i := 3) rfl
theorem dJ9_min_7cf53_6 : decode cJ9_min_7cf53 6 = .ok (.goto 4, 3) := dc_of dtJ9_min_7cf53_0_0_ok (i := 4) rfl
theorem dJ9_min_7cf53_9 : decode cJ9_min_7cf53 9 = .ok (.iload_n 1, 1) := dc_of dtJ9_min_7cf53_0_0_ok (i := 5) rfl
theorem dJ9_min_7cf53_10 : decode cJ9_min_7cf53 10 = .ok (.ireturn, 1) := dc_of dtJ9_min_7cf53_0_0_ok (i := 6) rfl
set_option maxRecDepth 20000 in
theorem gw_wsJ0_coder_7d493 : wsJ0_coder_7d493.all goodWord = true := by decide +kernel
set_option maxRecDepth 20000 in
theorem ggJ0_length_8abf5_J0_coder_7d493 : GoodIn wsJ0_length_8abf5 wsJ0_coder_7d493 := goodIn_r _ [6, 7, 8] rfl gw_wsJ0_coder_7d493
set_option maxRecDepth 20000 in
theorem gJ0_length_8abf5_J0_coder_7d493 : GoodIn wsJ0_length_8abf5 (wsV RJ0 335 RJ0 yJ0_coder_7d493 wsJ0_coder_7d493) := goodIn_app (goodIn_of _ (by decide +kernel)) ggJ0_length_8abf5_J0_coder_7d493
def dtJ0_length_8abf5_0_0 : List (Nat × Instr × Nat) := [(0, .aload_n 0, 1), (1, .getfield 9, 3), (4, .arraylength, 1), (5, .aload_n 0, 1), (6, .invokevirtual 335, 3), (9, .ishr, 1), (10, .ireturn, 1)]
theorem dtJ0_length_8abf5_0_0_ok : dcAll cJ0_length_8abf5 dtJ0_length_8abf5_0_0 = true := by decide +kernel
theorem dJ0_length_8abf5_0 : decode cJ0_length_8abf5 0 = .ok (.aload_n 0, 1) := dc_of dtJ0_length_8abf5_0_0_ok (i := 0) rfl
theorem dJ0_length_8abf5_1 : decode cJ0_length_8abf5 1 = .ok (.getfield 9, 3) := dc_of dtJ0_length_8abf5_0_0_ok (i := 1) rfl
theorem dJ0_length_8abf5_4 : decode cJ0_length_8abf5 4 = .ok (.arraylength, 1) := dc_of dtJ0_length_8abf5_0_0_ok (i := 2) rfl
theorem dJ0_length_8abf5_5 : decode cJ0_length_8abf5 5 = .ok (.aload_n 0, 1) := dc_of dtJ0_length_8abf5_0_0_ok (i := 3) rfl
theorem dJ0_length_8abf5_6 : decode cJ0_length_8abf5 6 = .ok (.invokevirtual 335, 3) := dc_of dtJ0_length_8abf5_0_0_ok (i := 4) rfl
theorem dJ0_length_8abf5_9 : decode cJ0_length_8abf5 9 = .ok (.ishr, 1) := dc_of dtJ0_length_8abf5_0_0_ok (i := 5) rfl
theorem dJ0_length_8abf5_10 : decode cJ0_length_8abf5 10 = .ok (.ireturn, 1) := dc_of dtJ0_length_8abf5_0_0_ok (i := 6) rfl
set_option maxRecDepth 20000 in
theorem gw_wsJ0_isLatin1_aae02 : wsJ0_isLatin1_aae02.all goodWord = true := by decide +kernel
set_option maxRecDepth 20000 in
theorem ggJ0_charAt_5068e_J0_isLatin1_aae02 : GoodIn wsJ0_charAt_5068e wsJ0_isLatin1_aae02 := goodIn_r _ [6, 7, 8] rfl gw_wsJ0_isLatin1_aae02
set_option maxRecDepth 20000 in
theorem gJ0_charAt_5068e_J0_isLatin1_aae02 : GoodIn wsJ0_charAt_5068e (wsV RJ0 492 RJ0 yJ0_isLatin1_aae02 wsJ0_isLatin1_aae02) := goodIn_app (goodIn_of _ (by decide +kernel)) ggJ0_charAt_5068e_J0_isLatin1_aae02
set_option maxRecDepth 20000 in
theorem gw_wsJ1_charAt_3b067 : wsJ1_charAt_3b067.all goodWord = true := by decide +kernel
set_option maxRecDepth 20000 in
theorem ggJ0_charAt_5068e_J1_charAt_3b067 : GoodIn wsJ0_charAt_5068e wsJ1_charAt_3b067 := goodIn_r _ [12, 13, 14, 5, 15, 16, 17, 18, 19, 20] rfl gw_wsJ1_charAt_3b067
set_option maxRecDepth 20000 in
theorem gJ0_charAt_5068e_J1_charAt_3b067 : GoodIn wsJ0_charAt_5068e (va_wsS RJ0 495 yJ1_charAt_3b067 wsJ1_charAt_3b067) := goodIn_app (goodIn_of _ (by decide +kernel)) ggJ0_charAt_5068e_J1_charAt_3b067
set_option maxRecDepth 20000 in
set_option maxRecDepth 20000 in
def dtJ0_charAt_5068e_0_0 : List (Nat × Instr × Nat) := [(0, .aload_n 0, 1), (1, .invokevirtual 492, 3), (4, .ifCond .eq 12, 3), (7, .aload_n 0, 1), (8, .getfield 9, 3), (11, .iload_n 1, 1), (12, .invokestatic 495, 3), (15, .ireturn, 1), (16, .aload_n 0, 1), (17, .getfield 9, 3), (20, .iload_n 1, 1), (21, .invokestatic 498, 3), (24, .ireturn, 1)]
theorem dtJ0_charAt_5068e_0_0_ok : dcAll cJ0_charAt_5068e dtJ0_charAt_5068e_0_0 = true := by decide +kernel
theorem dJ0_charAt_5068e_0 : decode cJ0_charAt_5068e 0 = .ok (.aload_n 0, 1) := dc_of dtJ0_charAt_5068e_0_0_ok (i := 0) rfl
theorem dJ0_charAt_5068e_1 : decode cJ0_charAt_5068e 1 = .ok (.invokevirtual 492, 3) := dc_of dtJ0_charAt_5068e_0_0_ok (i := 1) rfl
theorem dJ0_charAt_5068e_4 : decode cJ0_charAt_5068e 4 = .ok (.ifCond .eq 12, 3) := dc_of dtJ0_charAt_5068e_0_0_ok (i := 2) rfl
theorem dJ0_charAt_5068e_7 : decode cJ0_charAt_5068e 7 = .ok (.aload_n 0, 1) := dc_of dtJ0_charAt_5068e_0_0_ok (i := 3) rfl
theorem dJ0_charAt_5068e_8 : decode cJ0_charAt_5068e 8 = .ok (.getfield 9, 3) := dc_of dtJ0_charAt_5068e_0_0_ok (i := 4) rfl
theorem dJ0_charAt_5068e_11 : decode cJ0_charAt_5068e 11 = .ok (.iload_n 1, 1) := dc_of dtJ0_charAt_5068e_0_0_ok (i := 5) rfl
theorem dJ0_charAt_5068e_12 : decode cJ0_charAt_5068e 12 = .ok (.invokestatic 495, 3) := dc_of dtJ0_charAt_5068e_0_0_ok (i := 6) rfl
theorem dJ0_charAt_5068e_15 : decode cJ0_charAt_5068e 15 = .ok (.ireturn, 1) := dc_of dtJ0_charAt_5068e_0_0_ok (i := 7) rfl
theorem dJ0_charAt_5068e_16 : decode cJ0_charAt_5068e 16 = .ok (.aload_n 0, 1) := dc_of dtJ0_charAt_5068e_0_0_ok (i := 8) rfl
theorem dJ0_charAt_5068e_17 : decode cJ0_charAt_5068e 17 = .ok (.getfield 9, 3) := dc_of dtJ0_charAt_5068e_0_0_ok (i := 9) rfl
theorem dJ0_charAt_5068e_20 : decode cJ0_charAt_5068e 20 = .ok (.iload_n 1, 1) := dc_of dtJ0_charAt_5068e_0_0_ok (i := 10) rfl
theorem dJ0_charAt_5068e_21 : decode cJ0_charAt_5068e 21 = .ok (.invokestatic 498, 3) := dc_of dtJ0_charAt_5068e_0_0_ok (i := 11) rfl
theorem dJ0_charAt_5068e_24 : decode cJ0_charAt_5068e 24 = .ok (.ireturn, 1) := dc_of dtJ0_charAt_5068e_0_0_ok (i := 12) rfl
set_option maxRecDepth 20000 in
theorem gw_wsJ0_indexOf_7cf53 : wsJ0_indexOf_7cf53.all goodWord = true := by decide +kernel
set_option maxRecDepth 20000 in
theorem ggJ0_indexOf_0f7a4_J0_indexOf_7cf53 : GoodIn wsJ0_indexOf_0f7a4 wsJ0_indexOf_7cf53 := goodIn_r _ [5, 6, 7, 8, 9, 4, 10, 11, 12, 13, 14, 15, 16, 17, 18, 19, 20, 21, 22, 23, 24, 25, 26, 27, 28, 29, 30, 31, 32, 33, 34, 35, 36, 37, 38, 39, 40, 41, 42, 43, 44, 45, 46, 47, 48, 49, 50, 51, 52, 53, 54, 55, 56, 57, 58, 59, 60, 61, 62, 63, 64, 65, 66, 67, 68, 69, 70, 71, 72, 73, 74, 75, 76, 77, 78, 79, 80, 81, 82, 83, 84, 85] rfl gw_wsJ0_indexOf_7cf53
set_option maxRecDepth 20000 in
theorem gJ0_indexOf_0f7a4_J0_indexOf_7cf53 : GoodIn wsJ0_indexOf_0f7a4 (wsV RJ0 633 RJ0 yJ0_indexOf_7cf53 wsJ0_indexOf_7cf53) := goodIn_app (goodIn_of _ (by decide +kernel)) ggJ0_indexOf_0f7a4_J0_indexOf_7cf53
def dtJ0_indexOf_0f7a4_0_0 : List (Nat × Instr × Nat) := [(0, .aload_n 0, 1), (1, .iload_n 1, 1), (2, .iconst 0, 1), (3, .invokevirtual 633, 3), (6, .ireturn, 1)]
theorem dtJ0_indexOf_0f7a4_0_0_ok : dcAll cJ0_indexOf_0f7a4 dtJ0_indexOf_0f7a4_0_0 = true := by decide +kernel
theorem dJ0_indexOf_0f7a4_0 : decode cJ0_indexOf_0f7a4 0 = .ok (.aload_n 0, 1) := dc_of dtJ0_indexOf_0f7a4_0_0_ok (i := 0) rfl
theorem dJ0_indexOf_0f7a4_1 : decode cJ0_indexOf_0f7a4 1 = .ok (.iload_n 1, 1) := dc_of dtJ0_indexOf_0f7a4_0_0_ok (i := 1) rfl
theorem dJ0_indexOf_0f7a4_2 : decode cJ0_indexOf_0f7a4 2 = .ok (.iconst 0, 1) := dc_of dtJ0_indexOf_0f7a4_0_0_ok (i := 2) rfl
theorem dJ0_indexOf_0f7a4_3 : decode cJ0_indexOf_0f7a4 3 = .ok (.invokevirtual 633, 3) := dc_of dtJ0_indexOf_0f7a4_0_0_ok (i := 3) rfl
theorem dJ0_indexOf_0f7a4_6 : decode cJ0_indexOf_0f7a4 6 = .ok (.ireturn, 1) := dc_of dtJ0_indexOf_0f7a4_0_0_ok (i := 4) rfl
set_option maxRecDepth 20000 in
theorem ggJ0_indexOf_7cf53_J0_isLatin1_aae02 : GoodIn wsJ0_indexOf_7cf53 wsJ0_isLatin1_aae02 := goodIn_r _ [6, 7, 8] rfl gw_wsJ0_isLatin1_aae02
set_option maxRecDepth 20000 in
theorem gJ0_indexOf_7cf53_J0_isLatin1_aae02 : GoodIn wsJ0_indexOf_7cf53 (wsV RJ0 492 RJ0 yJ0_isLatin1_aae02 wsJ0_isLatin1_aae02) := goodIn_app (goodIn_of _ (by decide +kernel)) ggJ0_indexOf_7cf53_J0_isLatin1_aae02
set_option maxRecDepth 20000 in
theorem ggJ0_indexOf_7cf53_J0_length_8abf5 : GoodIn wsJ0_indexOf_7cf53 wsJ0_length_8abf5 := goodIn_r _ [12, 1, 13, 14, 15, 5, 16, 7, 8] rfl gw_wsJ0_length_8abf5
set_option maxRecDepth 20000 in
theorem gJ0_indexOf_7cf53_J0_length_8abf5 : GoodIn wsJ0_indexOf_7cf53 (wsV RJ0 505 RJ0 yJ0_length_8abf5 wsJ0_length_8abf5) := goodIn_app (goodIn_of _ (by decide +kernel)) ggJ0_indexOf_7cf53_J0_length_8abf5
set_option maxRecDepth 20000 in
theorem gw_wsJ1_indexOf_4cfef : wsJ1_indexOf_4cfef.all goodWord = true := by decide +kernel
set_option maxRecDepth 20000 in
theorem ggJ0_indexOf_7cf53_J1_indexOf_4cfef : GoodIn wsJ0_indexOf_7cf53 wsJ1_indexOf_4cfef := goodIn_r _ [20, 21, 22, 23, 24, 25, 26, 27, 28, 29, 19, 30, 31, 32, 33] rfl gw_wsJ1_indexOf_4cfef
set_option maxRecDepth 20000 in
theorem gJ0_indexOf_7cf53_J1_indexOf_4cfef : GoodIn wsJ0_indexOf_7cf53 (va_wsS RJ0 637 yJ1_indexOf_4cfef wsJ1_indexOf_4cfef) := goodIn_app (goodIn_of _ (by decide +kernel)) ggJ0_indexOf_7cf53_J1_indexOf_4cfef
set_option maxRecDepth 20000 in
set_option maxRecDepth 20000 in
def dtJ0_indexOf_7cf53_0_0 : List (Nat × Instr × Nat) := [(0, .aload_n 0, 1), (1, .invokevirtual 492, 3), (4, .ifCond .eq 19, 3), (7, .aload_n 0, 1), (8, .getfield 9, 3), (11, .iload_n 1, 1), (12, .iload_n 2, 1), (13, .aload_n 0, 1), (14, .invokevirtual 505, 3), (17, .invokestatic 637, 3), (20, .goto 16, 3), (23, .aload_n 0, 1), (24, .getfield 9, 3), (27, .iload_n 1, 1), (28, .iload_n 2, 1), (29, .aload_n 0, 1), (30, .invokevirtual 505, 3), (33, .invokestatic 640, 3), (36, .ireturn, 1)]
theorem dtJ0_indexOf_7cf53_0_0_ok : dcAll cJ0_indexOf_7cf53 dtJ0_indexOf_7cf53_0_0 = true := by decide +kernel
theorem dJ0_indexOf_7cf53_0 : decode cJ0_indexOf_7cf53 0 = .ok (.aload_n 0, 1) := dc_of dtJ0_indexOf_7cf53_0_0_ok (i := 0) rfl
theorem dJ0_indexOf_7cf53_1 : decode cJ0_indexOf_7cf53 1 = .ok (.invokevirtual 492, 3) := dc_of dtJ0_indexOf_7cf53_0_0_ok (i := 1) rfl
theorem dJ0_indexOf_7cf53_4 : decode cJ0_indexOf_7cf53 4 = .ok (.ifCond .eq 19, 3) := dc_of dtJ0_indexOf_7cf53_0_0_ok (i := 2) rfl
theorem dJ0_indexOf_7cf53_7 : decode cJ0_indexOf_7cf53 7 = .ok (.aload_n 0, 1) := dc_of dtJ0_indexOf_7cf53_0_0_ok (i := 3) rfl
theorem dJ0_indexOf_7cf53_8 : decode cJ0_indexOf_7cf53 8 = .ok (.getfield 9, 3) := dc_of dtJ0_indexOf_7cf53_0_0_ok (i := 4) rfl
theorem dJ0_indexOf_7cf53_11 : decode cJ0_indexOf_7cf53 11 = .ok (.iload_n 1, 1) := dc_of dtJ0_indexOf_7cf53_0_0_ok (i := 5) rfl
theorem dJ0_indexOf_7cf53_12 : decode cJ0_indexOf_7cf53 12 = .ok (.iload_n 2, 1) := dc_of dtJ0_indexOf_7cf53_0_0_ok (i := 6) rfl
theorem dJ0_indexOf_7cf53_13 : decode cJ0_indexOf_7cf53 13 = .ok (.aload_n 0, 1) := dc_of dtJ0_indexOf_7cf53_0_0_ok (i := 7) rfl
theorem dJ0_indexOf_7cf53_14 : decode cJ0_indexOf_7cf53 14 = .ok (.invokevirtual 505, 3) := dc_of dtJ0_indexOf_7cf53_0_0_ok (i := 8) rfl
theorem dJ0_indexOf_7cf53_17 : decode cJ0_indexOf_7cf53 17 = .ok (.invokestatic 637, 3) := dc_of dtJ0_indexOf_7cf53_0_0_ok (i := 9) rfl
theorem dJ0_indexOf_7cf53_20 : decode cJ0_indexOf_7cf53 20 = .ok (.goto 16, 3) := dc_of dtJ0_indexOf_7cf53_0_0_ok (i := 10) rfl
theorem dJ0_indexOf_7cf53_23 : decode cJ0_indexOf_7cf53 23 = .ok (.aload_n 0, 1) := dc_of dtJ0_indexOf_7cf53_0_0_ok (i := 11) rfl
theorem dJ0_indexOf_7cf53_24 : decode cJ0_indexOf_7cf53 24 = .ok (.getfield 9, 3) := dc_of dtJ0_indexOf_7cf53_0_0_ok (i := 12) rfl
theorem dJ0_indexOf_7cf53_27 : decode cJ0_indexOf_7cf53 27 = .ok (.iload_n 1, 1) := dc_of dtJ0_indexOf_7cf53_0_0_ok (i := 13) rfl
theorem dJ0_indexOf_7cf53_28 : decode cJ0_indexOf_7cf53 28 = .ok (.iload_n 2, 1) := dc_of dtJ0_indexOf_7cf53_0_0_ok (i := 14) rfl
theorem dJ0_indexOf_7cf53_29 : decode cJ0_indexOf_7cf53 29 = .ok (.aload_n 0, 1) := dc_of dtJ0_indexOf_7cf53_0_0_ok (i := 15) rfl
theorem dJ0_indexOf_7cf53_30 : decode cJ0_indexOf_7cf53 30 = .ok (.invokevirtual 505, 3) := dc_of dtJ0_indexOf_7cf53_0_0_ok (i := 16) rfl
theorem dJ0_indexOf_7cf53_33 : decode cJ0_indexOf_7cf53 33 = .ok (.invokestatic 640, 3) := dc_of dtJ0_indexOf_7cf53_0_0_ok (i := 17) rfl
theorem dJ0_indexOf_7cf53_36 : decode cJ0_indexOf_7cf53 36 = .ok (.ireturn, 1) := dc_of dtJ0_indexOf_7cf53_0_0_ok (i := 18) rfl
def dtJ0_coder_7d493_0_0 : List (Nat × Instr × Nat) := [(0, .getstatic 38, 3), (3, .ifCond .eq 10, 3), (6, .aload_n 0, 1), (7, .getfield 15, 3), (10, .goto 4, 3), (13, .iconst 1, 1), (14, .ireturn, 1)]
theorem dtJ0_coder_7d493_0_0_ok : dcAll cJ0_coder_7d493 dtJ0_coder_7d493_0_0 = true := by decide +kernel
theorem dJ0_coder_7d493_0 : decode cJ0_coder_7d493 0 = .ok (.getstatic 38, 3) := dc_of dtJ0_coder_7d493_0_0_ok (i := 0) rfl
theorem dJ0_coder_7d493_3 : decode cJ0_coder_7d493 3 = .ok (.ifCond .eq 10, 3) := dc_of dtJ0_coder_7d493_0_0_ok (i := 1) rfl
theorem dJ0_coder_7d493_6 : decode cJ0_coder_7d493 6 = .ok (.aload_n 0, 1) := dc_of dtJ0_coder_7d493_0_0_ok (i := 2) rfl
theorem dJ0_coder_7d493_7 : decode cJ0_coder_7d493 7 = .ok (.getfield 15, 3) := dc_of dtJ0_coder_7d493_0_0_ok (i := 3) rfl
theorem dJ0_coder_7d493_10 : decode cJ0_coder_7d493 10 = .ok (.goto 4, 3) := dc_of dtJ0_coder_7d493_0_0_ok (i := 4) rfl
theorem dJ0_coder_7d493_13 : decode cJ0_coder_7d493 13 = .ok (.iconst 1, 1) := dc_of dtJ0_coder_7d493_0_0_ok (i := 5) rfl
theorem dJ0_coder_7d493_14 : decode cJ0_coder_7d493 14 = .ok (.ireturn, 1) := dc_of dtJ0_coder_7d493_0_0_ok (i := 6) rfl
def dtJ0_isLatin1_aae02_0_0 : List (Nat × Instr × Nat) := [(0, .getstatic 38, 3), (3, .ifCond .eq 14, 3), (6, .aload_n 0, 1), (7, .getfield 15, 3), (10, .ifCond .ne 7, 3), (13, .iconst 1, 1), (14, .goto 4, 3), (17, .iconst 0, 1), (18, .ireturn, 1)]
theorem dtJ0_isLatin1_aae02_0_0_ok : dcAll cJ0_isLatin1_aae02 dtJ0_isLatin1_aae02_0_0 = true := by decide +kernel
theorem dJ0_isLatin1_aae02_0 : decode cJ0_isLatin1_aae02 0 = .ok (.getstatic 38, 3) := dc_of dtJ0_isLatin1_aae02_0_0_ok (i := 0) rfl
theorem dJ0_isLatin1_aae02_3 : decode cJ0_isLatin1_aae02 3 = .ok (.ifCond .eq 14, 3) := dc_of dtJ0_isLatin1_aae02_0_0_ok (i := 1) rfl
theorem dJ0_isLatin1_aae02_6 : decode cJ0_isLatin1_aae02 6 = .ok (.aload_n 0, 1) := dc_of dtJ0_isLatin1_aae02_0_0_ok (i := 2) rfl
theorem dJ0_isLatin1_aae02_7 : decode cJ0_isLatin1_aae02 7 = .ok (.getfield 15, 3) := dc_of dtJ0_isLatin1_aae02_0_0_ok (i := 3) rfl
theorem dJ0_isLatin1_aae02_10 : decode cJ0_isLatin1_aae02 10 = .ok (.ifCond .ne 7, 3) := dc_of dtJ0_isLatin1_aae02_0_0_ok (i := 4) rfl
theorem dJ0_isLatin1_aae02_13 : decode cJ0_isLatin1_aae02 13 = .ok (.iconst 1, 1) := dc_of dtJ0_isLatin1_aae02_0_0_ok (i := 5) rfl
theorem dJ0_isLatin1_aae02_14 : decode cJ0_isLatin1_aae02 14 = .ok (.goto 4, 3) := dc_of dtJ0_isLatin1_aae02_0_0_ok (i := 6) rfl
theorem dJ0_isLatin1_aae02_17 : decode cJ0_isLatin1_aae02 17 = .ok (.iconst 0, 1) := dc_of dtJ0_isLatin1_aae02_0_0_ok (i := 7) rfl
theorem dJ0_isLatin1_aae02_18 : decode cJ0_isLatin1_aae02 18 = .ok (.ireturn, 1) := dc_of dtJ0_isLatin1_aae02_0_0_ok (i := 8) rfl
set_option maxRecDepth 20000 in
theorem gw_wsJ3_checkIndex_8e157 : wsJ3_checkIndex_8e157.all goodWord = true := by decide +kernel
set_option maxRecDepth 20000 in
theorem ggJ0_checkIndex_df160_J3_checkIndex_8e157 : GoodIn wsJ0_checkIndex_df160 wsJ3_checkIndex_8e157 := goodIn_r _ [5] rfl gw_wsJ3_checkIndex_8e157
set_option maxRecDepth 20000 in
theorem gJ0_checkIndex_df160_J3_checkIndex_8e157 : GoodIn wsJ0_checkIndex_df160 (va_wsS RJ0 1059 yJ3_checkIndex_8e157 wsJ3_checkIndex_8e157) := goodIn_app (goodIn_of _ (by decide +kernel)) ggJ0_checkIndex_df160_J3_checkIndex_8e157
def dtJ0_checkIndex_df160_0_0 : List (Nat × Instr × Nat) := [(0, .iload_n 0, 1), (1, .iload_n 1, 1), (2, .getstatic 1053, 3), (5, .invokestatic 1059, 3), (8, .pop, 1), (9, .return_, 1)]
theorem dtJ0_checkIndex_df160_0_0_ok : dcAll cJ0_checkIndex_df160 dtJ0_checkIndex_df160_0_0 = true := by decide +kernel
theorem dJ0_checkIndex_df160_0 : decode cJ0_checkIndex_df160 0 = .ok (.iload_n 0, 1) := dc_of dtJ0_checkIndex_df160_0_0_ok (i := 0) rfl
theorem dJ0_checkIndex_df160_1 : decode cJ0_checkIndex_df160 1 = .ok (.iload_n 1, 1) := dc_of dtJ0_checkIndex_df160_0_0_ok (i := 1) rfl
theorem dJ0_checkIndex_df160_2 : decode cJ0_checkIndex_df160 2 = .ok (.getstatic 1053, 3) := dc_of dtJ0_checkIndex_df160_0_0_ok (i := 2) rfl
theorem dJ0_checkIndex_df160_5 : decode cJ0_checkIndex_df160 5 = .ok (.invokestatic 1059, 3) := dc_of dtJ0_checkIndex_df160_0_0_ok (i := 3) rfl
theorem dJ0_checkIndex_df160_8 : decode cJ0_checkIndex_df160 8 = .ok (.pop, 1) := dc_of dtJ0_checkIndex_df160_0_0_ok (i := 4) rfl
theorem dJ0_checkIndex_df160_9 : decode cJ0_checkIndex_df160 9 = .ok (.return_, 1) := dc_of dtJ0_checkIndex_df160_0_0_ok (i := 5) rfl
set_option maxRecDepth 20000 in
set_option maxRecDepth 20000 in
def dtJ0_checkBoundsBeginEnd_23922_0_0 : List (Nat × Instr × Nat) := [(0, .iload_n 0, 1), (1, .iload_n 1, 1), (2, .iload_n 2, 1), (3, .getstatic 1053, 3), (6, .invokestatic 1062, 3), (9, .pop, 1), (10, .return_, 1)]
theorem dtJ0_checkBoundsBeginEnd_23922_0_0_ok : dcAll cJ0_checkBoundsBeginEnd_23922 dtJ0_checkBoundsBeginEnd_23922_0_0 = true := by decide +kernel
theorem dJ0_checkBoundsBeginEnd_23922_0 : decode cJ0_checkBoundsBeginEnd_23922 0 = .ok (.iload_n 0, 1) := dc_of dtJ0_checkBoundsBeginEnd_23922_0_0_ok (i := 0) rfl
theorem dJ0_checkBoundsBeginEnd_23922_1 : decode cJ0_checkBoundsBeginEnd_23922 1 = .ok (.iload_n 1, 1) := dc_of dtJ0_checkBoundsBeginEnd_23922_0_0_ok (i := 1) rfl
theorem dJ0_checkBoundsBeginEnd_23922_2 : decode cJ0_checkBoundsBeginEnd_23922 2 = .ok (.iload_n 2, 1) := dc_of dtJ0_checkBoundsBeginEnd_23922_0_0_ok (i := 2) rfl
theorem dJ0_checkBoundsBeginEnd_23922_3 : decode cJ0_checkBoundsBeginEnd_23922 3 = .ok (.getstatic 1053, 3) := dc_of dtJ0_checkBoundsBeginEnd_23922_0_0_ok (i := 3) rfl
theorem dJ0_checkBoundsBeginEnd_23922_6 : decode cJ0_checkBoundsBeginEnd_23922 6 = .ok (.invokestatic 1062, 3) := dc_of dtJ0_checkBoundsBeginEnd_23922_0_0_ok (i := 4) rfl
theorem dJ0_checkBoundsBeginEnd_23922_9 : decode cJ0_checkBoundsBeginEnd_23922 9 = .ok (.pop, 1) := dc_of dtJ0_checkBoundsBeginEnd_23922_0_0_ok (i := 5) rfl
theorem dJ0_checkBoundsBeginEnd_23922_10 : decode cJ0_checkBoundsBeginEnd_23922 10 = .ok (.return_, 1) := dc_of dtJ0_checkBoundsBeginEnd_23922_0_0_ok (i := 6) rfl
set_option maxRecDepth 20000 in
theorem gw_wsJ0_checkIndex_df160 : wsJ0_checkIndex_df160.all goodWord = true := by decide +kernel
set_option maxRecDepth 20000 in
theorem ggJ1_charAt_3b067_J0_checkIndex_df160 : GoodIn wsJ1_charAt_3b067 wsJ0_checkIndex_df160 := goodIn_r _ [4, 5, 6, 7, 8, 9] rfl gw_wsJ0_checkIndex_df160
set_option maxRecDepth 20000 in
theorem gJ1_charAt_3b067_J0_checkIndex_df160 : GoodIn wsJ1_charAt_3b067 (va_wsS RJ1 9 yJ0_checkIndex_df160 wsJ0_checkIndex_df160) := goodIn_app (goodIn_of _ (by decide +kernel)) ggJ1_charAt_3b067_J0_checkIndex_df160
def dtJ1_charAt_3b067_0_0 : List (Nat × Instr × Nat) := [(0, .iload_n 1, 1), (1, .aload_n 0, 1), (2, .arraylength, 1), (3, .invokestatic 9, 3), (6, .aload_n 0, 1), (7, .iload_n 1, 1), (8, .baload, 1), (9, .sipush 255, 3), (12, .iand, 1), (13, .i2c, 1), (14, .ireturn, 1)]
theorem dtJ1_charAt_3b067_0_0_ok : dcAll cJ1_charAt_3b067 dtJ1_charAt_3b067_0_0 = true := by decide +kernel
theorem dJ1_charAt_3b067_0 : decode cJ1_charAt_3b067 0 = .ok (.iload_n 1, 1) := dc_of dtJ1_charAt_3b067_0_0_ok (i := 0) rfl
theorem dJ1_charAt_3b067_1 : decode cJ1_charAt_3b067 1 = .ok (.aload_n 0, 1) := dc_of dtJ1_charAt_3b067_0_0_ok (i := 1) rfl
theorem dJ1_charAt_3b067_2 : decode cJ1_charAt_3b067 2 = .ok (.arraylength, 1) := dc_of dtJ1_charAt_3b067_0_0_ok (i := 2) rfl
theorem dJ1_charAt_3b067_3 : decode cJ1_charAt_3b067 3 = .ok (.invokestatic 9, 3) := dc_of dtJ1_charAt_3b067_0_0_ok (i := 3) rfl
theorem dJ1_charAt_3b067_6 : decode cJ1_charAt_3b067 6 = .ok (.aload_n 0, 1) := dc_of dtJ1_charAt_3b067_0_0_ok (i := 4) rfl
theorem dJ1_charAt_3b067_7 : decode cJ1_charAt_3b067 7 = .ok (.iload_n 1, 1) := dc_of dtJ1_charAt_3b067_0_0_ok (i := 5) rfl
theorem dJ1_charAt_3b067_8 : decode cJ1_charAt_3b067 8 = .ok (.baload, 1) := dc_of dtJ1_charAt_3b067_0_0_ok (i := 6) rfl
theorem dJ1_charAt_3b067_9 : decode cJ1_charAt_3b067 9 = .ok (.sipush 255, 3) := dc_of dtJ1_charAt_3b067_0_0_ok (i := 7) rfl
theorem dJ1_charAt_3b067_12 : decode cJ1_charAt_3b067 12 = .ok (.iand, 1) := dc_of dtJ1_charAt_3b067_0_0_ok (i := 8) rfl
theorem dJ1_charAt_3b067_13 : decode cJ1_charAt_3b067 13 = .ok (.i2c, 1) := dc_of dtJ1_charAt_3b067_0_0_ok (i := 9) rfl
theorem dJ1_charAt_3b067_14 : decode cJ1_charAt_3b067 14 = .ok (.ireturn, 1) := dc_of dtJ1_charAt_3b067_0_0_ok (i := 10) rfl
def dtJ1_canEncode_9a6ad_0_0 : List (Nat × Instr × Nat) := [(0, .iload_n 0, 1), (1, .ifCond .lt 14, 3), (4, .iload_n 0, 1), (5, .sipush 255, 3), (8, .if_icmp .gt 7, 3), (11, .iconst 1, 1), (12, .goto 4, 3), (15, .iconst 0, 1), (16, .ireturn, 1)]
theorem dtJ1_canEncode_9a6ad_0_0_ok : dcAll cJ1_canEncode_9a6ad dtJ1_canEncode_9a6ad_0_0 = true := by decide +kernel
theorem dJ1_canEncode_9a6ad_0 : decode cJ1_canEncode_9a6ad 0 = .ok (.iload_n 0, 1) := dc_of dtJ1_canEncode_9a6ad_0_0_ok (i := 0) rfl
theorem dJ1_canEncode_9a6ad_1 : decode cJ1_canEncode_9a6ad 1 = .ok (.ifCond .lt 14, 3) := dc_of dtJ1_canEncode_9a6ad_0_0_ok (i := 1) rfl
theorem dJ1_canEncode_9a6ad_4 : decode cJ1_canEncode_9a6ad 4 = .ok (.iload_n 0, 1) := dc_of dtJ1_canEncode_9a6ad_0_0_ok (i := 2) rfl
theorem dJ1_canEncode_9a6ad_5 : decode cJ1_canEncode_9a6ad 5 = .ok (.sipush 255, 3) := dc_of dtJ1_canEncode_9a6ad_0_0_ok (i := 3) rfl
theorem dJ1_canEncode_9a6ad_8 : decode cJ1_canEncode_9a6ad 8 = .ok (.if_icmp .gt 7, 3) := dc_of dtJ1_canEncode_9a6ad_0_0_ok (i := 4) rfl
theorem dJ1_canEncode_9a6ad_11 : decode cJ1_canEncode_9a6ad 11 = .ok (.iconst 1, 1) := dc_of dtJ1_canEncode_9a6ad_0_0_ok (i := 5) rfl
theorem dJ1_canEncode_9a6ad_12 : decode cJ1_canEncode_9a6ad 12 = .ok (.goto 4, 3) := dc_of dtJ1_canEncode_9a6ad_0_0_ok (i := 6) rfl
theorem dJ1_canEncode_9a6ad_15 : decode cJ1_canEncode_9a6ad 15 = .ok (.iconst 0, 1) := dc_of dtJ1_canEncode_9a6ad_0_0_ok (i := 7) rfl
theorem dJ1_canEncode_9a6ad_16 : decode cJ1_canEncode_9a6ad 16 = .ok (.ireturn, 1) := dc_of dtJ1_canEncode_9a6ad_0_0_ok (i := 8) rfl
set_option maxRecDepth 20000 in
theorem gw_wsJ1_canEncode_9a6ad : wsJ1_canEncode_9a6ad.all goodWord = true := by decide +kernel
set_option maxRecDepth 20000 in
theorem ggJ1_indexOf_4cfef_J1_canEncode_9a6ad : GoodIn wsJ1_indexOf_4cfef wsJ1_canEncode_9a6ad := goodIn_r _ [11] rfl gw_wsJ1_canEncode_9a6ad
set_option maxRecDepth 20000 in
theorem gJ1_indexOf_4cfef_J1_canEncode_9a6ad : GoodIn wsJ1_indexOf_4cfef (va_wsS RJ1 88 yJ1_canEncode_9a6ad wsJ1_canEncode_9a6ad) := goodIn_app (goodIn_of _ (by decide +kernel)) ggJ1_indexOf_4cfef_J1_canEncode_9a6ad
set_option maxRecDepth 20000 in
theorem gw_wsJ1_indexOfChar_4cfef : wsJ1_indexOfChar_4cfef.all goodWord = true := by decide +kernel
set_option maxRecDepth 20000 in
theorem ggJ1_indexOf_4cfef_J1_indexOfChar_4cfef : GoodIn wsJ1_indexOf_4cfef wsJ1_indexOfChar_4cfef := goodIn_r _ [14] rfl gw_wsJ1_indexOfChar_4cfef
set_option maxRecDepth 20000 in
theorem gJ1_indexOf_4cfef_J1_indexOfChar_4cfef : GoodIn wsJ1_indexOf_4cfef (va_wsS RJ1 95 yJ1_indexOfChar_4cfef wsJ1_indexOfChar_4cfef) := goodIn_app (goodIn_of _ (by decide +kernel)) ggJ1_indexOf_4cfef_J1_indexOfChar_4cfef
def dtJ1_indexOf_4cfef_0_0 : List (Nat × Instr × Nat) := [(0, .iload_n 1, 1), (1, .invokestatic 88, 3), (4, .ifCond .ne 5, 3), (7, .iconst (-1), 1), (8, .ireturn, 1), (9, .iload_n 2, 1), (10, .iconst 0, 1), (11, .invokestatic 92, 3), (14, .istore_n 2, 1), (15, .iload_n 3, 1), (16, .aload_n 0, 1), (17, .arraylength, 1), (18, .invokestatic 38, 3), (21, .istore_n 3, 1), (22, .iload_n 2, 1), (23, .iload_n 3, 1), (24, .if_icmp .lt 5, 3), (27, .iconst (-1), 1), (28, .ireturn, 1), (29, .aload_n 0, 1), (30, .iload_n 1, 1), (31, .iload_n 2, 1), (32, .iload_n 3, 1), (33, .invokestatic 95, 3), (36, .ireturn, 1)]
theorem dtJ1_indexOf_4cfef_0_0_ok : dcAll cJ1_indexOf_4cfef dtJ1_indexOf_4cfef_0_0 = true := by decide +kernel
theorem dJ1_indexOf_4cfef_0 : decode cJ1_indexOf_4cfef 0 = .ok (.iload_n 1, 1) := dc_of dtJ1_indexOf_4cfef_0_0_ok (i := 0) rfl
theorem dJ1_indexOf_4cfef_1 : decode cJ1_indexOf_4cfef 1 = .ok (.invokestatic 88, 3) := dc_of dtJ1_indexOf_4cfef_0_0_ok (i := 1) rfl
theorem dJ1_indexOf_4cfef_4 : decode cJ1_indexOf_4cfef 4 = .ok (.ifCond .ne 5, 3) := dc_of dtJ1_indexOf_4cfef_0_0_ok (i := 2) rfl
theorem dJ1_indexOf_4cfef_7 : decode cJ1_indexOf_4cfef 7 = .ok (.iconst (-1), 1) := dc_of dtJ1_indexOf_4cfef_0_0_ok (i := 3) rfl
theorem dJ1_indexOf_4cfef_8 : decode cJ1_indexOf_4cfef 8 = .ok (.ireturn, 1) := dc_of dtJ1_indexOf_4cfef_0_0_ok (i := 4) rfl
theorem dJ1_indexOf_4cfef_9 : decode cJ1_indexOf_4cfef 9 = .ok (.iload_n 2, 1) := dc_of dtJ1_indexOf_4cfef_0_0_ok (i := 5) rfl
theorem dJ1_indexOf_4cfef_10 : decode cJ1_indexOf_4cfef 10 = .ok (.iconst 0, 1) := dc_of dtJ1_indexOf_4cfef_0_0_ok (i := 6) rfl
theorem dJ1_indexOf_4cfef_11 : decode cJ1_indexOf_4cfef 11 = .ok (.invokestatic 92, 3) := dc_of dtJ1_indexOf_4cfef_0_0_ok (i := 7) rfl
theorem dJ1_indexOf_4cfef_14 : decode cJ1_indexOf_4cfef 14 = .ok (.istore_n 2, 1) := dc_of dtJ1_indexOf_4cfef_0_0_ok (i := 8) rfl
theorem dJ1_indexOf_4cfef_15 : decode cJ1_indexOf_4cfef 15 = .ok (.iload_n 3, 1) := dc_of dtJ1_indexOf_4cfef_0_0_ok (i := 9) rfl
theorem dJ1_indexOf_4cfef_16 : decode cJ1_indexOf_4cfef 16 = .ok (.aload_n 0, 1) := dc_of dtJ1_indexOf_4cfef_0_0_ok (i := 10) rfl
theorem dJ1_indexOf_4cfef_17 : decode cJ1_indexOf_4cfef 17 = .ok (.arraylength, 1) := dc_of dtJ1_indexOf_4cfef_0_0_ok (i := 11) rfl
theorem dJ1_indexOf_4cfef_18 : decode cJ1_indexOf_4cfef 18 = .ok (.invokestatic 38, 3) := dc_of dtJ1_indexOf_4cfef_0_0_ok (i := 12) rfl
theorem dJ1_indexOf_4cfef_21 : decode cJ1_indexOf_4cfef 21 = .ok (.istore_n 3, 1) := dc_of dtJ1_indexOf_4cfef_0_0_ok (i := 13) rfl
theorem dJ1_indexOf_4cfef_22 : decode cJ1_indexOf_4cfef 22 = .ok (.iload_n 2, 1) := dc_of dtJ1_indexOf_4cfef_0_0_ok (i := 14) rfl
theorem dJ1_indexOf_4cfef_23 : decode cJ1_indexOf_4cfef 23 = .ok (.iload_n 3, 1) := dc_of dtJ1_indexOf_4cfef_0_0_ok (i := 15) rfl
theorem dJ1_indexOf_4cfef_24 : decode cJ1_indexOf_4cfef 24 = .ok (.if_icmp .lt 5, 3) := dc_of dtJ1_indexOf_4cfef_0_0_ok (i := 16) rfl
theorem dJ1_indexOf_4cfef_27 : decode cJ1_indexOf_4cfef 27 = .ok (.iconst (-1), 1) := dc_of dtJ1_indexOf_4cfef_0_0_ok (i := 17) rfl
theorem dJ1_indexOf_4cfef_28 : decode cJ1_indexOf_4cfef 28 = .ok (.ireturn, 1) := dc_of dtJ1_indexOf_4cfef_0_0_ok (i := 18) rfl
theorem dJ1_indexOf_4cfef_29 : decode cJ1_indexOf_4cfef 29 = .ok (.aload_n 0, 1) := dc_of dtJ1_indexOf_4cfef_0_0_ok (i := 19) rfl
theorem dJ1_indexOf_4cfef_30 : decode cJ1_indexOf_4cfef 30 = .ok (.iload_n 1, 1) := dc_of dtJ1_indexOf_4cfef_0_0_ok (i := 20) rfl
theorem dJ1_indexOf_4cfef_31 : decode cJ1_indexOf_4cfef 31 = .ok (.iload_n 2, 1) := dc_of dtJ1_indexOf_4cfef_0_0_ok (i := 21) rfl
theorem dJ1_indexOf_4cfef_32 : decode cJ1_indexOf_4cfef 32 = .ok (.iload_n 3, 1) := dc_of dtJ1_indexOf_4cfef_0_0_ok (i := 22) rfl
theorem dJ1_indexOf_4cfef_33 : decode cJ1_indexOf_4cfef 33 = .ok (.invokestatic 95, 3) := dc_of dtJ1_indexOf_4cfef_0_0_ok (i := 23) rfl
theorem dJ1_indexOf_4cfef_36 : decode cJ1_indexOf_4cfef 36 = .ok (.ireturn, 1) := dc_of dtJ1_indexOf_4cfef_0_0_ok (i := 24) rfl
def dtJ1_indexOfChar_4cfef_0_0 : List (Nat × Instr × Nat) := [(0, .iload_n 1, 1), (1, .i2b, 1), (2, .istore 4, 2), (4, .iload_n 2, 1), (5, .istore 5, 2), (7, .iload 5, 2), (9, .iload_n 3, 1), (10, .if_icmp .ge 21, 3), (13, .aload_n 0, 1), (14, .iload 5, 2), (16, .baload, 1), (17, .iload 4, 2), (19, .if_icmp .ne 6, 3), (22, .iload 5, 2), (24, .ireturn, 1), (25, .iinc 5 1, 3), (28, .goto (-21), 3), (31, .iconst (-1), 1), (32, .ireturn, 1)]
theorem dtJ1_indexOfChar_4cfef_0_0_ok : dcAll cJ1_indexOfChar_4cfef dtJ1_indexOfChar_4cfef_0_0 = true := by decide +kernel
theorem dJ1_indexOfChar_4cfef_0 : decode cJ1_indexOfChar_4cfef 0 = .ok (.iload_n 1, 1) := dc_of dtJ1_indexOfChar_4cfef_0_0_ok (i := 0) rfl
theorem dJ1_indexOfChar_4cfef_1 : decode cJ1_indexOfChar_4cfef 1 = .ok (.i2b, 1) := dc_of dtJ1_indexOfChar_4cfef_0_0_ok (i := 1) rfl
theorem dJ1_indexOfChar_4cfef_2 : decode cJ1_indexOfChar_4cfef 2 = .ok (.istore 4, 2) := dc_of dtJ1_indexOfChar_4cfef_0_0_ok (i := 2) rfl
theorem dJ1_indexOfChar_4cfef_4 : decode cJ1_indexOfChar_4cfef 4 = .ok (.iload_n 2, 1) := dc_of dtJ1_indexOfChar_4cfef_0_0_ok (i := 3) rfl
theorem dJ1_indexOfChar_4cfef_5 : decode cJ1_indexOfChar_4cfef 5 = .ok (.istore 5, 2) := dc_of dtJ1_indexOfChar_4cfef_0_0_ok (i := 4) rfl
theorem dJ1_indexOfChar_4cfef_7 : decode cJ1_indexOfChar_4cfef 7 = .ok (.iload 5, 2) := dc_of dtJ1_indexOfChar_4cfef_0_0_ok (i := 5) rfl
theorem dJ1_indexOfChar_4cfef_9 : decode cJ1_indexOfChar_4cfef 9 = .ok (.iload_n 3, 1) := dc_of dtJ1_indexOfChar_4cfef_0_0_ok (i := 6) rfl
theorem dJ1_indexOfChar_4cfef_10 : decode cJ1_indexOfChar_4cfef 10 = .ok (.if_icmp .ge 21, 3) := dc_of dtJ1_indexOfChar_4cfef_0_0_ok (i := 7) rfl
theorem dJ1_indexOfChar_4cfef_13 : decode cJ1_indexOfChar_4cfef 13 = .ok (.aload_n 0, 1) := dc_of dtJ1_indexOfChar_4cfef_0_0_ok (i := 8) rfl
theorem dJ1_indexOfChar_4cfef_14 : decode cJ1_indexOfChar_4cfef 14 = .ok (.iload 5, 2) := dc_of dtJ1_indexOfChar_4cfef_0_0_ok (i := 9) rfl
theorem dJ1_indexOfChar_4cfef_16 : decode cJ1_indexOfChar_4cfef 16 = .ok (.baload, 1) := dc_of dtJ1_indexOfChar_4cfef_0_0_ok (i := 10) rfl
theorem dJ1_indexOfChar_4cfef_17 : decode cJ1_indexOfChar_4cfef 17 = .ok (.iload 4, 2) := dc_of dtJ1_indexOfChar_4cfef_0_0_ok (i := 11) rfl
theorem dJ1_indexOfChar_4cfef_19 : decode cJ1_indexOfChar_4cfef 19 = .ok (.if_icmp .ne 6, 3) := dc_of dtJ1_indexOfChar_4cfef_0_0_ok (i := 12) rfl
theorem dJ1_indexOfChar_4cfef_22 : decode cJ1_indexOfChar_4cfef 22 = .ok (.iload 5, 2) := dc_of dtJ1_indexOfChar_4cfef_0_0_ok (i := 13) rfl
theorem dJ1_indexOfChar_4cfef_24 : decode cJ1_indexOfChar_4cfef 24 = .ok (.ireturn, 1) := dc_of dtJ1_indexOfChar_4cfef_0_0_ok (i := 14) rfl
theorem dJ1_indexOfChar_4cfef_25 : decode cJ1_indexOfChar_4cfef 25 = .ok (.iinc 5 1, 3) := dc_of dtJ1_indexOfChar_4cfef_0_0_ok (i := 15) rfl
theorem dJ1_indexOfChar_4cfef_28 : decode cJ1_indexOfChar_4cfef 28 = .ok (.goto (-21), 3) := dc_of dtJ1_indexOfChar_4cfef_0_0_ok (i := 16) rfl
theorem dJ1_indexOfChar_4cfef_31 : decode cJ1_indexOfChar_4cfef 31 = .ok (.iconst (-1), 1) := dc_of dtJ1_indexOfChar_4cfef_0_0_ok (i := 17) rfl
theorem dJ1_indexOfChar_4cfef_32 : decode cJ1_indexOfChar_4cfef 32 = .ok (.ireturn, 1) := dc_of dtJ1_indexOfChar_4cfef_0_0_ok (i := 18) rfl
set_option maxRecDepth 20000 in
set_option maxRecDepth 20000 in
def dtJ2_getChar_3b067_0_0 : List (Nat × Instr × Nat) := [(0, .getstatic 44, 3), (3, .ifCond .ne 25, 3), (6, .iload_n 1, 1), (7, .ifCond .lt 11, 3), (10, .iload_n 1, 1), (11, .aload_n 0, 1), (12, .invokestatic 48, 3), (15, .if_icmp .lt 13, 3), (18, .new 52, 3), (21, .dup, 1), (22, .ldc 54, 2), (24, .invokespecial 56, 3), (27, .athrow, 1), (28, .iload_n 1, 1), (29, .iconst 1, 1), (30, .ishl, 1), (31, .istore_n 1, 1), (32, .aload_n 0, 1), (33, .iload_n 1, 1), (34, .iinc 1 1, 3), (37, .baload, 1), (38, .sipush 255, 3), (41, .iand, 1), (42, .getstatic 59, 3), (45, .ishl, 1), (46, .aload_n 0, 1), (47, .iload_n 1, 1), (48, .baload, 1), (49, .sipush 255, 3), (52, .iand, 1), (53, .getstatic 63, 3), (56, .ishl, 1)]
theorem dtJ2_getChar_3b067_0_0_ok : dcAll cJ2_getChar_3b067 dtJ2_getChar_3b067_0_0 = true := by decide +kernel
theorem dJ2_getChar_3b067_0 : decode cJ2_getChar_3b067 0 = .ok (.getstatic 44, 3) := dc_of dtJ2_getChar_3b067_0_0_ok (i := 0) rfl
theorem dJ2_getChar_3b067_3 : decode cJ2_getChar_3b067 3 = .ok (.ifCond .ne 25, 3) := dc_of dtJ2_getChar_3b067_0_0_ok (i := 1) rfl
theorem dJ2_getChar_3b067_6 : decode cJ2_getChar_3b067 6 = .ok (.iload_n 1, 1) := dc_of dtJ2_getChar_3b067_0_0_ok (i := 2) rfl
theorem dJ2_getChar_3b067_7 : decode cJ2_getChar_3b067 7 = .ok (.ifCond .lt 11, 3) := dc_of dtJ2_getChar_3b067_0_0_ok (i := 3) rfl
theorem dJ2_getChar_3b067_10 : decode cJ2_getChar_3b067 10 = .ok (.iload_n 1, 1) := dc_of dtJ2_getChar_3b067_0_0_ok (i := 4) rfl
theorem dJ2_getChar_3b067_11 : decode cJ2_getChar_3b067 11 = .ok (.aload_n 0, 1) := dc_of dtJ2_getChar_3b067_0_0_ok (i := 5) rfl
theorem dJ2_getChar_3b067_12 : decode cJ2_getChar_3b067 12 = .ok (.invokestatic 48, 3) := dc_of dtJ2_getChar_3b067_0_0_ok (i := 6) rfl
theorem dJ2_getChar_3b067_15 : decode cJ2_getChar_3b067 15 = .ok (.if_icmp .lt 13, 3) := dc_of dtJ2_getChar_3b067_0_0_ok (i := 7) rfl
theorem dJ2_getChar_3b067_18 : decode cJ2_getChar_3b067 18 = .ok (.new 52, 3) := dc_of dtJ2_getChar_3b067_0_0_ok (i := 8) rfl
theorem dJ2_getChar_3b067_21 : decode cJ2_getChar_3b067 21 = .ok (.dup, 1) := dc_of dtJ2_getChar_3b067_0_0_ok (i := 9) rfl
theorem dJ2_getChar_3b067_22 : decode cJ2_getChar_3b067 22 = .ok (.ldc 54, 2) := dc_of dtJ2_getChar_3b067_0_0_ok (i := 10) rfl
theorem dJ2_getChar_3b067_24 : decode cJ2_getChar_3b067 24 = .ok (.invokespecial 56, 3) := dc_of dtJ2_getChar_3b067_0_0_ok (i := 11) rfl
theorem dJ2_getChar_3b067_27 : decode cJ2_getChar_3b067 27 = .ok (.athrow, 1) := dc_of dtJ2_getChar_3b067_0_0_ok (i := 12) rfl
theorem dJ2_getChar_3b067_28 : decode cJ2_getChar_3b067 28 = .ok (.iload_n 1, 1) := dc_of dtJ2_getChar_3b067_0_0_ok (i := 13) rfl
theorem dJ2_getChar_3b067_29 : decode cJ2_getChar_3b067 29 = .ok (.iconst 1, 1) := dc_of dtJ2_getChar_3b067_0_0_ok (i := 14) rfl
theorem dJ2_getChar_3b067_30 : decode cJ2_getChar_3b067 30 = .ok (.ishl, 1) := dc_of dtJ2_getChar_3b067_0_0_ok (i := 15) rfl
theorem dJ2_getChar_3b067_31 : decode cJ2_getChar_3b067 31 = .ok (.istore_n 1, 1) := dc_of dtJ2_getChar_3b067_0_0_ok (i := 16) rfl
theorem dJ2_getChar_3b067_32 : decode cJ2_getChar_3b067 32 = .ok (.aload_n 0, 1) := dc_of dtJ2_getChar_3b067_0_0_ok (i := 17) rfl
theorem dJ2_getChar_3b067_33 : decode cJ2_getChar_3b067 33 = .ok (.iload_n 1, 1) := dc_of dtJ2_getChar_3b067_0_0_ok (i := 18) rfl
theorem dJ2_getChar_3b067_34 : decode cJ2_getChar_3b067 34 = .ok (.iinc 1 1, 3) := dc_of dtJ2_getChar_3b067_0_0_ok (i := 19) rfl
theorem dJ2_getChar_3b067_37 : decode cJ2_getChar_3b067 37 = .ok (.baload, 1) := dc_of dtJ2_getChar_3b067_0_0_ok (i := 20) rfl
theorem dJ2_getChar_3b067_38 : decode cJ2_getChar_3b067 38 = .ok (.sipush 255, 3) := dc_of dtJ2_getChar_3b067_0_0_ok (i := 21) rfl
theorem dJ2_getChar_3b067_41 : decode cJ2_getChar_3b067 41 = .ok (.iand, 1) := dc_of dtJ2_getChar_3b067_0_0_ok (i := 22) rfl
theorem dJ2_getChar_3b067_42 : decode cJ2_getChar_3b067 42 = .ok (.getstatic 59, 3) := dc_of dtJ2_getChar_3b067_0_0_ok (i := 23) rfl
theorem dJ2_getChar_3b067_45 : decode cJ2_getChar_3b067 45 = .ok (.ishl, 1) := dc_of dtJ2_getChar_3b067_0_0_ok (i := 24) rfl
theorem dJ2_getChar_3b067_46 : decode cJ2_getChar_3b067 46 = .ok (.aload_n 0, 1) := dc_of dtJ2_getChar_3b067_0_0_ok (i := 25) rfl
theorem dJ2_getChar_3b067_47 : decode cJ2_getChar_3b067 47 = .ok (.iload_n 1, 1) := dc_of dtJ2_getChar_3b067_0_0_ok (i := 26) rfl
theorem dJ2_getChar_3b067_48 : decode cJ2_getChar_3b067 48 = .ok (.baload, 1) := dc_of dtJ2_getChar_3b067_0_0_ok (i := 27) rfl
theorem dJ2_getChar_3b067_49 : decode cJ2_getChar_3b067 49 = .ok (.sipush 255, 3) := dc_of dtJ2_getChar_3b067_0_0_ok (i := 28) rfl
theorem dJ2_getChar_3b067_52 : decode cJ2_getChar_3b067 52 = .ok (.iand, 1) := dc_of dtJ2_getChar_3b067_0_0_ok (i := 29) rfl
theorem dJ2_getChar_3b067_53 : decode cJ2_getChar_3b067 53 = .ok (.getstatic 63, 3) := dc_of dtJ2_getChar_3b067_0_0_ok (i := 30) rfl
theorem dJ2_getChar_3b067_56 : decode cJ2_getChar_3b067 56 = .ok (.ishl, 1) := dc_of dtJ2_getChar_3b067_0_0_ok (i := 31) rfl
def dtJ2_getChar_3b067_57_1 : List (Nat × Instr × Nat) := [(57, .ior, 1), (58, .i2c, 1), (59, .ireturn, 1)]
theorem dtJ2_getChar_3b067_57_1_ok : dcAll cJ2_getChar_3b067 dtJ2_getChar_3b067_57_1 = true := by decide +kernel
theorem dJ2_getChar_3b067_57 : decode cJ2_getChar_3b067 57 = .ok (.ior, 1) := dc_of dtJ2_getChar_3b067_57_1_ok (i := 0) rfl
theorem dJ2_getChar_3b067_58 : decode cJ2_getChar_3b067 58 = .ok (.i2c, 1) := dc_of dtJ2_getChar_3b067_57_1_ok (i := 1) rfl
theorem dJ2_getChar_3b067_59 : decode cJ2_getChar_3b067 59 = .ok (.ireturn, 1) := dc_of dtJ2_getChar_3b067_57_1_ok (i := 2) rfl
def dtJ2_length_9d52b_0_0 : List (Nat × Instr × Nat) := [(0, .aload_n 0, 1), (1, .arraylength, 1), (2, .iconst 1, 1), (3, .ishr, 1), (4, .ireturn, 1)]
theorem dtJ2_length_9d52b_0_0_ok : dcAll cJ2_length_9d52b dtJ2_length_9d52b_0_0 = true := by decide +kernel
theorem dJ2_length_9d52b_0 : decode cJ2_length_9d52b 0 = .ok (.aload_n 0, 1) := dc_of dtJ2_length_9d52b_0_0_ok (i := 0) rfl
theorem dJ2_length_9d52b_1 : decode cJ2_length_9d52b 1 = .ok (.arraylength, 1) := dc_of dtJ2_length_9d52b_0_0_ok (i := 1) rfl
theorem dJ2_length_9d52b_2 : decode cJ2_length_9d52b 2 = .ok (.iconst 1, 1) := dc_of dtJ2_length_9d52b_0_0_ok (i := 2) rfl
theorem dJ2_length_9d52b_3 : decode cJ2_length_9d52b 3 = .ok (.ishr, 1) := dc_of dtJ2_length_9d52b_0_0_ok (i := 3) rfl
theorem dJ2_length_9d52b_4 : decode cJ2_length_9d52b 4 = .ok (.ireturn, 1) := dc_of dtJ2_length_9d52b_0_0_ok (i := 4) rfl
set_option maxRecDepth 20000 in
set_option maxRecDepth 20000 in
set_option maxRecDepth 20000 in
set_option maxRecDepth 20000 in
def dtJ2_indexOf_4cfef_0_0 : List (Nat × Instr × Nat) := [(0, .iload_n 2, 1), (1, .iconst 0, 1), (2, .invokestatic 224, 3), (5, .istore_n 2, 1), (6, .iload_n 3, 1), (7, .aload_n 0, 1), (8, .arraylength, 1), (9, .iconst 1, 1), (10, .ishr, 1), (11, .invokestatic 183, 3), (14, .istore_n 3, 1), (15, .iload_n 2, 1), (16, .iload_n 3, 1), (17, .if_icmp .lt 5, 3), (20, .iconst (-1), 1), (21, .ireturn, 1), (22, .iload_n 1, 1), (23, .ldc 227, 2), (25, .if_icmp .ge 11, 3), (28, .aload_n 0, 1), (29, .iload_n 1, 1), (30, .iload_n 2, 1), (31, .iload_n 3, 1), (32, .invokestatic 228, 3), (35, .ireturn, 1), (36, .aload_n 0, 1), (37, .iload_n 1, 1), (38, .iload_n 2, 1), (39, .iload_n 3, 1), (40, .invokestatic 232, 3), (43, .ireturn, 1)]
theorem dtJ2_indexOf_4cfef_0_0_ok : dcAll cJ2_indexOf_4cfef dtJ2_indexOf_4cfef_0_0 = true := by decide +kernel
theorem dJ2_indexOf_4cfef_0 : decode cJ2_indexOf_4cfef 0 = .ok (.iload_n 2, 1) := dc_of dtJ2_indexOf_4cfef_0_0_ok (i := 0) rfl
theorem dJ2_indexOf_4cfef_1 : decode cJ2_indexOf_4cfef 1 = .ok (.iconst 0, 1) := dc_of dtJ2_indexOf_4cfef_0_0_ok (i := 1) rfl
theorem dJ2_indexOf_4cfef_2 : decode cJ2_indexOf_4cfef 2 = .ok (.invokestatic 224, 3) := dc_of dtJ2_indexOf_4cfef_0_0_ok (i := 2) rfl
theorem dJ2_indexOf_4cfef_5 : decode cJ2_indexOf_4cfef 5 = .ok (.istore_n 2, 1) := dc_of dtJ2_indexOf_4cfef_0_0_ok (i := 3) rfl
theorem dJ2_indexOf_4cfef_6 : decode cJ2_indexOf_4cfef 6 = .ok (.iload_n 3, 1) := dc_of dtJ2_indexOf_4cfef_0_0_ok (i := 4) rfl
theorem dJ2_indexOf_4cfef_7 : decode cJ2_indexOf_4cfef 7 = .ok (.aload_n 0, 1) := dc_of dtJ2_indexOf_4cfef_0_0_ok (i := 5) rfl
theorem dJ2_indexOf_4cfef_8 : decode cJ2_indexOf_4cfef 8 = .ok (.arraylength, 1) := dc_of dtJ2_indexOf_4cfef_0_0_ok (i := 6) rfl
theorem dJ2_indexOf_4cfef_9 : decode cJ2_indexOf_4cfef 9 = .ok (.iconst 1, 1) := dc_of dtJ2_indexOf_4cfef_0_0_ok (i := 7) rfl
theorem dJ2_indexOf_4cfef_10 : decode cJ2_indexOf_4cfef 10 = .ok (.ishr, 1) := dc_of dtJ2_indexOf_4cfef_0_0_ok (i := 8) rfl
theorem dJ2_indexOf_4cfef_11 : decode cJ2_indexOf_4cfef 11 = .ok (.invokestatic 183, 3) := dc_of dtJ2_indexOf_4cfef_0_0_ok (i := 9) rfl
theorem dJ2_indexOf_4cfef_14 : decode cJ2_indexOf_4cfef 14 = .ok (.istore_n 3, 1) := dc_of dtJ2_indexOf_4cfef_0_0_ok (i := 10) rfl
theorem dJ2_indexOf_4cfef_15 : decode cJ2_indexOf_4cfef 15 = .ok (.iload_n 2, 1) := dc_of dtJ2_indexOf_4cfef_0_0_ok (i := 11) rfl
theorem dJ2_indexOf_4cfef_16 : decode cJ2_indexOf_4cfef 16 = .ok (.iload_n 3, 1) := dc_of dtJ2_indexOf_4cfef_0_0_ok (i := 12) rfl
theorem dJ2_indexOf_4cfef_17 : decode cJ2_indexOf_4cfef 17 = .ok (.if_icmp .lt 5, 3) := dc_of dtJ2_indexOf_4cfef_0_0_ok (i := 13) rfl
theorem dJ2_indexOf_4cfef_20 : decode cJ2_indexOf_4cfef 20 = .ok (.iconst (-1), 1) := dc_of dtJ2_indexOf_4cfef_0_0_ok (i := 14) rfl
theorem dJ2_indexOf_4cfef_21 : decode cJ2_indexOf_4cfef 21 = .ok (.ireturn, 1) := dc_of dtJ2_indexOf_4cfef_0_0_ok (i := 15) rfl
theorem dJ2_indexOf_4cfef_22 : decode cJ2_indexOf_4cfef 22 = .ok (.iload_n 1, 1) := dc_of dtJ2_indexOf_4cfef_0_0_ok (i := 16) rfl
theorem dJ2_indexOf_4cfef_23 : decode cJ2_indexOf_4cfef 23 = .ok (.ldc 227, 2) := dc_of dtJ2_indexOf_4cfef_0_0_ok (i := 17) rfl
theorem dJ2_indexOf_4cfef_25 : decode cJ2_indexOf_4cfef 25 = .ok (.if_icmp .ge 11, 3) := dc_of dtJ2_indexOf_4cfef_0_0_ok (i := 18) rfl
theorem dJ2_indexOf_4cfef_28 : decode cJ2_indexOf_4cfef 28 = .ok (.aload_n 0, 1) := dc_of dtJ2_indexOf_4cfef_0_0_ok (i := 19) rfl
theorem dJ2_indexOf_4cfef_29 : decode cJ2_indexOf_4cfef 29 = .ok (.iload_n 1, 1) := dc_of dtJ2_indexOf_4cfef_0_0_ok (i := 20) rfl
theorem dJ2_indexOf_4cfef_30 : decode cJ2_indexOf_4cfef 30 = .ok (.iload_n 2, 1) := dc_of dtJ2_indexOf_4cfef_0_0_ok (i := 21) rfl
theorem dJ2_indexOf_4cfef_31 : decode cJ2_indexOf_4cfef 31 = .ok (.iload_n 3, 1) := dc_of dtJ2_indexOf_4cfef_0_0_ok (i := 22) rfl
theorem dJ2_indexOf_4cfef_32 : decode cJ2_indexOf_4cfef 32 = .ok (.invokestatic 228, 3) := dc_of dtJ2_indexOf_4cfef_0_0_ok (i := 23) rfl
theorem dJ2_indexOf_4cfef_35 : decode cJ2_indexOf_4cfef 35 = .ok (.ireturn, 1) := dc_of dtJ2_indexOf_4cfef_0_0_ok (i := 24) rfl
theorem dJ2_indexOf_4cfef_36 : decode cJ2_indexOf_4cfef 36 = .ok (.aload_n 0, 1) := dc_of dtJ2_indexOf_4cfef_0_0_ok (i := 25) rfl
theorem dJ2_indexOf_4cfef_37 : decode cJ2_indexOf_4cfef 37 = .ok (.iload_n 1, 1) := dc_of dtJ2_indexOf_4cfef_0_0_ok (i := 26) rfl
theorem dJ2_indexOf_4cfef_38 : decode cJ2_indexOf_4cfef 38 = .ok (.iload_n 2, 1) := dc_of dtJ2_indexOf_4cfef_0_0_ok (i := 27) rfl
theorem dJ2_indexOf_4cfef_39 : decode cJ2_indexOf_4cfef 39 = .ok (.iload_n 3, 1) := dc_of dtJ2_indexOf_4cfef_0_0_ok (i := 28) rfl
theorem dJ2_indexOf_4cfef_40 : decode cJ2_indexOf_4cfef 40 = .ok (.invokestatic 232, 3) := dc_of dtJ2_indexOf_4cfef_0_0_ok (i := 29) rfl
theorem dJ2_indexOf_4cfef_43 : decode cJ2_indexOf_4cfef 43 = .ok (.ireturn, 1) := dc_of dtJ2_indexOf_4cfef_0_0_ok (i := 30) rfl
set_option maxRecDepth 20000 in
set_option maxRecDepth 20000 in
set_option maxRecDepth 20000 in
set_option maxRecDepth 20000 in
def dtJ2_indexOfChar_4cfef_0_0 : List (Nat × Instr × Nat) := [(0, .iload_n 2, 1), (1, .iload_n 3, 1), (2, .aload_n 0, 1), (3, .invokestatic 96, 3), (6, .aload_n 0, 1), (7, .iload_n 1, 1), (8, .iload_n 2, 1), (9, .iload_n 3, 1), (10, .invokestatic 244, 3), (13, .ireturn, 1)]
theorem dtJ2_indexOfChar_4cfef_0_0_ok : dcAll cJ2_indexOfChar_4cfef dtJ2_indexOfChar_4cfef_0_0 = true := by decide +kernel
theorem dJ2_indexOfChar_4cfef_0 : decode cJ2_indexOfChar_4cfef 0 = .ok (.iload_n 2, 1) := dc_of dtJ2_indexOfChar_4cfef_0_0_ok (i := 0) rfl
theorem dJ2_indexOfChar_4cfef_1 : decode cJ2_indexOfChar_4cfef 1 = .ok (.iload_n 3, 1) := dc_of dtJ2_indexOfChar_4cfef_0_0_ok (i := 1) rfl
theorem dJ2_indexOfChar_4cfef_2 : decode cJ2_indexOfChar_4cfef 2 = .ok (.aload_n 0, 1) := dc_of dtJ2_indexOfChar_4cfef_0_0_ok (i := 2) rfl
theorem dJ2_indexOfChar_4cfef_3 : decode cJ2_indexOfChar_4cfef 3 = .ok (.invokestatic 96, 3) := dc_of dtJ2_indexOfChar_4cfef_0_0_ok (i := 3) rfl
theorem dJ2_indexOfChar_4cfef_6 : decode cJ2_indexOfChar_4cfef 6 = .ok (.aload_n 0, 1) := dc_of dtJ2_indexOfChar_4cfef_0_0_ok (i := 4) rfl
theorem dJ2_indexOfChar_4cfef_7 : decode cJ2_indexOfChar_4cfef 7 = .ok (.iload_n 1, 1) := dc_of dtJ2_indexOfChar_4cfef_0_0_ok (i := 5) rfl
theorem dJ2_indexOfChar_4cfef_8 : decode cJ2_indexOfChar_4cfef 8 = .ok (.iload_n 2, 1) := dc_of dtJ2_indexOfChar_4cfef_0_0_ok (i := 6) rfl
theorem dJ2_indexOfChar_4cfef_9 : decode cJ2_indexOfChar_4cfef 9 = .ok (.iload_n 3, 1) := dc_of dtJ2_indexOfChar_4cfef_0_0_ok (i := 7) rfl
theorem dJ2_indexOfChar_4cfef_10 : decode cJ2_indexOfChar_4cfef 10 = .ok (.invokestatic 244, 3) := dc_of dtJ2_indexOfChar_4cfef_0_0_ok (i := 8) rfl
theorem dJ2_indexOfChar_4cfef_13 : decode cJ2_indexOfChar_4cfef 13 = .ok (.ireturn, 1) := dc_of dtJ2_indexOfChar_4cfef_0_0_ok (i := 9) rfl
set_option maxRecDepth 20000 in
set_option maxRecDepth 20000 in
def dtJ2_indexOfCharUnsafe_4cfef_0_0 : List (Nat × Instr × Nat) := [(0, .iload_n 2, 1), (1, .istore 4, 2), (3, .iload 4, 2), (5, .iload_n 3, 1), (6, .if_icmp .ge 22, 3), (9, .aload_n 0, 1), (10, .iload 4, 2), (12, .invokestatic 71, 3), (15, .iload_n 1, 1), (16, .if_icmp .ne 6, 3), (19, .iload 4, 2), (21, .ireturn, 1), (22, .iinc 4 1, 3), (25, .goto (-22), 3), (28, .iconst (-1), 1), (29, .ireturn, 1)]
theorem dtJ2_indexOfCharUnsafe_4cfef_0_0_ok : dcAll cJ2_indexOfCharUnsafe_4cfef dtJ2_indexOfCharUnsafe_4cfef_0_0 = true := by decide +kernel
theorem dJ2_indexOfCharUnsafe_4cfef_0 : decode cJ2_indexOfCharUnsafe_4cfef 0 = .ok (.iload_n 2, 1) := dc_of dtJ2_indexOfCharUnsafe_4cfef_0_0_ok (i := 0) rfl
theorem dJ2_indexOfCharUnsafe_4cfef_1 : decode cJ2_indexOfCharUnsafe_4cfef 1 = .ok (.istore 4, 2) := dc_of dtJ2_indexOfCharUnsafe_4cfef_0_0_ok (i := 1) rfl
theorem dJ2_indexOfCharUnsafe_4cfef_3 : decode cJ2_indexOfCharUnsafe_4cfef 3 = .ok (.iload 4, 2) := dc_of dtJ2_indexOfCharUnsafe_4cfef_0_0_ok (i := 2) rfl
theorem dJ2_indexOfCharUnsafe_4cfef_5 : decode cJ2_indexOfCharUnsafe_4cfef 5 = .ok (.iload_n 3, 1) := dc_of dtJ2_indexOfCharUnsafe_4cfef_0_0_ok (i := 3) rfl
theorem dJ2_indexOfCharUnsafe_4cfef_6 : decode cJ2_indexOfCharUnsafe_4cfef 6 = .ok (.if_icmp .ge 22, 3) := dc_of dtJ2_indexOfCharUnsafe_4cfef_0_0_ok (i := 4) rfl
theorem dJ2_indexOfCharUnsafe_4cfef_9 : decode cJ2_indexOfCharUnsafe_4cfef 9 = .ok (.aload_n 0, 1) := dc_of dtJ2_indexOfCharUnsafe_4cfef_0_0_ok (i := 5) rfl
theorem dJ2_indexOfCharUnsafe_4cfef_10 : decode cJ2_indexOfCharUnsafe_4cfef 10 = .ok (.iload 4, 2) := dc_of dtJ2_indexOfCharUnsafe_4cfef_0_0_ok (i := 6) rfl
theorem dJ2_indexOfCharUnsafe_4cfef_12 : decode cJ2_indexOfCharUnsafe_4cfef 12 = .ok (.invokestatic 71, 3) := dc_of dtJ2_indexOfCharUnsafe_4cfef_0_0_ok (i := 7) rfl
theorem dJ2_indexOfCharUnsafe_4cfef_15 : decode cJ2_indexOfCharUnsafe_4cfef 15 = .ok (.iload_n 1, 1) := dc_of dtJ2_indexOfCharUnsafe_4cfef_0_0_ok (i := 8) rfl
theorem dJ2_indexOfCharUnsafe_4cfef_16 : decode cJ2_indexOfCharUnsafe_4cfef 16 = .ok (.if_icmp .ne 6, 3) := dc_of dtJ2_indexOfCharUnsafe_4cfef_0_0_ok (i := 9) rfl
theorem dJ2_indexOfCharUnsafe_4cfef_19 : decode cJ2_indexOfCharUnsafe_4cfef 19 = .ok (.iload 4, 2) := dc_of dtJ2_indexOfCharUnsafe_4cfef_0_0_ok (i := 10) rfl
theorem dJ2_indexOfCharUnsafe_4cfef_21 : decode cJ2_indexOfCharUnsafe_4cfef 21 = .ok (.ireturn, 1) := dc_of dtJ2_indexOfCharUnsafe_4cfef_0_0_ok (i := 11) rfl
theorem dJ2_indexOfCharUnsafe_4cfef_22 : decode cJ2_indexOfCharUnsafe_4cfef 22 = .ok (.iinc 4 1, 3) := dc_of dtJ2_indexOfCharUnsafe_4cfef_0_0_ok (i := 12) rfl
theorem dJ2_indexOfCharUnsafe_4cfef_25 : decode cJ2_indexOfCharUnsafe_4cfef 25 = .ok (.goto (-22), 3) := dc_of dtJ2_indexOfCharUnsafe_4cfef_0_0_ok (i := 13) rfl
theorem dJ2_indexOfCharUnsafe_4cfef_28 : decode cJ2_indexOfCharUnsafe_4cfef 28 = .ok (.iconst (-1), 1) := dc_of dtJ2_indexOfCharUnsafe_4cfef_0_0_ok (i := 14) rfl
theorem dJ2_indexOfCharUnsafe_4cfef_29 : decode cJ2_indexOfCharUnsafe_4cfef 29 = .ok (.ireturn, 1) := dc_of dtJ2_indexOfCharUnsafe_4cfef_0_0_ok (i := 15) rfl
set_option maxRecDepth 20000 in
set_option maxRecDepth 20000 in
set_option maxRecDepth 20000 in
set_option maxRecDepth 20000 in
set_option maxRecDepth 20000 in
set_option maxRecDepth 20000 in
set_option maxRecDepth 20000 in
set_option maxRecDepth 20000 in
set_option maxRecDepth 20000 in
set_option maxRecDepth 20000 in
def dtJ2_indexOfSupplementary_4cfef_0_0 : List (Nat × Instr × Nat) := [(0, .iload_n 1, 1), (1, .invokestatic 164, 3), (4, .ifCond .eq 65, 3), (7, .iload_n 1, 1), (8, .invokestatic 157, 3), (11, .istore 4, 2), (13, .iload_n 1, 1), (14, .invokestatic 161, 3), (17, .istore 5, 2), (19, .iload_n 2, 1), (20, .iload_n 3, 1), (21, .aload_n 0, 1), (22, .invokestatic 96, 3), (25, .iload_n 2, 1), (26, .istore 6, 2), (28, .iload 6, 2), (30, .iload_n 3, 1), (31, .iconst 1, 1), (32, .isub, 1), (33, .if_icmp .ge 36, 3), (36, .aload_n 0, 1), (37, .iload 6, 2), (39, .invokestatic 71, 3), (42, .iload 4, 2), (44, .if_icmp .ne 19, 3), (47, .aload_n 0, 1), (48, .iload 6, 2), (50, .iconst 1, 1), (51, .iadd, 1), (52, .invokestatic 71, 3), (55, .iload 5, 2), (57, .if_icmp .ne 6, 3)]
theorem dtJ2_indexOfSupplementary_4cfef_0_0_ok : dcAll cJ2_indexOfSupplementary_4cfef dtJ2_indexOfSupplementary_4cfef_0_0 = true := by decide +kernel
theorem dJ2_indexOfSupplementary_4cfef_0 : decode cJ2_indexOfSupplementary_4cfef 0 = .ok (.iload_n 1, 1) := dc_of dtJ2_indexOfSupplementary_4cfef_0_0_ok (i := 0) rfl
theorem dJ2_indexOfSupplementary_4cfef_1 : decode cJ2_indexOfSupplementary_4cfef 1 = .ok (.invokestatic 164, 3) := dc_of dtJ2_indexOfSupplementary_4cfef_0_0_ok (i := 1) rfl
theorem dJ2_indexOfSupplementary_4cfef_4 : decode cJ2_indexOfSupplementary_4cfef 4 = .ok (.ifCond .eq 65, 3) := dc_of dtJ2_indexOfSupplementary_4cfef_0_0_ok (i := 2) rfl
theorem dJ2_indexOfSupplementary_4cfef_7 : decode cJ2_indexOfSupplementary_4cfef 7 = .ok (.iload_n 1, 1) := dc_of dtJ2_indexOfSupplementary_4cfef_0_0_ok (i := 3) rfl
theorem dJ2_indexOfSupplementary_4cfef_8 : decode cJ2_indexOfSupplementary_4cfef 8 = .ok (.invokestatic 157, 3) := dc_of dtJ2_indexOfSupplementary_4cfef_0_0_ok (i := 4) rfl
theorem dJ2_indexOfSupplementary_4cfef_11 : decode cJ2_indexOfSupplementary_4cfef 11 = .ok (.istore 4, 2) := dc_of dtJ2_indexOfSupplementary_4cfef_0_0_ok (i := 5) rfl
theorem dJ2_indexOfSupplementary_4cfef_13 : decode cJ2_indexOfSupplementary_4cfef 13 = .ok (.iload_n 1, 1) := dc_of dtJ2_indexOfSupplementary_4cfef_0_0_ok (i := 6) rfl
theorem dJ2_indexOfSupplementary_4cfef_14 : decode cJ2_indexOfSupplementary_4cfef 14 = .ok (.invokestatic 161, 3) := dc_of dtJ2_indexOfSupplementary_4cfef_0_0_ok (i := 7) rfl
theorem dJ2_indexOfSupplementary_4cfef_17 : decode cJ2_indexOfSupplementary_4cfef 17 = .ok (.istore 5, 2) := dc_of dtJ2_indexOfSupplementary_4cfef_0_0_ok (i := 8) rfl
theorem dJ2_indexOfSupplementary_4cfef_19 : decode cJ2_indexOfSupplementary_4cfef 19 = .ok (.iload_n 2, 1) := dc_of dtJ2_indexOfSupplementary_4cfef_0_0_ok (i := 9) rfl
theorem dJ2_indexOfSupplementary_4cfef_20 : decode cJ2_indexOfSupplementary_4cfef 20 = .ok (.iload_n 3, 1) := dc_of dtJ2_indexOfSupplementary_4cfef_0_0_ok (i := 10) rfl
theorem dJ2_indexOfSupplementary_4cfef_21 : decode cJ2_indexOfSupplementary_4cfef 21 = .ok (.aload_n 0, 1) := dc_of dtJ2_indexOfSupplementary_4cfef_0_0_ok (i := 11) rfl
theorem dJ2_indexOfSupplementary_4cfef_22 : decode cJ2_indexOfSupplementary_4cfef 22 = .ok (.invokestatic 96, 3) := dc_of dtJ2_indexOfSupplementary_4cfef_0_0_ok (i := 12) rfl
theorem dJ2_indexOfSupplementary_4cfef_25 : decode cJ2_indexOfSupplementary_4cfef 25 = .ok (.iload_n 2, 1) := dc_of dtJ2_indexOfSupplementary_4cfef_0_0_ok (i := 13) rfl
theorem dJ2_indexOfSupplementary_4cfef_26 : decode cJ2_indexOfSupplementary_4cfef 26 = .ok (.istore 6, 2) := dc_of dtJ2_indexOfSupplementary_4cfef_0_0_ok (i := 14) rfl
theorem dJ2_indexOfSupplementary_4cfef_28 : decode cJ2_indexOfSupplementary_4cfef 28 = .ok (.iload 6, 2) := dc_of dtJ2_indexOfSupplementary_4cfef_0_0_ok (i := 15) rfl
theorem dJ2_indexOfSupplementary_4cfef_30 : decode cJ2_indexOfSupplementary_4cfef 30 = .ok (.iload_n 3, 1) := dc_of dtJ2_indexOfSupplementary_4cfef_0_0_ok (i := 16) rfl
theorem dJ2_indexOfSupplementary_4cfef_31 : decode cJ2_indexOfSupplementary_4cfef 31 = .ok (.iconst 1, 1) := dc_of dtJ2_indexOfSupplementary_4cfef_0_0_ok (i := 17) rfl
theorem dJ2_indexOfSupplementary_4cfef_32 : decode cJ2_indexOfSupplementary_4cfef 32 = .ok (.isub, 1) := dc_of dtJ2_indexOfSupplementary_4cfef_0_0_ok (i := 18) rfl
theorem dJ2_indexOfSupplementary_4cfef_33 : decode cJ2_indexOfSupplementary_4cfef 33 = .ok (.if_icmp .ge 36, 3) := dc_of dtJ2_indexOfSupplementary_4cfef_0_0_ok (i := 19) rfl
theorem dJ2_indexOfSupplementary_4cfef_36 : decode cJ2_indexOfSupplementary_4cfef 36 = .ok (.aload_n 0, 1) := dc_of dtJ2_indexOfSupplementary_4cfef_0_0_ok (i := 20) rfl
theorem dJ2_indexOfSupplementary_4cfef_37 : decode cJ2_indexOfSupplementary_4cfef 37 = .ok (.iload 6, 2) := dc_of dtJ2_indexOfSupplementary_4cfef_0_0_ok (i := 21) rfl
theorem dJ2_indexOfSupplementary_4cfef_39 : decode cJ2_indexOfSupplementary_4cfef 39 = .ok (.invokestatic 71, 3) := dc_of dtJ2_indexOfSupplementary_4cfef_0_0_ok (i := 22) rfl
theorem dJ2_indexOfSupplementary_4cfef_42 : decode cJ2_indexOfSupplementary_4cfef 42 = .ok (.iload 4, 2) := dc_of dtJ2_indexOfSupplementary_4cfef_0_0_ok (i := 23) rfl
theorem dJ2_indexOfSupplementary_4cfef_44 : decode cJ2_indexOfSupplementary_4cfef 44 = .ok (.if_icmp .ne 19, 3) := dc_of dtJ2_indexOfSupplementary_4cfef_0_0_ok (i := 24) rfl
theorem dJ2_indexOfSupplementary_4cfef_47 : decode cJ2_indexOfSupplementary_4cfef 47 = .ok (.aload_n 0, 1) := dc_of dtJ2_indexOfSupplementary_4cfef_0_0_ok (i := 25) rfl
theorem dJ2_indexOfSupplementary_4cfef_48 : decode cJ2_indexOfSupplementary_4cfef 48 = .ok (.iload 6, 2) := dc_of dtJ2_indexOfSupplementary_4cfef_0_0_ok (i := 26) rfl
theorem dJ2_indexOfSupplementary_4cfef_50 : decode cJ2_indexOfSupplementary_4cfef 50 = .ok (.iconst 1, 1) := dc_of dtJ2_indexOfSupplementary_4cfef_0_0_ok (i := 27) rfl
theorem dJ2_indexOfSupplementary_4cfef_51 : decode cJ2_indexOfSupplementary_4cfef 51 = .ok (.iadd, 1) := dc_of dtJ2_indexOfSupplementary_4cfef_0_0_ok (i := 28) rfl
theorem dJ2_indexOfSupplementary_4cfef_52 : decode cJ2_indexOfSupplementary_4cfef 52 = .ok (.invokestatic 71, 3) := dc_of dtJ2_indexOfSupplementary_4cfef_0_0_ok (i := 29) rfl
theorem dJ2_indexOfSupplementary_4cfef_55 : decode cJ2_indexOfSupplementary_4cfef 55 = .ok (.iload 5, 2) := dc_of dtJ2_indexOfSupplementary_4cfef_0_0_ok (i := 30) rfl
theorem dJ2_indexOfSupplementary_4cfef_57 : decode cJ2_indexOfSupplementary_4cfef 57 = .ok (.if_icmp .ne 6, 3) := dc_of dtJ2_indexOfSupplementary_4cfef_0_0_ok (i := 31) rfl
def dtJ2_indexOfSupplementary_4cfef_60_1 : List (Nat × Instr × Nat) := [(60, .iload 6, 2), (62, .ireturn, 1), (63, .iinc 6 1, 3), (66, .goto (-38), 3), (69, .iconst (-1), 1), (70, .ireturn, 1)]
theorem dtJ2_indexOfSupplementary_4cfef_60_1_ok : dcAll cJ2_indexOfSupplementary_4cfef dtJ2_indexOfSupplementary_4cfef_60_1 = true := by decide +kernel
theorem dJ2_indexOfSupplementary_4cfef_60 : decode cJ2_indexOfSupplementary_4cfef 60 = .ok (.iload 6, 2) := dc_of dtJ2_indexOfSupplementary_4cfef_60_1_ok (i := 0) rfl
theorem dJ2_indexOfSupplementary_4cfef_62 : decode cJ2_indexOfSupplementary_4cfef 62 = .ok (.ireturn, 1) := dc_of dtJ2_indexOfSupplementary_4cfef_60_1_ok (i := 1) rfl
theorem dJ2_indexOfSupplementary_4cfef_63 : decode cJ2_indexOfSupplementary_4cfef 63 = .ok (.iinc 6 1, 3) := dc_of dtJ2_indexOfSupplementary_4cfef_60_1_ok (i := 2) rfl
theorem dJ2_indexOfSupplementary_4cfef_66 : decode cJ2_indexOfSupplementary_4cfef 66 = .ok (.goto (-38), 3) := dc_of dtJ2_indexOfSupplementary_4cfef_60_1_ok (i := 3) rfl
theorem dJ2_indexOfSupplementary_4cfef_69 : decode cJ2_indexOfSupplementary_4cfef 69 = .ok (.iconst (-1), 1) := dc_of dtJ2_indexOfSupplementary_4cfef_60_1_ok (i := 4) rfl
theorem dJ2_indexOfSupplementary_4cfef_70 : decode cJ2_indexOfSupplementary_4cfef 70 = .ok (.ireturn, 1) := dc_of dtJ2_indexOfSupplementary_4cfef_60_1_ok (i := 5) rfl
set_option maxRecDepth 20000 in
set_option maxRecDepth 20000 in
set_option maxRecDepth 20000 in
set_option maxRecDepth 20000 in
def dtJ2_charAt_3b067_0_0 : List (Nat × Instr × Nat) := [(0, .iload_n 1, 1), (1, .aload_n 0, 1), (2, .invokestatic 67, 3), (5, .aload_n 0, 1), (6, .iload_n 1, 1), (7, .invokestatic 71, 3), (10, .ireturn, 1)]
theorem dtJ2_charAt_3b067_0_0_ok : dcAll cJ2_charAt_3b067 dtJ2_charAt_3b067_0_0 = true := by decide +kernel
theorem dJ2_charAt_3b067_0 : decode cJ2_charAt_3b067 0 = .ok (.iload_n 1, 1) := dc_of dtJ2_charAt_3b067_0_0_ok (i := 0) rfl
theorem dJ2_charAt_3b067_1 : decode cJ2_charAt_3b067 1 = .ok (.aload_n 0, 1) := dc_of dtJ2_charAt_3b067_0_0_ok (i := 1) rfl
theorem dJ2_charAt_3b067_2 : decode cJ2_charAt_3b067 2 = .ok (.invokestatic 67, 3) := dc_of dtJ2_charAt_3b067_0_0_ok (i := 2) rfl
theorem dJ2_charAt_3b067_5 : decode cJ2_charAt_3b067 5 = .ok (.aload_n 0, 1) := dc_of dtJ2_charAt_3b067_0_0_ok (i := 3) rfl
theorem dJ2_charAt_3b067_6 : decode cJ2_charAt_3b067 6 = .ok (.iload_n 1, 1) := dc_of dtJ2_charAt_3b067_0_0_ok (i := 4) rfl
theorem dJ2_charAt_3b067_7 : decode cJ2_charAt_3b067 7 = .ok (.invokestatic 71, 3) := dc_of dtJ2_charAt_3b067_0_0_ok (i := 5) rfl
theorem dJ2_charAt_3b067_10 : decode cJ2_charAt_3b067 10 = .ok (.ireturn, 1) := dc_of dtJ2_charAt_3b067_0_0_ok (i := 6) rfl
set_option maxRecDepth 20000 in
set_option maxRecDepth 20000 in
set_option maxRecDepth 20000 in
set_option maxRecDepth 20000 in
def dtJ2_checkIndex_2214a_0_0 : List (Nat × Instr × Nat) := [(0, .iload_n 0, 1), (1, .aload_n 1, 1), (2, .invokestatic 48, 3), (5, .invokestatic 414, 3), (8, .return_, 1)]
theorem dtJ2_checkIndex_2214a_0_0_ok : dcAll cJ2_checkIndex_2214a dtJ2_checkIndex_2214a_0_0 = true := by decide +kernel
theorem dJ2_checkIndex_2214a_0 : decode cJ2_checkIndex_2214a 0 = .ok (.iload_n 0, 1) := dc_of dtJ2_checkIndex_2214a_0_0_ok (i := 0) rfl
theorem dJ2_checkIndex_2214a_1 : decode cJ2_checkIndex_2214a 1 = .ok (.aload_n 1, 1) := dc_of dtJ2_checkIndex_2214a_0_0_ok (i := 1) rfl
theorem dJ2_checkIndex_2214a_2 : decode cJ2_checkIndex_2214a 2 = .ok (.invokestatic 48, 3) := dc_of dtJ2_checkIndex_2214a_0_0_ok (i := 2) rfl
theorem dJ2_checkIndex_2214a_5 : decode cJ2_checkIndex_2214a 5 = .ok (.invokestatic 414, 3) := dc_of dtJ2_checkIndex_2214a_0_0_ok (i := 3) rfl
theorem dJ2_checkIndex_2214a_8 : decode cJ2_checkIndex_2214a 8 = .ok (.return_, 1) := dc_of dtJ2_checkIndex_2214a_0_0_ok (i := 4) rfl
set_option maxRecDepth 20000 in
set_option maxRecDepth 20000 in
set_option maxRecDepth 20000 in
set_option maxRecDepth 20000 in
def dtJ2_checkBoundsBeginEnd_d044e_0_0 : List (Nat × Instr × Nat) := [(0, .iload_n 0, 1), (1, .iload_n 1, 1), (2, .aload_n 2, 1), (3, .invokestatic 48, 3), (6, .invokestatic 241, 3), (9, .return_, 1)]
theorem dtJ2_checkBoundsBeginEnd_d044e_0_0_ok : dcAll cJ2_checkBoundsBeginEnd_d044e dtJ2_checkBoundsBeginEnd_d044e_0_0 = true := by decide +kernel
theorem dJ2_checkBoundsBeginEnd_d044e_0 : decode cJ2_checkBoundsBeginEnd_d044e 0 = .ok (.iload_n 0, 1) := dc_of dtJ2_checkBoundsBeginEnd_d044e_0_0_ok (i := 0) rfl
theorem dJ2_checkBoundsBeginEnd_d044e_1 : decode cJ2_checkBoundsBeginEnd_d044e 1 = .ok (.iload_n 1, 1) := dc_of dtJ2_checkBoundsBeginEnd_d044e_0_0_ok (i := 1) rfl
theorem dJ2_checkBoundsBeginEnd_d044e_2 : decode cJ2_checkBoundsBeginEnd_d044e 2 = .ok (.aload_n 2, 1) := dc_of dtJ2_checkBoundsBeginEnd_d044e_0_0_ok (i := 2) rfl
theorem dJ2_checkBoundsBeginEnd_d044e_3 : decode cJ2_checkBoundsBeginEnd_d044e 3 = .ok (.invokestatic 48, 3) := dc_of dtJ2_checkBoundsBeginEnd_d044e_0_0_ok (i := 3) rfl
theorem dJ2_checkBoundsBeginEnd_d044e_6 : decode cJ2_checkBoundsBeginEnd_d044e 6 = .ok (.invokestatic 241, 3) := dc_of dtJ2_checkBoundsBeginEnd_d044e_0_0_ok (i := 4) rfl
theorem dJ2_checkBoundsBeginEnd_d044e_9 : decode cJ2_checkBoundsBeginEnd_d044e 9 = .ok (.return_, 1) := dc_of dtJ2_checkBoundsBeginEnd_d044e_0_0_ok (i := 5) rfl
def dtJ3_checkIndex_8e157_0_0 : List (Nat × Instr × Nat) := [(0, .iload_n 0, 1), (1, .ifCond .lt 8, 3), (4, .iload_n 0, 1), (5, .iload_n 1, 1), (6, .if_icmp .lt 10, 3), (9, .aload_n 2, 1), (10, .iload_n 0, 1), (11, .iload_n 1, 1), (12, .invokestatic 95, 3), (15, .athrow, 1), (16, .iload_n 0, 1), (17, .ireturn, 1)]
theorem dtJ3_checkIndex_8e157_0_0_ok : dcAll cJ3_checkIndex_8e157 dtJ3_checkIndex_8e157_0_0 = true := by decide +kernel
theorem dJ3_checkIndex_8e157_0 : decode cJ3_checkIndex_8e157 0 = .ok (.iload_n 0, 1) := dc_of dtJ3_checkIndex_8e157_0_0_ok (i := 0) rfl
theorem dJ3_checkIndex_8e157_1 : decode cJ3_checkIndex_8e157 1 = .ok (.ifCond .lt 8, 3) := dc_of dtJ3_checkIndex_8e157_0_0_ok (i := 1) rfl
theorem dJ3_checkIndex_8e157_4 : decode cJ3_checkIndex_8e157 4 = .ok (.iload_n 0, 1) := dc_of dtJ3_checkIndex_8e157_0_0_ok (i := 2) rfl
theorem dJ3_checkIndex_8e157_5 : decode cJ3_checkIndex_8e157 5 = .ok (.iload_n 1, 1) := dc_of dtJ3_checkIndex_8e157_0_0_ok (i := 3) rfl
theorem dJ3_checkIndex_8e157_6 : decode cJ3_checkIndex_8e157 6 = .ok (.if_icmp .lt 10, 3) := dc_of dtJ3_checkIndex_8e157_0_0_ok (i := 4) rfl
theorem dJ3_checkIndex_8e157_9 : decode cJ3_checkIndex_8e157 9 = .ok (.aload_n 2, 1) := dc_of dtJ3_checkIndex_8e157_0_0_ok (i := 5) rfl
theorem dJ3_checkIndex_8e157_10 : decode cJ3_checkIndex_8e157 10 = .ok (.iload_n 0, 1) := dc_of dtJ3_checkIndex_8e157_0_0_ok (i := 6) rfl
theorem dJ3_checkIndex_8e157_11 : decode cJ3_checkIndex_8e157 11 = .ok (.iload_n 1, 1) := dc_of dtJ3_checkIndex_8e157_0_0_ok (i := 7) rfl
theorem dJ3_checkIndex_8e157_12 : decode cJ3_checkIndex_8e157 12 = .ok (.invokestatic 95, 3) := dc_of dtJ3_checkIndex_8e157_0_0_ok (i := 8) rfl
theorem dJ3_checkIndex_8e157_15 : decode cJ3_checkIndex_8e157 15 = .ok (.athrow, 1) := dc_of dtJ3_checkIndex_8e157_0_0_ok (i := 9) rfl
theorem dJ3_checkIndex_8e157_16 : decode cJ3_checkIndex_8e157 16 = .ok (.iload_n 0, 1) := dc_of dtJ3_checkIndex_8e157_0_0_ok (i := 10) rfl
theorem dJ3_checkIndex_8e157_17 : decode cJ3_checkIndex_8e157 17 = .ok (.ireturn, 1) := dc_of dtJ3_checkIndex_8e157_0_0_ok (i := 11) rfl
def dtJ3_checkFromToIndex_8c36e_0_0 : List (Nat × Instr × Nat) := [(0, .iload_n 0, 1), (1, .ifCond .lt 13, 3), (4, .iload_n 0, 1), (5, .iload_n 1, 1), (6, .if_icmp .gt 8, 3), (9, .iload_n 1, 1), (10, .iload_n 2, 1), (11, .if_icmp .le 11, 3), (14, .aload_n 3, 1), (15, .iload_n 0, 1), (16, .iload_n 1, 1), (17, .iload_n 2, 1), (18, .invokestatic 99, 3), (21, .athrow, 1), (22, .iload_n 0, 1), (23, .ireturn, 1)]
theorem dtJ3_checkFromToIndex_8c36e_0_0_ok : dcAll cJ3_checkFromToIndex_8c36e dtJ3_checkFromToIndex_8c36e_0_0 = true := by decide +kernel
theorem dJ3_checkFromToIndex_8c36e_0 : decode cJ3_checkFromToIndex_8c36e 0 = .ok (.iload_n 0, 1) := dc_of dtJ3_checkFromToIndex_8c36e_0_0_ok (i := 0) rfl
theorem dJ3_checkFromToIndex_8c36e_1 : decode cJ3_checkFromToIndex_8c36e 1 = .ok (.ifCond .lt 13, 3) := dc_of dtJ3_checkFromToIndex_8c36e_0_0_ok (i := 1) rfl
theorem dJ3_checkFromToIndex_8c36e_4 : decode cJ3_checkFromToIndex_8c36e 4 = .ok (.iload_n 0, 1) := dc_of dtJ3_checkFromToIndex_8c36e_0_0_ok (i := 2) rfl
theorem dJ3_checkFromToIndex_8c36e_5 : decode cJ3_checkFromToIndex_8c36e 5 = .ok (.iload_n 1, 1) := dc_of dtJ3_checkFromToIndex_8c36e_0_0_ok (i := 3) rfl
theorem dJ3_checkFromToIndex_8c36e_6 : decode cJ3_checkFromToIndex_8c36e 6 = .ok (.if_icmp .gt 8, 3) := dc_of dtJ3_checkFromToIndex_8c36e_0_0_ok (i := 4) rfl
theorem dJ3_checkFromToIndex_8c36e_9 : decode cJ3_checkFromToIndex_8c36e 9 = .ok (.iload_n 1, 1) := dc_of dtJ3_checkFromToIndex_8c36e_0_0_ok (i := 5) rfl
theorem dJ3_checkFromToIndex_8c36e_10 : decode cJ3_checkFromToIndex_8c36e 10 = .ok (.iload_n 2, 1) := dc_of dtJ3_checkFromToIndex_8c36e_0_0_ok (i := 6) rfl
theorem dJ3_checkFromToIndex_8c36e_11 : decode cJ3_checkFromToIndex_8c36e 11 = .ok (.if_icmp .le 11, 3) := dc_of dtJ3_checkFromToIndex_8c36e_0_0_ok (i := 7) rfl
theorem dJ3_checkFromToIndex_8c36e_14 : decode cJ3_checkFromToIndex_8c36e 14 = .ok (.aload_n 3, 1) := dc_of dtJ3_checkFromToIndex_8c36e_0_0_ok (i := 8) rfl
theorem dJ3_checkFromToIndex_8c36e_15 : decode cJ3_checkFromToIndex_8c36e 15 = .ok (.iload_n 0, 1) := dc_of dtJ3_checkFromToIndex_8c36e_0_0_ok (i := 9) rfl
theorem dJ3_checkFromToIndex_8c36e_16 : decode cJ3_checkFromToIndex_8c36e 16 = .ok (.iload_n 1, 1) := dc_of dtJ3_checkFromToIndex_8c36e_0_0_ok (i := 10) rfl
theorem dJ3_checkFromToIndex_8c36e_17 : decode cJ3_checkFromToIndex_8c36e 17 = .ok (.iload_n 2, 1) := dc_of dtJ3_checkFromToIndex_8c36e_0_0_ok (i := 11) rfl
theorem dJ3_checkFromToIndex_8c36e_18 : decode cJ3_checkFromToIndex_8c36e 18 = .ok (.invokestatic 99, 3) := dc_of dtJ3_checkFromToIndex_8c36e_0_0_ok (i := 12) rfl
theorem dJ3_checkFromToIndex_8c36e_21 : decode cJ3_checkFromToIndex_8c36e 21 = .ok (.athrow, 1) := dc_of dtJ3_checkFromToIndex_8c36e_0_0_ok (i := 13) rfl
theorem dJ3_checkFromToIndex_8c36e_22 : decode cJ3_checkFromToIndex_8c36e 22 = .ok (.iload_n 0, 1) := dc_of dtJ3_checkFromToIndex_8c36e_0_0_ok (i := 14) rfl
theorem dJ3_checkFromToIndex_8c36e_23 : decode cJ3_checkFromToIndex_8c36e 23 = .ok (.ireturn, 1) := dc_of dtJ3_checkFromToIndex_8c36e_0_0_ok (i := 15) rfl
