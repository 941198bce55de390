def dtX6_isRelation_20_0 : List (Nat × Instr × Nat) := [(20, .ireturn, 1)]
theorem dtX6_isRelation_20_0_ok : dcAll cX6_isRelation dtX6_isRelation_20_0 = true := by decide +kernel
theorem dX6_isRelation_20 : decode cX6_isRelation 20 = .ok (.ireturn, 1) := dc_of dtX6_isRelation_20_0_ok (i := 0) rfl
set_option maxRecDepth 20000 in
theorem gw_wsX6_isRelation : wsX6_isRelation.all goodWord = true := by decide +kernel
set_option maxRecDepth 20000 in
theorem ggX6_isRing_X6_isRelation : GoodIn wsX6_isRing wsX6_isRelation := goodIn_r _ [8, 1, 9, 10, 11, 12, 13, 14, 15, 16, 17, 18, 19, 20, 21, 22, 23, 24, 25, 26, 27, 28, 29, 30] rfl gw_wsX6_isRelation
set_option maxRecDepth 20000 in
theorem gX6_isRing_X6_isRelation : GoodIn wsX6_isRing (wsV RX6 109 RX6 yX6_isRelation wsX6_isRelation) := goodIn_app (goodIn_of _ (by decide +kernel)) ggX6_isRing_X6_isRelation
def dtX6_isRing_0_0 : List (Nat × Instr × Nat) := [(0, .aload_n 0, 1), (1, .iload_n 1, 1), (2, .invokevirtual 109, 3), (5, .ifCond .eq 24, 3), (8, .aload_n 0, 1), (9, .getfield 23, 3), (12, .getfield 113, 3), (15, .iload_n 1, 1), (16, .aaload, 1), (17, .getfield 117, 3), (20, .bipush 8, 2), (22, .if_icmp .ne 7, 3), (25, .iconst 1, 1), (26, .goto 4, 3), (29, .iconst 0, 1), (30, .ireturn, 1)]
theorem dtX6_isRing_0_0_ok : dcAll cX6_isRing dtX6_isRing_0_0 = true := by decide +kernel
theorem dX6_isRing_0 : decode cX6_isRing 0 = .ok (.aload_n 0, 1) := dc_of dtX6_isRing_0_0_ok (i := 0) rfl
theorem dX6_isRing_1 : decode cX6_isRing 1 = .ok (.iload_n 1, 1) := dc_of dtX6_isRing_0_0_ok (i := 1) rfl
theorem dX6_isRing_2 : decode cX6_isRing 2 = .ok (.invokevirtual 109, 3) := dc_of dtX6_isRing_0_0_ok (i := 2) rfl
theorem dX6_isRing_5 : decode cX6_isRing 5 = .ok (.ifCond .eq 24, 3) := dc_of dtX6_isRing_0_0_ok (i := 3) rfl
theorem dX6_isRing_8 : decode cX6_isRing 8 = .ok (.aload_n 0, 1) := dc_of dtX6_isRing_0_0_ok (i := 4) rfl
theorem dX6_isRing_9 : decode cX6_isRing 9 = .ok (.getfield 23, 3) := dc_of dtX6_isRing_0_0_ok (i := 5) rfl
theorem dX6_isRing_12 : decode cX6_isRing 12 = .ok (.getfield 113, 3) := dc_of dtX6_isRing_0_0_ok (i := 6) rfl
theorem dX6_isRing_15 : decode cX6_isRing 15 = .ok (.iload_n 1, 1) := dc_of dtX6_isRing_0_0_ok (i := 7) rfl
theorem dX6_isRing_16 : decode cX6_isRing 16 = .ok (.aaload, 1) := dc_of dtX6_isRing_0_0_ok (i := 8) rfl
theorem dX6_isRing_17 : decode cX6_isRing 17 = .ok (.getfield 117, 3) := dc_of dtX6_isRing_0_0_ok (i := 9) rfl
theorem dX6_isRing_20 : decode cX6_isRing 20 = .ok (.bipush 8, 2) := dc_of dtX6_isRing_0_0_ok (i := 10) rfl
theorem dX6_isRing_22 : decode cX6_isRing 22 = .ok (.if_icmp .ne 7, 3) := dc_of dtX6_isRing_0_0_ok (i := 11) rfl
theorem dX6_isRing_25 : decode cX6_isRing 25 = .ok (.iconst 1, 1) := dc_of dtX6_isRing_0_0_ok (i := 12) rfl
theorem dX6_isRing_26 : decode cX6_isRing 26 = .ok (.goto 4, 3) := dc_of dtX6_isRing_0_0_ok (i := 13) rfl
theorem dX6_isRing_29 : decode cX6_isRing 29 = .ok (.iconst 0, 1) := dc_of dtX6_isRing_0_0_ok (i := 14) rfl
theorem dX6_isRing_30 : decode cX6_isRing 30 = .ok (.ireturn, 1) := dc_of dtX6_isRing_0_0_ok (i := 15) rfl
set_option maxRecDepth 20000 in
theorem ggX6_change_X4_addAmount : GoodIn wsX6_change wsX4_addAmount := goodIn_r _ [12, 13, 14, 15, 16, 11, 17, 18, 19, 20, 21, 22, 23, 24, 25, 26, 27, 28, 29, 30, 31, 32, 33, 34, 35, 36, 37, 38, 39, 40, 41, 42, 43, 44, 81, 82, 83, 84] rfl gw_wsX4_addAmount
set_option maxRecDepth 20000 in
theorem gX6_change_X4_addAmount : GoodIn wsX6_change (wsV RX6 128 RX4 yX4_addAmount wsX4_addAmount) := goodIn_app (goodIn_of _ (by decide +kernel)) ggX6_change_X4_addAmount
def dtX6_change_0_0 : List (Nat × Instr × Nat) := [(0, .iload_n 1, 1), (1, .ifCond .lt 14, 3), (4, .iload_n 1, 1), (5, .aload_n 0, 1), (6, .getfield 23, 3), (9, .getfield 122, 3), (12, .if_icmp .lt 5, 3), (15, .iconst (-1), 1), (16, .ireturn, 1), (17, .iload 6, 2), (19, .bipush (-9), 2), (21, .if_icmp .lt 15, 3), (24, .iload 6, 2), (26, .bipush 9, 2), (28, .if_icmp .gt 8, 3), (31, .iload 6, 2), (33, .ifCond .ne 5, 3), (36, .iconst (-1), 1), (37, .ireturn, 1), (38, .aload_n 0, 1), (39, .getfield 23, 3), (42, .getfield 113, 3), (45, .iload_n 1, 1), (46, .aaload, 1), (47, .getfield 125, 3), (50, .istore 7, 2), (52, .aload_n 0, 1), (53, .getfield 66, 3), (56, .iconst 0, 1), (57, .iload_n 1, 1), (58, .iastore, 1), (59, .aload_n 0, 1)]
theorem dtX6_change_0_0_ok : dcAll cX6_change dtX6_change_0_0 = true := by decide +kernel
theorem dX6_change_0 : decode cX6_change 0 = .ok (.iload_n 1, 1) := dc_of dtX6_change_0_0_ok (i := 0) rfl
theorem dX6_change_1 : decode cX6_change 1 = .ok (.ifCond .lt 14, 3) := dc_of dtX6_change_0_0_ok (i := 1) rfl
theorem dX6_change_4 : decode cX6_change 4 = .ok (.iload_n 1, 1) := dc_of dtX6_change_0_0_ok (i := 2) rfl
theorem dX6_change_5 : decode cX6_change 5 = .ok (.aload_n 0, 1) := dc_of dtX6_change_0_0_ok (i := 3) rfl
theorem dX6_change_6 : decode cX6_change 6 = .ok (.getfield 23, 3) := dc_of dtX6_change_0_0_ok (i := 4) rfl
theorem dX6_change_9 : decode cX6_change 9 = .ok (.getfield 122, 3) := dc_of dtX6_change_0_0_ok (i := 5) rfl
theorem dX6_change_12 : decode cX6_change 12 = .ok (.if_icmp .lt 5, 3) := dc_of dtX6_change_0_0_ok (i := 6) rfl
theorem dX6_change_15 : decode cX6_change 15 = .ok (.iconst (-1), 1) := dc_of dtX6_change_0_0_ok (i := 7) rfl
theorem dX6_change_16 : decode cX6_change 16 = .ok (.ireturn, 1) := dc_of dtX6_change_0_0_ok (i := 8) rfl
theorem dX6_change_17 : decode cX6_change 17 = .ok (.iload 6, 2) := dc_of dtX6_change_0_0_ok (i := 9) rfl
theorem dX6_change_19 : decode cX6_change 19 = .ok (.bipush (-9), 2) := dc_of dtX6_change_0_0_ok (i := 10) rfl
theorem dX6_change_21 : decode cX6_change 21 = .ok (.if_icmp .lt 15, 3) := dc_of dtX6_change_0_0_ok (i := 11) rfl
theorem dX6_change_24 : decode cX6_change 24 = .ok (.iload 6, 2) := dc_of dtX6_change_0_0_ok (i := 12) rfl
theorem dX6_change_26 : decode cX6_change 26 = .ok (.bipush 9, 2) := dc_of dtX6_change_0_0_ok (i := 13) rfl
theorem dX6_change_28 : decode cX6_change 28 = .ok (.if_icmp .gt 8, 3) := dc_of dtX6_change_0_0_ok (i := 14) rfl
theorem dX6_change_31 : decode cX6_change 31 = .ok (.iload 6, 2) := dc_of dtX6_change_0_0_ok (i := 15) rfl
theorem dX6_change_33 : decode cX6_change 33 = .ok (.ifCond .ne 5, 3) := dc_of dtX6_change_0_0_ok (i := 16) rfl
theorem dX6_change_36 : decode cX6_change 36 = .ok (.iconst (-1), 1) := dc_of dtX6_change_0_0_ok (i := 17) rfl
theorem dX6_change_37 : decode cX6_change 37 = .ok (.ireturn, 1) := dc_of dtX6_change_0_0_ok (i := 18) rfl
theorem dX6_change_38 : decode cX6_change 38 = .ok (.aload_n 0, 1) := dc_of dtX6_change_0_0_ok (i := 19) rfl
theorem dX6_change_39 : decode cX6_change 39 = .ok (.getfield 23, 3) := dc_of dtX6_change_0_0_ok (i := 20) rfl
theorem dX6_change_42 : decode cX6_change 42 = .ok (.getfield 113, 3) := dc_of dtX6_change_0_0_ok (i := 21) rfl
theorem dX6_change_45 : decode cX6_change 45 = .ok (.iload_n 1, 1) := dc_of dtX6_change_0_0_ok (i := 22) rfl
theorem dX6_change_46 : decode cX6_change 46 = .ok (.aaload, 1) := dc_of dtX6_change_0_0_ok (i := 23) rfl
theorem dX6_change_47 : decode cX6_change 47 = .ok (.getfield 125, 3) := dc_of dtX6_change_0_0_ok (i := 24) rfl
theorem dX6_change_50 : decode cX6_change 50 = .ok (.istore 7, 2) := dc_of dtX6_change_0_0_ok (i := 25) rfl
theorem dX6_change_52 : decode cX6_change 52 = .ok (.aload_n 0, 1) := dc_of dtX6_change_0_0_ok (i := 26) rfl
theorem dX6_change_53 : decode cX6_change 53 = .ok (.getfield 66, 3) := dc_of dtX6_change_0_0_ok (i := 27) rfl
theorem dX6_change_56 : decode cX6_change 56 = .ok (.iconst 0, 1) := dc_of dtX6_change_0_0_ok (i := 28) rfl
theorem dX6_change_57 : decode cX6_change 57 = .ok (.iload_n 1, 1) := dc_of dtX6_change_0_0_ok (i := 29) rfl
theorem dX6_change_58 : decode cX6_change 58 = .ok (.iastore, 1) := dc_of dtX6_change_0_0_ok (i := 30) rfl
theorem dX6_change_59 : decode cX6_change 59 = .ok (.aload_n 0, 1) := dc_of dtX6_change_0_0_ok (i := 31) rfl
def dtX6_change_60_1 : List (Nat × Instr × Nat) := [(60, .getfield 66, 3), (63, .iconst 1, 1), (64, .iload_n 2, 1), (65, .iastore, 1), (66, .aload_n 0, 1), (67, .getfield 66, 3), (70, .iconst 2, 1), (71, .iload 7, 2), (73, .iconst 1, 1), (74, .if_icmp .le 7, 3), (77, .iload_n 3, 1), (78, .goto 4, 3), (81, .iconst 0, 1), (82, .iastore, 1), (83, .aload_n 0, 1), (84, .getfield 66, 3), (87, .iconst 3, 1), (88, .iload 7, 2), (90, .iconst 2, 1), (91, .if_icmp .le 8, 3), (94, .iload 4, 2), (96, .goto 4, 3), (99, .iconst 0, 1), (100, .iastore, 1), (101, .aload_n 0, 1), (102, .getfield 66, 3), (105, .iconst 4, 1), (106, .iload 7, 2), (108, .iconst 3, 1), (109, .if_icmp .le 8, 3), (112, .iload 5, 2), (114, .goto 4, 3)]
theorem dtX6_change_60_1_ok : dcAll cX6_change dtX6_change_60_1 = true := by decide +kernel
theorem dX6_change_60 : decode cX6_change 60 = .ok (.getfield 66, 3) := dc_of dtX6_change_60_1_ok (i := 0) rfl
theorem dX6_change_63 : decode cX6_change 63 = .ok (.iconst 1, 1) := dc_of dtX6_change_60_1_ok (i := 1) rfl
theorem dX6_change_64 : decode cX6_change 64 = .ok (.iload_n 2, 1) := dc_of dtX6_change_60_1_ok (i := 2) rfl
theorem dX6_change_65 : decode cX6_change 65 = .ok (.iastore, 1) := dc_of dtX6_change_60_1_ok (i := 3) rfl
theorem dX6_change_66 : decode cX6_change 66 = .ok (.aload_n 0, 1) := dc_of dtX6_change_60_1_ok (i := 4) rfl
theorem dX6_change_67 : decode cX6_change 67 = .ok (.getfield 66, 3) := dc_of dtX6_change_60_1_ok (i := 5) rfl
theorem dX6_change_70 : decode cX6_change 70 = .ok (.iconst 2, 1) := dc_of dtX6_change_60_1_ok (i := 6) rfl
theorem dX6_change_71 : decode cX6_change 71 = .ok (.iload 7, 2) := dc_of dtX6_change_60_1_ok (i := 7) rfl
theorem dX6_change_73 : decode cX6_change 73 = .ok (.iconst 1, 1) := dc_of dtX6_change_60_1_ok (i := 8) rfl
theorem dX6_change_74 : decode cX6_change 74 = .ok (.if_icmp .le 7, 3) := dc_of dtX6_change_60_1_ok (i := 9) rfl
theorem dX6_change_77 : decode cX6_change 77 = .ok (.iload_n 3, 1) := dc_of dtX6_change_60_1_ok (i := 10) rfl
theorem dX6_change_78 : decode cX6_change 78 = .ok (.goto 4, 3) := dc_of dtX6_change_60_1_ok (i := 11) rfl
theorem dX6_change_81 : decode cX6_change 81 = .ok (.iconst 0, 1) := dc_of dtX6_change_60_1_ok (i := 12) rfl
theorem dX6_change_82 : decode cX6_change 82 = .ok (.iastore, 1) := dc_of dtX6_change_60_1_ok (i := 13) rfl
theorem dX6_change_83 : decode cX6_change 83 = .ok (.aload_n 0, 1) := dc_of dtX6_change_60_1_ok (i := 14) rfl
theorem dX6_change_84 : decode cX6_change 84 = .ok (.getfield 66, 3) := dc_of dtX6_change_60_1_ok (i := 15) rfl
theorem dX6_change_87 : decode cX6_change 87 = .ok (.iconst 3, 1) := dc_of dtX6_change_60_1_ok (i := 16) rfl
theorem dX6_change_88 : decode cX6_change 88 = .ok (.iload 7, 2) := dc_of dtX6_change_60_1_ok (i := 17) rfl
theorem dX6_change_90 : decode cX6_change 90 = .ok (.iconst 2, 1) := dc_of dtX6_change_60_1_ok (i := 18) rfl
theorem dX6_change_91 : decode cX6_change 91 = .ok (.if_icmp .le 8, 3) := dc_of dtX6_change_60_1_ok (i := 19) rfl
theorem dX6_change_94 : decode cX6_change 94 = .ok (.iload 4, 2) := dc_of dtX6_change_60_1_ok (i := 20) rfl
theorem dX6_change_96 : decode cX6_change 96 = .ok (.goto 4, 3) := dc_of dtX6_change_60_1_ok (i := 21) rfl
theorem dX6_change_99 : decode cX6_change 99 = .ok (.iconst 0, 1) := dc_of dtX6_change_60_1_ok (i := 22) rfl
theorem dX6_change_100 : decode cX6_change 100 = .ok (.iastore, 1) := dc_of dtX6_change_60_1_ok (i := 23) rfl
theorem dX6_change_101 : decode cX6_change 101 = .ok (.aload_n 0, 1) := dc_of dtX6_change_60_1_ok (i := 24) rfl
theorem dX6_change_102 : decode cX6_change 102 = .ok (.getfield 66, 3) := dc_of dtX6_change_60_1_ok (i := 25) rfl
theorem dX6_change_105 : decode cX6_change 105 = .ok (.iconst 4, 1) := dc_of dtX6_change_60_1_ok (i := 26) rfl
theorem dX6_change_106 : decode cX6_change 106 = .ok (.iload 7, 2) := dc_of dtX6_change_60_1_ok (i := 27) rfl
theorem dX6_change_108 : decode cX6_change 108 = .ok (.iconst 3, 1) := dc_of dtX6_change_60_1_ok (i := 28) rfl
theorem dX6_change_109 : decode cX6_change 109 = .ok (.if_icmp .le 8, 3) := dc_of dtX6_change_60_1_ok (i := 29) rfl
theorem dX6_change_112 : decode cX6_change 112 = .ok (.iload 5, 2) := dc_of dtX6_change_60_1_ok (i := 30) rfl
theorem dX6_change_114 : decode cX6_change 114 = .ok (.goto 4, 3) := dc_of dtX6_change_60_1_ok (i := 31) rfl
def dtX6_change_117_2 : List (Nat × Instr × Nat) := [(117, .iconst 0, 1), (118, .iastore, 1), (119, .aload_n 0, 1), (120, .getfield 53, 3), (123, .aload_n 0, 1), (124, .getfield 66, 3), (127, .iload 6, 2), (129, .invokevirtual 128, 3), (132, .ifCond .eq 13, 3), (135, .aload_n 0, 1), (136, .getfield 53, 3), (139, .getfield 99, 3), (142, .goto 4, 3), (145, .iconst (-1), 1), (146, .ireturn, 1)]
theorem dtX6_change_117_2_ok : dcAll cX6_change dtX6_change_117_2 = true := by decide +kernel
theorem dX6_change_117 : decode cX6_change 117 = .ok (.iconst 0, 1) := dc_of dtX6_change_117_2_ok (i := 0) rfl
theorem dX6_change_118 : decode cX6_change 118 = .ok (.iastore, 1) := dc_of dtX6_change_117_2_ok (i := 1) rfl
theorem dX6_change_119 : decode cX6_change 119 = .ok (.aload_n 0, 1) := dc_of dtX6_change_117_2_ok (i := 2) rfl
theorem dX6_change_120 : decode cX6_change 120 = .ok (.getfield 53, 3) := dc_of dtX6_change_117_2_ok (i := 3) rfl
theorem dX6_change_123 : decode cX6_change 123 = .ok (.aload_n 0, 1) := dc_of dtX6_change_117_2_ok (i := 4) rfl
theorem dX6_change_124 : decode cX6_change 124 = .ok (.getfield 66, 3) := dc_of dtX6_change_117_2_ok (i := 5) rfl
theorem dX6_change_127 : decode cX6_change 127 = .ok (.iload 6, 2) := dc_of dtX6_change_117_2_ok (i := 6) rfl
theorem dX6_change_129 : decode cX6_change 129 = .ok (.invokevirtual 128, 3) := dc_of dtX6_change_117_2_ok (i := 7) rfl
theorem dX6_change_132 : decode cX6_change 132 = .ok (.ifCond .eq 13, 3) := dc_of dtX6_change_117_2_ok (i := 8) rfl
theorem dX6_change_135 : decode cX6_change 135 = .ok (.aload_n 0, 1) := dc_of dtX6_change_117_2_ok (i := 9) rfl
theorem dX6_change_136 : decode cX6_change 136 = .ok (.getfield 53, 3) := dc_of dtX6_change_117_2_ok (i := 10) rfl
theorem dX6_change_139 : decode cX6_change 139 = .ok (.getfield 99, 3) := dc_of dtX6_change_117_2_ok (i := 11) rfl
theorem dX6_change_142 : decode cX6_change 142 = .ok (.goto 4, 3) := dc_of dtX6_change_117_2_ok (i := 12) rfl
theorem dX6_change_145 : decode cX6_change 145 = .ok (.iconst (-1), 1) := dc_of dtX6_change_117_2_ok (i := 13) rfl
theorem dX6_change_146 : decode cX6_change 146 = .ok (.ireturn, 1) := dc_of dtX6_change_117_2_ok (i := 14) rfl
set_option maxRecDepth 20000 in
set_option maxRecDepth 20000 in
def dtX6_pending_0_0 : List (Nat × Instr × Nat) := [(0, .iload_n 1, 1), (1, .iconst (-1), 1), (2, .if_icmp .ne 11, 3), (5, .aload_n 0, 1), (6, .getfield 53, 3), (9, .getfield 99, 3), (12, .ireturn, 1), (13, .iload_n 1, 1), (14, .ifCond .lt 23, 3), (17, .iload_n 1, 1), (18, .aload_n 0, 1), (19, .getfield 53, 3), (22, .getfield 99, 3), (25, .if_icmp .ge 12, 3), (28, .iload_n 2, 1), (29, .ifCond .lt 8, 3), (32, .iload_n 2, 1), (33, .iconst 5, 1), (34, .if_icmp .le 13, 3), (37, .new 132, 3), (40, .dup, 1), (41, .ldc 134, 2), (43, .invokespecial 136, 3), (46, .athrow, 1), (47, .aload_n 0, 1), (48, .getfield 23, 3), (51, .getfield 113, 3), (54, .aload_n 0, 1), (55, .getfield 53, 3), (58, .iload_n 1, 1), (59, .iconst 0, 1), (60, .invokevirtual 139, 3)]
theorem dtX6_pending_0_0_ok : dcAll cX6_pending dtX6_pending_0_0 = true := by decide +kernel
theorem dX6_pending_0 : decode cX6_pending 0 = .ok (.iload_n 1, 1) := dc_of dtX6_pending_0_0_ok (i := 0) rfl
theorem dX6_pending_1 : decode cX6_pending 1 = .ok (.iconst (-1), 1) := dc_of dtX6_pending_0_0_ok (i := 1) rfl
theorem dX6_pending_2 : decode cX6_pending 2 = .ok (.if_icmp .ne 11, 3) := dc_of dtX6_pending_0_0_ok (i := 2) rfl
theorem dX6_pending_5 : decode cX6_pending 5 = .ok (.aload_n 0, 1) := dc_of dtX6_pending_0_0_ok (i := 3) rfl
theorem dX6_pending_6 : decode cX6_pending 6 = .ok (.getfield 53, 3) := dc_of dtX6_pending_0_0_ok (i := 4) rfl
theorem dX6_pending_9 : decode cX6_pending 9 = .ok (.getfield 99, 3) := dc_of dtX6_pending_0_0_ok (i := 5) rfl
theorem dX6_pending_12 : decode cX6_pending 12 = .ok (.ireturn, 1) := dc_of dtX6_pending_0_0_ok (i := 6) rfl
theorem dX6_pending_13 : decode cX6_pending 13 = .ok (.iload_n 1, 1) := dc_of dtX6_pending_0_0_ok (i := 7) rfl
theorem dX6_pending_14 : decode cX6_pending 14 = .ok (.ifCond .lt 23, 3) := dc_of dtX6_pending_0_0_ok (i := 8) rfl
theorem dX6_pending_17 : decode cX6_pending 17 = .ok (.iload_n 1, 1) := dc_of dtX6_pending_0_0_ok (i := 9) rfl
theorem dX6_pending_18 : decode cX6_pending 18 = .ok (.aload_n 0, 1) := dc_of dtX6_pending_0_0_ok (i := 10) rfl
theorem dX6_pending_19 : decode cX6_pending 19 = .ok (.getfield 53, 3) := dc_of dtX6_pending_0_0_ok (i := 11) rfl
theorem dX6_pending_22 : decode cX6_pending 22 = .ok (.getfield 99, 3) := dc_of dtX6_pending_0_0_ok (i := 12) rfl
theorem dX6_pending_25 : decode cX6_pending 25 = .ok (.if_icmp .ge 12, 3) := dc_of dtX6_pending_0_0_ok (i := 13) rfl
theorem dX6_pending_28 : decode cX6_pending 28 = .ok (.iload_n 2, 1) := dc_of dtX6_pending_0_0_ok (i := 14) rfl
theorem dX6_pending_29 : decode cX6_pending 29 = .ok (.ifCond .lt 8, 3) := dc_of dtX6_pending_0_0_ok (i := 15) rfl
theorem dX6_pending_32 : decode cX6_pending 32 = .ok (.iload_n 2, 1) := dc_of dtX6_pending_0_0_ok (i := 16) rfl
theorem dX6_pending_33 : decode cX6_pending 33 = .ok (.iconst 5, 1) := dc_of dtX6_pending_0_0_ok (i := 17) rfl
theorem dX6_pending_34 : decode cX6_pending 34 = .ok (.if_icmp .le 13, 3) := dc_of dtX6_pending_0_0_ok (i := 18) rfl
theorem dX6_pending_37 : decode cX6_pending 37 = .ok (.new 132, 3) := dc_of dtX6_pending_0_0_ok (i := 19) rfl
theorem dX6_pending_40 : decode cX6_pending 40 = .ok (.dup, 1) := dc_of dtX6_pending_0_0_ok (i := 20) rfl
theorem dX6_pending_41 : decode cX6_pending 41 = .ok (.ldc 134, 2) := dc_of dtX6_pending_0_0_ok (i := 21) rfl
theorem dX6_pending_43 : decode cX6_pending 43 = .ok (.invokespecial 136, 3) := dc_of dtX6_pending_0_0_ok (i := 22) rfl
theorem dX6_pending_46 : decode cX6_pending 46 = .ok (.athrow, 1) := dc_of dtX6_pending_0_0_ok (i := 23) rfl
theorem dX6_pending_47 : decode cX6_pending 47 = .ok (.aload_n 0, 1) := dc_of dtX6_pending_0_0_ok (i := 24) rfl
theorem dX6_pending_48 : decode cX6_pending 48 = .ok (.getfield 23, 3) := dc_of dtX6_pending_0_0_ok (i := 25) rfl
theorem dX6_pending_51 : decode cX6_pending 51 = .ok (.getfield 113, 3) := dc_of dtX6_pending_0_0_ok (i := 26) rfl
theorem dX6_pending_54 : decode cX6_pending 54 = .ok (.aload_n 0, 1) := dc_of dtX6_pending_0_0_ok (i := 27) rfl
theorem dX6_pending_55 : decode cX6_pending 55 = .ok (.getfield 53, 3) := dc_of dtX6_pending_0_0_ok (i := 28) rfl
theorem dX6_pending_58 : decode cX6_pending 58 = .ok (.iload_n 1, 1) := dc_of dtX6_pending_0_0_ok (i := 29) rfl
theorem dX6_pending_59 : decode cX6_pending 59 = .ok (.iconst 0, 1) := dc_of dtX6_pending_0_0_ok (i := 30) rfl
theorem dX6_pending_60 : decode cX6_pending 60 = .ok (.invokevirtual 139, 3) := dc_of dtX6_pending_0_0_ok (i := 31) rfl
def dtX6_pending_63_1 : List (Nat × Instr × Nat) := [(63, .aaload, 1), (64, .getfield 125, 3), (67, .istore_n 3, 1), (68, .iload_n 2, 1), (69, .iload_n 3, 1), (70, .if_icmp .le 18, 3), (73, .iload_n 2, 1), (74, .iconst 5, 1), (75, .if_icmp .ge 13, 3), (78, .new 132, 3), (81, .dup, 1), (82, .ldc 143, 2), (84, .invokespecial 136, 3), (87, .athrow, 1), (88, .aload_n 0, 1), (89, .getfield 53, 3), (92, .iload_n 1, 1), (93, .iload_n 2, 1), (94, .invokevirtual 139, 3), (97, .ireturn, 1)]
theorem dtX6_pending_63_1_ok : dcAll cX6_pending dtX6_pending_63_1 = true := by decide +kernel
theorem dX6_pending_63 : decode cX6_pending 63 = .ok (.aaload, 1) := dc_of dtX6_pending_63_1_ok (i := 0) rfl
theorem dX6_pending_64 : decode cX6_pending 64 = .ok (.getfield 125, 3) := dc_of dtX6_pending_63_1_ok (i := 1) rfl
theorem dX6_pending_67 : decode cX6_pending 67 = .ok (.istore_n 3, 1) := dc_of dtX6_pending_63_1_ok (i := 2) rfl
theorem dX6_pending_68 : decode cX6_pending 68 = .ok (.iload_n 2, 1) := dc_of dtX6_pending_63_1_ok (i := 3) rfl
theorem dX6_pending_69 : decode cX6_pending 69 = .ok (.iload_n 3, 1) := dc_of dtX6_pending_63_1_ok (i := 4) rfl
theorem dX6_pending_70 : decode cX6_pending 70 = .ok (.if_icmp .le 18, 3) := dc_of dtX6_pending_63_1_ok (i := 5) rfl
theorem dX6_pending_73 : decode cX6_pending 73 = .ok (.iload_n 2, 1) := dc_of dtX6_pending_63_1_ok (i := 6) rfl
theorem dX6_pending_74 : decode cX6_pending 74 = .ok (.iconst 5, 1) := dc_of dtX6_pending_63_1_ok (i := 7) rfl
theorem dX6_pending_75 : decode cX6_pending 75 = .ok (.if_icmp .ge 13, 3) := dc_of dtX6_pending_63_1_ok (i := 8) rfl
theorem dX6_pending_78 : decode cX6_pending 78 = .ok (.new 132, 3) := dc_of dtX6_pending_63_1_ok (i := 9) rfl
theorem dX6_pending_81 : decode cX6_pending 81 = .ok (.dup, 1) := dc_of dtX6_pending_63_1_ok (i := 10) rfl
theorem dX6_pending_82 : decode cX6_pending 82 = .ok (.ldc 143, 2) := dc_of dtX6_pending_63_1_ok (i := 11) rfl
theorem dX6_pending_84 : decode cX6_pending 84 = .ok (.invokespecial 136, 3) := dc_of dtX6_pending_63_1_ok (i := 12) rfl
theorem dX6_pending_87 : decode cX6_pending 87 = .ok (.athrow, 1) := dc_of dtX6_pending_63_1_ok (i := 13) rfl
theorem dX6_pending_88 : decode cX6_pending 88 = .ok (.aload_n 0, 1) := dc_of dtX6_pending_63_1_ok (i := 14) rfl
theorem dX6_pending_89 : decode cX6_pending 89 = .ok (.getfield 53, 3) := dc_of dtX6_pending_63_1_ok (i := 15) rfl
theorem dX6_pending_92 : decode cX6_pending 92 = .ok (.iload_n 1, 1) := dc_of dtX6_pending_63_1_ok (i := 16) rfl
theorem dX6_pending_93 : decode cX6_pending 93 = .ok (.iload_n 2, 1) := dc_of dtX6_pending_63_1_ok (i := 17) rfl
theorem dX6_pending_94 : decode cX6_pending 94 = .ok (.invokevirtual 139, 3) := dc_of dtX6_pending_63_1_ok (i := 18) rfl
theorem dX6_pending_97 : decode cX6_pending 97 = .ok (.ireturn, 1) := dc_of dtX6_pending_63_1_ok (i := 19) rfl
def dtX6_cancel_0_0 : List (Nat × Instr × Nat) := [(0, .aload_n 0, 1), (1, .getfield 53, 3), (4, .getfield 99, 3), (7, .istore_n 1, 1), (8, .aload_n 0, 1), (9, .getfield 53, 3), (12, .iconst 0, 1), (13, .putfield 99, 3), (16, .iload_n 1, 1), (17, .ireturn, 1)]
theorem dtX6_cancel_0_0_ok : dcAll cX6_cancel dtX6_cancel_0_0 = true := by decide +kernel
theorem dX6_cancel_0 : decode cX6_cancel 0 = .ok (.aload_n 0, 1) := dc_of dtX6_cancel_0_0_ok (i := 0) rfl
theorem dX6_cancel_1 : decode cX6_cancel 1 = .ok (.getfield 53, 3) := dc_of dtX6_cancel_0_0_ok (i := 1) rfl
theorem dX6_cancel_4 : decode cX6_cancel 4 = .ok (.getfield 99, 3) := dc_of dtX6_cancel_0_0_ok (i := 2) rfl
theorem dX6_cancel_7 : decode cX6_cancel 7 = .ok (.istore_n 1, 1) := dc_of dtX6_cancel_0_0_ok (i := 3) rfl
theorem dX6_cancel_8 : decode cX6_cancel 8 = .ok (.aload_n 0, 1) := dc_of dtX6_cancel_0_0_ok (i := 4) rfl
theorem dX6_cancel_9 : decode cX6_cancel 9 = .ok (.getfield 53, 3) := dc_of dtX6_cancel_0_0_ok (i := 5) rfl
theorem dX6_cancel_12 : decode cX6_cancel 12 = .ok (.iconst 0, 1) := dc_of dtX6_cancel_0_0_ok (i := 6) rfl
theorem dX6_cancel_13 : decode cX6_cancel 13 = .ok (.putfield 99, 3) := dc_of dtX6_cancel_0_0_ok (i := 7) rfl
theorem dX6_cancel_16 : decode cX6_cancel 16 = .ok (.iload_n 1, 1) := dc_of dtX6_cancel_0_0_ok (i := 8) rfl
theorem dX6_cancel_17 : decode cX6_cancel 17 = .ok (.ireturn, 1) := dc_of dtX6_cancel_0_0_ok (i := 9) rfl
set_option maxRecDepth 20000 in
theorem gw_wsX6_reckonNext : wsX6_reckonNext.all goodWord = true := by decide +kernel
set_option maxRecDepth 20000 in
theorem ggX6_commit_X6_reckonNext : GoodIn wsX6_commit wsX6_reckonNext := goodIn_r _ [9, 10, 11, 12, 13, 14, 15, 16, 17, 18, 19, 20, 8, 21, 4, 22, 23, 24, 25, 26, 27, 28, 29, 30, 31, 32, 33, 34, 35, 36, 37, 38, 39, 40, 41, 42, 43, 44, 45, 46, 47, 48, 49, 50, 51, 52, 53, 54, 55, 56, 57, 58, 59, 60, 61, 62, 63, 64, 65, 66, 67, 68, 69, 70, 71, 72, 73, 74, 75, 76, 77, 78, 79, 80, 81, 82, 83, 84, 85, 86, 87, 88, 89, 90, 91, 92, 93, 94, 95, 96, 97, 98, 99, 100, 101, 102, 103, 104, 105, 106, 107, 108, 109, 110, 111, 112, 113, 114, 115, 116, 117, 118, 119, 120, 121, 122, 123, 124, 125, 126, 127, 128, 129, 130, 131, 132, 133, 134, 135, 136, 137, 138, 139, 140, 141, 142, 143, 144, 145, 146, 147, 148, 149, 150, 151, 152, 153, 154, 155, 156, 157, 158, 159, 160, 161, 162, 163, 164, 165, 166, 167, 168, 169, 170, 171, 172, 173, 174, 175, 176, 177, 178, 179, 180, 206, 207, 208, 209, 210, 211, 212, 213, 214, 215, 216, 217, 218, 219, 220, 221, 222, 223, 228, 229, 230, 224, 225, 226, 227, 231, 232, 233, 234, 235, 236, 237, 238, 239, 240, 241, 242, 243, 244, 245, 246, 247, 248] rfl gw_wsX6_reckonNext
set_option maxRecDepth 20000 in
theorem gX6_commit_X6_reckonNext : GoodIn wsX6_commit (wsV RX6 145 RX6 yX6_reckonNext wsX6_reckonNext) := goodIn_app (goodIn_of _ (by decide +kernel)) ggX6_commit_X6_reckonNext
set_option maxRecDepth 20000 in
theorem gw_wsX6_remember : wsX6_remember.all goodWord = true := by decide +kernel
set_option maxRecDepth 20000 in
theorem ggX6_commit_X6_remember : GoodIn wsX6_commit wsX6_remember := goodIn_r _ [184, 185, 186, 187, 188, 189, 190, 191, 192, 193, 194, 26, 195, 46, 64, 196, 28, 30, 31, 32, 33, 206, 207, 208, 209, 210, 211, 212, 213, 214, 215, 216, 217, 218, 219, 220, 221, 222, 223, 224, 225, 226, 227] rfl gw_wsX6_remember
set_option maxRecDepth 20000 in
theorem gX6_commit_X6_remember : GoodIn wsX6_commit (wsV RX6 149 RX6 yX6_remember wsX6_remember) := goodIn_app (goodIn_of _ (by decide +kernel)) ggX6_commit_X6_remember
set_option maxRecDepth 20000 in
theorem gw_wsX6_takeNext : wsX6_takeNext.all goodWord = true := by decide +kernel
set_option maxRecDepth 20000 in
theorem ggX6_commit_X6_takeNext : GoodIn wsX6_commit wsX6_takeNext := goodIn_r _ [200, 10, 15, 201, 12, 13, 65, 66, 67, 26, 68, 46, 69, 70, 71, 28, 47, 48, 49, 50, 29, 51, 52, 53, 54, 72, 73, 74, 75, 64, 30, 31, 32, 33, 206, 207, 208, 209, 210, 211, 212, 213, 214, 215, 216, 217, 218, 219, 220, 221, 222, 223, 228, 229, 230, 224, 225, 226, 227] rfl gw_wsX6_takeNext
set_option maxRecDepth 20000 in
theorem gX6_commit_X6_takeNext : GoodIn wsX6_commit (wsV RX6 153 RX6 yX6_takeNext wsX6_takeNext) := goodIn_app (goodIn_of _ (by decide +kernel)) ggX6_commit_X6_takeNext
set_option maxRecDepth 20000 in
theorem gw_wsX6_movedInViews : wsX6_movedInViews.all goodWord = true := by decide +kernel
set_option maxRecDepth 20000 in
theorem ggX6_commit_X6_movedInViews : GoodIn wsX6_commit wsX6_movedInViews := goodIn_r _ [205, 10, 11, 15, 201, 4, 206, 207, 208, 209, 210, 211, 212, 213, 214, 215, 216, 217, 218, 219, 220, 221, 222, 223, 228, 229, 230, 224, 225, 226, 227] rfl gw_wsX6_movedInViews
set_option maxRecDepth 20000 in
theorem gX6_commit_X6_movedInViews : GoodIn wsX6_commit (wsV RX6 156 RX6 yX6_movedInViews wsX6_movedInViews) := goodIn_app (goodIn_of _ (by decide +kernel)) ggX6_commit_X6_movedInViews
def dtX6_commit_0_0 : List (Nat × Instr × Nat) := [(0, .aload_n 0, 1), (1, .aload_n 0, 1), (2, .getfield 53, 3), (5, .iconst 1, 1), (6, .invokevirtual 145, 3), (9, .istore_n 1, 1), (10, .iload_n 1, 1), (11, .ifCond .ne 33, 3), (14, .aload_n 0, 1), (15, .aload_n 0, 1), (16, .getfield 53, 3), (19, .invokevirtual 149, 3), (22, .aload_n 0, 1), (23, .dup, 1), (24, .getfield 103, 3), (27, .iconst 1, 1), (28, .iadd, 1), (29, .putfield 103, 3), (32, .aload_n 0, 1), (33, .invokevirtual 153, 3), (36, .aload_n 0, 1), (37, .invokevirtual 156, 3), (40, .istore_n 1, 1), (41, .goto 13, 3), (44, .aload_n 0, 1), (45, .dup, 1), (46, .getfield 106, 3), (49, .iconst 1, 1), (50, .iadd, 1), (51, .putfield 106, 3), (54, .aload_n 0, 1), (55, .getfield 53, 3)]
theorem dtX6_commit_0_0_ok : dcAll cX6_commit dtX6_commit_0_0 = true := by decide +kernel
theorem dX6_commit_0 : decode cX6_commit 0 = .ok (.aload_n 0, 1) := dc_of dtX6_commit_0_0_ok (i := 0) rfl
theorem dX6_commit_1 : decode cX6_commit 1 = .ok (.aload_n 0, 1) := dc_of dtX6_commit_0_0_ok (i := 1) rfl
theorem dX6_commit_2 : decode cX6_commit 2 = .ok (.getfield 53, 3) := dc_of dtX6_commit_0_0_ok (i := 2) rfl
theorem dX6_commit_5 : decode cX6_commit 5 = .ok (.iconst 1, 1) := dc_of dtX6_commit_0_0_ok (i := 3) rfl
theorem dX6_commit_6 : decode cX6_commit 6 = .ok (.invokevirtual 145, 3) := dc_of dtX6_commit_0_0_ok (i := 4) rfl
theorem dX6_commit_9 : decode cX6_commit 9 = .ok (.istore_n 1, 1) := dc_of dtX6_commit_0_0_ok (i := 5) rfl
theorem dX6_commit_10 : decode cX6_commit 10 = .ok (.iload_n 1, 1) := dc_of dtX6_commit_0_0_ok (i := 6) rfl
theorem dX6_commit_11 : decode cX6_commit 11 = .ok (.ifCond .ne 33, 3) := dc_of dtX6_commit_0_0_ok (i := 7) rfl
theorem dX6_commit_14 : decode cX6_commit 14 = .ok (.aload_n 0, 1) := dc_of dtX6_commit_0_0_ok (i := 8) rfl
theorem dX6_commit_15 : decode cX6_commit 15 = .ok (.aload_n 0, 1) := dc_of dtX6_commit_0_0_ok (i := 9) rfl
theorem dX6_commit_16 : decode cX6_commit 16 = .ok (.getfield 53, 3) := dc_of dtX6_commit_0_0_ok (i := 10) rfl
theorem dX6_commit_19 : decode cX6_commit 19 = .ok (.invokevirtual 149, 3) := dc_of dtX6_commit_0_0_ok (i := 11) rfl
theorem dX6_commit_22 : decode cX6_commit 22 = .ok (.aload_n 0, 1) := dc_of dtX6_commit_0_0_ok (i := 12) rfl
theorem dX6_commit_23 : decode cX6_commit 23 = .ok (.dup, 1) := dc_of dtX6_commit_0_0_ok (i := 13) rfl
theorem dX6_commit_24 : decode cX6_commit 24 = .ok (.getfield 103, 3) := dc_of dtX6_commit_0_0_ok (i := 14) rfl
theorem dX6_commit_27 : decode cX6_commit 27 = .ok (.iconst 1, 1) := dc_of dtX6_commit_0_0_ok (i := 15) rfl
theorem dX6_commit_28 : decode cX6_commit 28 = .ok (.iadd, 1) := dc_of dtX6_commit_0_0_ok (i := 16) rfl
theorem dX6_commit_29 : decode cX6_commit 29 = .ok (.putfield 103, 3) := dc_of dtX6_commit_0_0_ok (i := 17) rfl
theorem dX6_commit_32 : decode cX6_commit 32 = .ok (.aload_n 0, 1) := dc_of dtX6_commit_0_0_ok (i := 18) rfl
theorem dX6_commit_33 : decode cX6_commit 33 = .ok (.invokevirtual 153, 3) := dc_of dtX6_commit_0_0_ok (i := 19) rfl
theorem dX6_commit_36 : decode cX6_commit 36 = .ok (.aload_n 0, 1) := dc_of dtX6_commit_0_0_ok (i := 20) rfl
theorem dX6_commit_37 : decode cX6_commit 37 = .ok (.invokevirtual 156, 3) := dc_of dtX6_commit_0_0_ok (i := 21) rfl
theorem dX6_commit_40 : decode cX6_commit 40 = .ok (.istore_n 1, 1) := dc_of dtX6_commit_0_0_ok (i := 22) rfl
theorem dX6_commit_41 : decode cX6_commit 41 = .ok (.goto 13, 3) := dc_of dtX6_commit_0_0_ok (i := 23) rfl
theorem dX6_commit_44 : decode cX6_commit 44 = .ok (.aload_n 0, 1) := dc_of dtX6_commit_0_0_ok (i := 24) rfl
theorem dX6_commit_45 : decode cX6_commit 45 = .ok (.dup, 1) := dc_of dtX6_commit_0_0_ok (i := 25) rfl
theorem dX6_commit_46 : decode cX6_commit 46 = .ok (.getfield 106, 3) := dc_of dtX6_commit_0_0_ok (i := 26) rfl
theorem dX6_commit_49 : decode cX6_commit 49 = .ok (.iconst 1, 1) := dc_of dtX6_commit_0_0_ok (i := 27) rfl
theorem dX6_commit_50 : decode cX6_commit 50 = .ok (.iadd, 1) := dc_of dtX6_commit_0_0_ok (i := 28) rfl
theorem dX6_commit_51 : decode cX6_commit 51 = .ok (.putfield 106, 3) := dc_of dtX6_commit_0_0_ok (i := 29) rfl
theorem dX6_commit_54 : decode cX6_commit 54 = .ok (.aload_n 0, 1) := dc_of dtX6_commit_0_0_ok (i := 30) rfl
theorem dX6_commit_55 : decode cX6_commit 55 = .ok (.getfield 53, 3) := dc_of dtX6_commit_0_0_ok (i := 31) rfl
def dtX6_commit_58_1 : List (Nat × Instr × Nat) := [(58, .iconst 0, 1), (59, .putfield 99, 3), (62, .iload_n 1, 1), (63, .ireturn, 1)]
theorem dtX6_commit_58_1_ok : dcAll cX6_commit dtX6_commit_58_1 = true := by decide +kernel
theorem dX6_commit_58 : decode cX6_commit 58 = .ok (.iconst 0, 1) := dc_of dtX6_commit_58_1_ok (i := 0) rfl
theorem dX6_commit_59 : decode cX6_commit 59 = .ok (.putfield 99, 3) := dc_of dtX6_commit_58_1_ok (i := 1) rfl
theorem dX6_commit_62 : decode cX6_commit 62 = .ok (.iload_n 1, 1) := dc_of dtX6_commit_58_1_ok (i := 2) rfl
theorem dX6_commit_63 : decode cX6_commit 63 = .ok (.ireturn, 1) := dc_of dtX6_commit_58_1_ok (i := 3) rfl
set_option maxRecDepth 20000 in
theorem ggX6_would_X6_isRelation : GoodIn wsX6_would wsX6_isRelation := goodIn_r _ [8, 9, 10, 183, 184, 185, 186, 187, 188, 189, 190, 191, 192, 193, 194, 195, 196, 197, 198, 199, 200, 205, 206, 207] rfl gw_wsX6_isRelation
set_option maxRecDepth 20000 in
theorem gX6_would_X6_isRelation : GoodIn wsX6_would (wsV RX6 109 RX6 yX6_isRelation wsX6_isRelation) := goodIn_app (goodIn_of _ (by decide +kernel)) ggX6_would_X6_isRelation
set_option maxRecDepth 20000 in
theorem ggX6_would_X6_reckonNext : GoodIn wsX6_would wsX6_reckonNext := goodIn_r _ [14, 9, 15, 2, 16, 17, 10, 18, 19, 20, 21, 22, 7, 23, 3, 24, 25, 26, 27, 28, 29, 30, 31, 32, 33, 34, 35, 36, 37, 38, 39, 40, 41, 42, 43, 44, 45, 46, 47, 48, 49, 50, 51, 52, 53, 54, 55, 56, 57, 58, 59, 60, 61, 62, 63, 64, 65, 66, 67, 68, 69, 70, 71, 72, 73, 74, 75, 76, 77, 78, 79, 80, 81, 82, 83, 84, 85, 86, 87, 88, 89, 90, 91, 92, 93, 94, 95, 96, 97, 98, 99, 100, 101, 102, 103, 104, 105, 106, 107, 108, 109, 110, 111, 112, 113, 114, 115, 116, 117, 118, 119, 120, 121, 122, 123, 124, 125, 126, 127, 128, 129, 130, 131, 132, 133, 134, 135, 136, 137, 138, 139, 140, 141, 142, 143, 144, 145, 146, 147, 148, 149, 150, 151, 152, 153, 154, 155, 156, 157, 158, 159, 160, 161, 162, 163, 164, 165, 166, 167, 168, 169, 170, 171, 172, 173, 174, 175, 176, 177, 178, 179, 180, 181, 182, 183, 184, 185, 186, 187, 188, 189, 190, 191, 192, 193, 194, 195, 196, 197, 198, 199, 200, 205, 206, 207, 201, 202, 203, 204, 208, 209, 210, 211, 212, 213, 214, 215, 216, 217, 218, 219, 220, 221, 222, 223, 224, 225] rfl gw_wsX6_reckonNext
set_option maxRecDepth 20000 in
theorem gX6_would_X6_reckonNext : GoodIn wsX6_would (wsV RX6 145 RX6 yX6_reckonNext wsX6_reckonNext) := goodIn_app (goodIn_of _ (by decide +kernel)) ggX6_would_X6_reckonNext
def dtX6_would_0_0 : List (Nat × Instr × Nat) := [(0, .aload_n 0, 1), (1, .iload_n 1, 1), (2, .invokevirtual 109, 3), (5, .ifCond .ne 5, 3), (8, .iconst (-1), 1), (9, .ireturn, 1), (10, .aload_n 0, 1), (11, .aload_n 0, 1), (12, .getfield 53, 3), (15, .iconst 1, 1), (16, .invokevirtual 145, 3), (19, .istore_n 2, 1), (20, .iload_n 2, 1), (21, .ifCond .eq 7, 3), (24, .iload_n 2, 1), (25, .goto 12, 3), (28, .aload_n 0, 1), (29, .getfield 42, 3), (32, .iload_n 1, 1), (33, .aaload, 1), (34, .getfield 99, 3), (37, .ireturn, 1)]
theorem dtX6_would_0_0_ok : dcAll cX6_would dtX6_would_0_0 = true := by decide +kernel
theorem dX6_would_0 : decode cX6_would 0 = .ok (.aload_n 0, 1) := dc_of dtX6_would_0_0_ok (i := 0) rfl
theorem dX6_would_1 : decode cX6_would 1 = .ok (.iload_n 1, 1) := dc_of dtX6_would_0_0_ok (i := 1) rfl
theorem dX6_would_2 : decode cX6_would 2 = .ok (.invokevirtual 109, 3) := dc_of dtX6_would_0_0_ok (i := 2) rfl
theorem dX6_would_5 : decode cX6_would 5 = .ok (.ifCond .ne 5, 3) := dc_of dtX6_would_0_0_ok (i := 3) rfl
theorem dX6_would_8 : decode cX6_would 8 = .ok (.iconst (-1), 1) := dc_of dtX6_would_0_0_ok (i := 4) rfl
theorem dX6_would_9 : decode cX6_would 9 = .ok (.ireturn, 1) := dc_of dtX6_would_0_0_ok (i := 5) rfl
theorem dX6_would_10 : decode cX6_would 10 = .ok (.aload_n 0, 1) := dc_of dtX6_would_0_0_ok (i := 6) rfl
theorem dX6_would_11 : decode cX6_would 11 = .ok (.aload_n 0, 1) := dc_of dtX6_would_0_0_ok (i := 7) rfl
theorem dX6_would_12 : decode cX6_would 12 = .ok (.getfield 53, 3) := dc_of dtX6_would_0_0_ok (i := 8) rfl
theorem dX6_would_15 : decode cX6_would 15 = .ok (.iconst 1, 1) := dc_of dtX6_would_0_0_ok (i := 9) rfl
theorem dX6_would_16 : decode cX6_would 16 = .ok (.invokevirtual 145, 3) := dc_of dtX6_would_0_0_ok (i := 10) rfl
theorem dX6_would_19 : decode cX6_would 19 = .ok (.istore_n 2, 1) := dc_of dtX6_would_0_0_ok (i := 11) rfl
theorem dX6_would_20 : decode cX6_would 20 = .ok (.iload_n 2, 1) := dc_of dtX6_would_0_0_ok (i := 12) rfl
theorem dX6_would_21 : decode cX6_would 21 = .ok (.ifCond .eq 7, 3) := dc_of dtX6_would_0_0_ok (i := 13) rfl
theorem dX6_would_24 : decode cX6_would 24 = .ok (.iload_n 2, 1) := dc_of dtX6_would_0_0_ok (i := 14) rfl
theorem dX6_would_25 : decode cX6_would 25 = .ok (.goto 12, 3) := dc_of dtX6_would_0_0_ok (i := 15) rfl
theorem dX6_would_28 : decode cX6_would 28 = .ok (.aload_n 0, 1) := dc_of dtX6_would_0_0_ok (i := 16) rfl
theorem dX6_would_29 : decode cX6_would 29 = .ok (.getfield 42, 3) := dc_of dtX6_would_0_0_ok (i := 17) rfl
theorem dX6_would_32 : decode cX6_would 32 = .ok (.iload_n 1, 1) := dc_of dtX6_would_0_0_ok (i := 18) rfl
theorem dX6_would_33 : decode cX6_would 33 = .ok (.aaload, 1) := dc_of dtX6_would_0_0_ok (i := 19) rfl
theorem dX6_would_34 : decode cX6_would 34 = .ok (.getfield 99, 3) := dc_of dtX6_would_0_0_ok (i := 20) rfl
theorem dX6_would_37 : decode cX6_would 37 = .ok (.ireturn, 1) := dc_of dtX6_would_0_0_ok (i := 21) rfl
set_option maxRecDepth 20000 in
theorem ggX6_undo_X6_reckonNext : GoodIn wsX6_undo wsX6_reckonNext := goodIn_r _ [8, 9, 10, 11, 12, 13, 14, 15, 16, 17, 18, 19, 7, 20, 21, 22, 23, 24, 25, 26, 27, 28, 29, 30, 31, 32, 33, 34, 35, 36, 37, 38, 39, 40, 41, 42, 43, 44, 45, 46, 47, 48, 49, 50, 51, 52, 53, 54, 55, 56, 57, 58, 59, 60, 61, 62, 63, 64, 65, 66, 67, 68, 69, 70, 71, 72, 73, 74, 75, 76, 77, 78, 79, 80, 81, 82, 83, 84, 85, 86, 87, 88, 89, 90, 91, 92, 93, 94, 95, 96, 97, 98, 99, 100, 101, 102, 103, 104, 105, 106, 107, 108, 109, 110, 111, 112, 113, 114, 115, 116, 117, 118, 119, 120, 121, 122, 123, 124, 125, 126, 127, 128, 129, 130, 131, 132, 133, 134, 135, 136, 137, 138, 139, 140, 141, 142, 143, 144, 145, 146, 147, 148, 149, 150, 151, 152, 153, 154, 155, 156, 157, 158, 159, 160, 161, 162, 163, 164, 165, 166, 167, 168, 169, 170, 171, 172, 173, 174, 175, 176, 177, 178, 179, 180, 186, 187, 188, 189, 190, 191, 192, 193, 194, 195, 196, 197, 198, 199, 200, 201, 202, 203, 204, 205, 206, 207, 208, 209, 210, 211, 212, 213, 214, 215, 216, 217, 218, 219, 220, 221, 222, 223, 224, 225, 226, 227, 228] rfl gw_wsX6_reckonNext
set_option maxRecDepth 20000 in
theorem gX6_undo_X6_reckonNext : GoodIn wsX6_undo (wsV RX6 145 RX6 yX6_reckonNext wsX6_reckonNext) := goodIn_app (goodIn_of _ (by decide +kernel)) ggX6_undo_X6_reckonNext
set_option maxRecDepth 20000 in
theorem ggX6_undo_X6_takeNext : GoodIn wsX6_undo wsX6_takeNext := goodIn_r _ [184, 9, 14, 185, 11, 12, 65, 66, 67, 26, 68, 46, 69, 70, 71, 28, 47, 48, 49, 50, 29, 51, 52, 53, 54, 72, 73, 74, 75, 64, 30, 31, 32, 33, 186, 187, 188, 189, 190, 191, 192, 193, 194, 195, 196, 197, 198, 199, 200, 201, 202, 203, 204, 205, 206, 207, 208, 209, 210] rfl gw_wsX6_takeNext
set_option maxRecDepth 20000 in
theorem gX6_undo_X6_takeNext : GoodIn wsX6_undo (wsV RX6 153 RX6 yX6_takeNext wsX6_takeNext) := goodIn_app (goodIn_of _ (by decide +kernel)) ggX6_undo_X6_takeNext
def dtX6_undo_0_0 : List (Nat × Instr × Nat) := [(0, .aload_n 0, 1), (1, .getfield 100, 3), (4, .ifCond .ne 5, 3), (7, .iconst (-1), 1), (8, .ireturn, 1), (9, .aload_n 0, 1), (10, .dup, 1), (11, .getfield 100, 3), (14, .iconst 1, 1), (15, .isub, 1), (16, .putfield 100, 3), (19, .aload_n 0, 1), (20, .aload_n 0, 1), (21, .getfield 160, 3), (24, .bipush 8, 2), (26, .iadd, 1), (27, .iconst 1, 1), (28, .isub, 1), (29, .bipush 8, 2), (31, .irem, 1), (32, .putfield 160, 3), (35, .aload_n 0, 1), (36, .aload_n 0, 1), (37, .getfield 74, 3), (40, .aload_n 0, 1), (41, .getfield 160, 3), (44, .aaload, 1), (45, .iconst (-1), 1), (46, .invokevirtual 145, 3), (49, .pop, 1), (50, .aload_n 0, 1), (51, .invokevirtual 153, 3)]
theorem dtX6_undo_0_0_ok : dcAll cX6_undo dtX6_undo_0_0 = true := by decide +kernel
theorem dX6_undo_0 : decode cX6_undo 0 = .ok (.aload_n 0, 1) := dc_of dtX6_undo_0_0_ok (i := 0) rfl
theorem dX6_undo_1 : decode cX6_undo 1 = .ok (.getfield 100, 3) := dc_of dtX6_undo_0_0_ok (i := 1) rfl
theorem dX6_undo_4 : decode cX6_undo 4 = .ok (.ifCond .ne 5, 3) := dc_of dtX6_undo_0_0_ok (i := 2) rfl
theorem dX6_undo_7 : decode cX6_undo 7 = .ok (.iconst (-1), 1) := dc_of dtX6_undo_0_0_ok (i := 3) rfl
theorem dX6_undo_8 : decode cX6_undo 8 = .ok (.ireturn, 1) := dc_of dtX6_undo_0_0_ok (i := 4) rfl
theorem dX6_undo_9 : decode cX6_undo 9 = .ok (.aload_n 0, 1) := dc_of dtX6_undo_0_0_ok (i := 5) rfl
theorem dX6_undo_10 : decode cX6_undo 10 = .ok (.dup, 1) := dc_of dtX6_undo_0_0_ok (i := 6) rfl
theorem dX6_undo_11 : decode cX6_undo 11 = .ok (.getfield 100, 3) := dc_of dtX6_undo_0_0_ok (i := 7) rfl
theorem dX6_undo_14 : decode cX6_undo 14 = .ok (.iconst 1, 1) := dc_of dtX6_undo_0_0_ok (i := 8) rfl
theorem dX6_undo_15 : decode cX6_undo 15 = .ok (.isub, 1) := dc_of dtX6_undo_0_0_ok (i := 9) rfl
theorem dX6_undo_16 : decode cX6_undo 16 = .ok (.putfield 100, 3) := dc_of dtX6_undo_0_0_ok (i := 10) rfl
theorem dX6_undo_19 : decode cX6_undo 19 = .ok (.aload_n 0, 1) := dc_of dtX6_undo_0_0_ok (i := 11) rfl
theorem dX6_undo_20 : decode cX6_undo 20 = .ok (.aload_n 0, 1) := dc_of dtX6_undo_0_0_ok (i := 12) rfl
theorem dX6_undo_21 : decode cX6_undo 21 = .ok (.getfield 160, 3) := dc_of dtX6_undo_0_0_ok (i := 13) rfl
theorem dX6_undo_24 : decode cX6_undo 24 = .ok (.bipush 8, 2) := dc_of dtX6_undo_0_0_ok (i := 14) rfl
theorem dX6_undo_26 : decode cX6_undo 26 = .ok (.iadd, 1) := dc_of dtX6_undo_0_0_ok (i := 15) rfl
theorem dX6_undo_27 : decode cX6_undo 27 = .ok (.iconst 1, 1) := dc_of dtX6_undo_0_0_ok (i := 16) rfl
theorem dX6_undo_28 : decode cX6_undo 28 = .ok (.isub, 1) := dc_of dtX6_undo_0_0_ok (i := 17) rfl
theorem dX6_undo_29 : decode cX6_undo 29 = .ok (.bipush 8, 2) := dc_of dtX6_undo_0_0_ok (i := 18) rfl
theorem dX6_undo_31 : decode cX6_undo 31 = .ok (.irem, 1) := dc_of dtX6_undo_0_0_ok (i := 19) rfl
theorem dX6_undo_32 : decode cX6_undo 32 = .ok (.putfield 160, 3) := dc_of dtX6_undo_0_0_ok (i := 20) rfl
theorem dX6_undo_35 : decode cX6_undo 35 = .ok (.aload_n 0, 1) := dc_of dtX6_undo_0_0_ok (i := 21) rfl
theorem dX6_undo_36 : decode cX6_undo 36 = .ok (.aload_n 0, 1) := dc_of dtX6_undo_0_0_ok (i := 22) rfl
theorem dX6_undo_37 : decode cX6_undo 37 = .ok (.getfield 74, 3) := dc_of dtX6_undo_0_0_ok (i := 23) rfl
theorem dX6_undo_40 : decode cX6_undo 40 = .ok (.aload_n 0, 1) := dc_of dtX6_undo_0_0_ok (i := 24) rfl
theorem dX6_undo_41 : decode cX6_undo 41 = .ok (.getfield 160, 3) := dc_of dtX6_undo_0_0_ok (i := 25) rfl
theorem dX6_undo_44 : decode cX6_undo 44 = .ok (.aaload, 1) := dc_of dtX6_undo_0_0_ok (i := 26) rfl
theorem dX6_undo_45 : decode cX6_undo 45 = .ok (.iconst (-1), 1) := dc_of dtX6_undo_0_0_ok (i := 27) rfl
theorem dX6_undo_46 : decode cX6_undo 46 = .ok (.invokevirtual 145, 3) := dc_of dtX6_undo_0_0_ok (i := 28) rfl
theorem dX6_undo_49 : decode cX6_undo 49 = .ok (.pop, 1) := dc_of dtX6_undo_0_0_ok (i := 29) rfl
theorem dX6_undo_50 : decode cX6_undo 50 = .ok (.aload_n 0, 1) := dc_of dtX6_undo_0_0_ok (i := 30) rfl
theorem dX6_undo_51 : decode cX6_undo 51 = .ok (.invokevirtual 153, 3) := dc_of dtX6_undo_0_0_ok (i := 31) rfl
def dtX6_undo_54_1 : List (Nat × Instr × Nat) := [(54, .aload_n 0, 1), (55, .getfield 100, 3), (58, .ireturn, 1)]
theorem dtX6_undo_54_1_ok : dcAll cX6_undo dtX6_undo_54_1 = true := by decide +kernel
theorem dX6_undo_54 : decode cX6_undo 54 = .ok (.aload_n 0, 1) := dc_of dtX6_undo_54_1_ok (i := 0) rfl
theorem dX6_undo_55 : decode cX6_undo 55 = .ok (.getfield 100, 3) := dc_of dtX6_undo_54_1_ok (i := 1) rfl
theorem dX6_undo_58 : decode cX6_undo 58 = .ok (.ireturn, 1) := dc_of dtX6_undo_54_1_ok (i := 2) rfl
set_option maxRecDepth 20000 in
theorem gw_wsX4_copyFrom : wsX4_copyFrom.all goodWord = true := by decide +kernel
set_option maxRecDepth 20000 in
theorem ggX6_remember_X4_copyFrom : GoodIn wsX6_remember wsX4_copyFrom := goodIn_r _ [12, 13, 14, 15, 5, 6, 7, 16, 17, 18, 19, 20, 39, 40, 41, 42] rfl gw_wsX4_copyFrom
set_option maxRecDepth 20000 in
theorem gX6_remember_X4_copyFrom : GoodIn wsX6_remember (wsV RX6 163 RX4 yX4_copyFrom wsX4_copyFrom) := goodIn_app (goodIn_of _ (by decide +kernel)) ggX6_remember_X4_copyFrom
def dtX6_remember_0_0 : List (Nat × Instr × Nat) := [(0, .aload_n 0, 1), (1, .getfield 74, 3), (4, .aload_n 0, 1), (5, .getfield 160, 3), (8, .aaload, 1), (9, .aload_n 1, 1), (10, .invokevirtual 163, 3), (13, .aload_n 0, 1), (14, .aload_n 0, 1), (15, .getfield 160, 3), (18, .iconst 1, 1), (19, .iadd, 1), (20, .bipush 8, 2), (22, .irem, 1), (23, .putfield 160, 3), (26, .aload_n 0, 1), (27, .aload_n 0, 1), (28, .getfield 100, 3), (31, .iconst 1, 1), (32, .iadd, 1), (33, .bipush 8, 2), (35, .invokestatic 166, 3), (38, .putfield 100, 3), (41, .return_, 1)]
theorem dtX6_remember_0_0_ok : dcAll cX6_remember dtX6_remember_0_0 = true := by decide +kernel
theorem dX6_remember_0 : decode cX6_remember 0 = .ok (.aload_n 0, 1) := dc_of dtX6_remember_0_0_ok (i := 0) rfl
theorem dX6_remember_1 : decode cX6_remember 1 = .ok (.getfield 74, 3) := dc_of dtX6_remember_0_0_ok (i := 1) rfl
theorem dX6_remember_4 : decode cX6_remember 4 = .ok (.aload_n 0, 1) := dc_of dtX6_remember_0_0_ok (i := 2) rfl
theorem dX6_remember_5 : decode cX6_remember 5 = .ok (.getfield 160, 3) := dc_of dtX6_remember_0_0_ok (i := 3) rfl
theorem dX6_remember_8 : decode cX6_remember 8 = .ok (.aaload, 1) := dc_of dtX6_remember_0_0_ok (i := 4) rfl
theorem dX6_remember_9 : decode cX6_remember 9 = .ok (.aload_n 1, 1) := dc_of dtX6_remember_0_0_ok (i := 5) rfl
theorem dX6_remember_10 : decode cX6_remember 10 = .ok (.invokevirtual 163, 3) := dc_of dtX6_remember_0_0_ok (i := 6) rfl
theorem dX6_remember_13 : decode cX6_remember 13 = .ok (.aload_n 0, 1) := dc_of dtX6_remember_0_0_ok (i := 7) rfl
theorem dX6_remember_14 : decode cX6_remember 14 = .ok (.aload_n 0, 1) := dc_of dtX6_remember_0_0_ok (i := 8) rfl
theorem dX6_remember_15 : decode cX6_remember 15 = .ok (.getfield 160, 3) := dc_of dtX6_remember_0_0_ok (i := 9) rfl
theorem dX6_remember_18 : decode cX6_remember 18 = .ok (.iconst 1, 1) := dc_of dtX6_remember_0_0_ok (i := 10) rfl
theorem dX6_remember_19 : decode cX6_remember 19 = .ok (.iadd, 1) := dc_of dtX6_remember_0_0_ok (i := 11) rfl
theorem dX6_remember_20 : decode cX6_remember 20 = .ok (.bipush 8, 2) := dc_of dtX6_remember_0_0_ok (i := 12) rfl
theorem dX6_remember_22 : decode cX6_remember 22 = .ok (.irem, 1) := dc_of dtX6_remember_0_0_ok (i := 13) rfl
theorem dX6_remember_23 : decode cX6_remember 23 = .ok (.putfield 160, 3) := dc_of dtX6_remember_0_0_ok (i := 14) rfl
theorem dX6_remember_26 : decode cX6_remember 26 = .ok (.aload_n 0, 1) := dc_of dtX6_remember_0_0_ok (i := 15) rfl
theorem dX6_remember_27 : decode cX6_remember 27 = .ok (.aload_n 0, 1) := dc_of dtX6_remember_0_0_ok (i := 16) rfl
theorem dX6_remember_28 : decode cX6_remember 28 = .ok (.getfield 100, 3) := dc_of dtX6_remember_0_0_ok (i := 17) rfl
theorem dX6_remember_31 : decode cX6_remember 31 = .ok (.iconst 1, 1) := dc_of dtX6_remember_0_0_ok (i := 18) rfl
theorem dX6_remember_32 : decode cX6_remember 32 = .ok (.iadd, 1) := dc_of dtX6_remember_0_0_ok (i := 19) rfl
theorem dX6_remember_33 : decode cX6_remember 33 = .ok (.bipush 8, 2) := dc_of dtX6_remember_0_0_ok (i := 20) rfl
theorem dX6_remember_35 : decode cX6_remember 35 = .ok (.invokestatic 166, 3) := dc_of dtX6_remember_0_0_ok (i := 21) rfl
theorem dX6_remember_38 : decode cX6_remember 38 = .ok (.putfield 100, 3) := dc_of dtX6_remember_0_0_ok (i := 22) rfl
theorem dX6_remember_41 : decode cX6_remember 41 = .ok (.return_, 1) := dc_of dtX6_remember_0_0_ok (i := 23) rfl
set_option maxRecDepth 20000 in
theorem gw_wsX6_fallsBelowZero : wsX6_fallsBelowZero.all goodWord = true := by decide +kernel
set_option maxRecDepth 20000 in
theorem ggX6_reckonNext_X6_fallsBelowZero : GoodIn wsX6_reckonNext wsX6_fallsBelowZero := goodIn_r _ [13, 14, 15, 4, 16, 17, 18, 19, 20, 21, 22, 23, 24, 25, 26, 27, 28, 29, 30, 31, 32, 33, 34, 35, 36, 37, 38, 39, 40, 41, 42, 43, 44, 45, 46, 47, 48, 195, 196, 197, 198, 174, 175, 176, 177, 178, 179, 180, 181, 182, 183, 184, 185, 186, 187, 188, 189, 190, 191] rfl gw_wsX6_fallsBelowZero
set_option maxRecDepth 20000 in
theorem gX6_reckonNext_X6_fallsBelowZero : GoodIn wsX6_reckonNext (wsV RX6 171 RX6 yX6_fallsBelowZero wsX6_fallsBelowZero) := goodIn_app (goodIn_of _ (by decide +kernel)) ggX6_reckonNext_X6_fallsBelowZero
set_option maxRecDepth 20000 in
theorem gw_wsX6_pickChanges : wsX6_pickChanges.all goodWord = true := by decide +kernel
set_option maxRecDepth 20000 in
theorem ggX6_reckonNext_X6_pickChanges : GoodIn wsX6_reckonNext wsX6_pickChanges := goodIn_r _ [52, 5, 14, 15, 27, 28, 29, 19, 30, 21, 16, 17, 18, 20, 22, 23, 24, 25, 26, 48, 45, 46, 47, 53, 54, 55, 56, 39, 57, 174, 175, 176, 177, 178, 179, 180, 181, 182, 183, 184, 185, 186, 187, 188, 189, 190, 191, 195, 196, 197, 198] rfl gw_wsX6_pickChanges
set_option maxRecDepth 20000 in
theorem gX6_reckonNext_X6_pickChanges : GoodIn wsX6_reckonNext (wsV RX6 175 RX6 yX6_pickChanges wsX6_pickChanges) := goodIn_app (goodIn_of _ (by decide +kernel)) ggX6_reckonNext_X6_pickChanges
set_option maxRecDepth 20000 in
theorem ggX6_reckonNext_X4_gather : GoodIn wsX6_reckonNext wsX4_gather := goodIn_r _ [61, 39, 62, 63, 19, 64, 21, 40, 41, 42, 43, 22, 44, 45, 46, 47, 65, 66, 67, 68, 57, 23, 24, 25, 26, 195, 196, 197, 198] rfl gw_wsX4_gather
set_option maxRecDepth 20000 in
theorem gX6_reckonNext_X4_gather : GoodIn wsX6_reckonNext (wsV RX6 179 RX4 yX4_gather wsX4_gather) := goodIn_app (goodIn_of _ (by decide +kernel)) ggX6_reckonNext_X4_gather
set_option maxRecDepth 20000 in
theorem gw_wsX3_reckon : wsX3_reckon.all goodWord = true := by decide +kernel
set_option maxRecDepth 20000 in
theorem ggX6_reckonNext_X3_reckon : GoodIn wsX6_reckonNext wsX3_reckon := goodIn_r _ [73, 74, 75, 76, 77, 78, 79, 80, 72, 81, 82, 83, 84, 85, 86, 87, 88, 89, 90, 45, 46, 19, 47, 21, 22, 91, 66, 67, 68, 39, 57, 23, 24, 25, 26, 92, 93, 94, 95, 96, 97, 98, 99, 100, 101, 102, 103, 104, 105, 106, 107, 108, 35, 36, 37, 38, 40, 41, 42, 43, 109, 54, 55, 56, 44, 110, 111, 112, 113, 114, 115, 116, 117, 118, 119, 120, 121, 122, 123, 124, 125, 126, 127, 128, 129, 130, 131, 132, 28, 29, 30, 133, 134, 135, 136, 137, 59, 60, 61, 62, 63, 64, 65, 138, 139, 140, 141, 142, 143, 144, 145, 146, 147, 148, 149, 150, 151, 152, 153, 154, 155, 156, 157, 158, 159, 160, 17, 18, 20, 161, 162, 163, 164, 165, 166, 167, 168, 169, 170, 171, 172, 173, 195, 196, 197, 198, 199, 200, 201, 202, 203, 204, 205, 206, 207, 208, 209, 210, 211, 212, 213, 214, 215, 216] rfl gw_wsX3_reckon
set_option maxRecDepth 20000 in
theorem gX6_reckonNext_X3_reckon : GoodIn wsX6_reckonNext (wsV RX6 183 RX3 yX3_reckon wsX3_reckon) := goodIn_app (goodIn_of _ (by decide +kernel)) ggX6_reckonNext_X3_reckon
def dtX6_reckonNext_0_0 : List (Nat × Instr × Nat) := [(0, .aload_n 0, 1), (1, .aload_n 1, 1), (2, .iload_n 2, 1), (3, .invokevirtual 171, 3), (6, .ifCond .eq 6, 3), (9, .bipush (-2), 2), (11, .ireturn, 1), (12, .iconst 0, 1), (13, .istore_n 3, 1), (14, .iload_n 3, 1), (15, .aload_n 0, 1), (16, .getfield 23, 3), (19, .getfield 122, 3), (22, .if_icmp .ge 41, 3), (25, .aload_n 0, 1), (26, .aload_n 1, 1), (27, .iload_n 3, 1), (28, .invokevirtual 175, 3), (31, .aload_n 0, 1), (32, .getfield 42, 3), (35, .iload_n 3, 1), (36, .aaload, 1), (37, .aload_n 0, 1), (38, .getfield 38, 3), (41, .iload_n 3, 1), (42, .aaload, 1), (43, .aload_n 0, 1), (44, .getfield 60, 3), (47, .iload_n 2, 1), (48, .invokevirtual 179, 3), (51, .ifCond .ne 6, 3), (54, .bipush (-3), 2)]
theorem dtX6_reckonNext_0_0_ok : dcAll cX6_reckonNext dtX6_reckonNext_0_0 = true := by decide +kernel
theorem dX6_reckonNext_0 : decode cX6_reckonNext 0 = .ok (.aload_n 0, 1) := dc_of dtX6_reckonNext_0_0_ok (i := 0) rfl
theorem dX6_reckonNext_1 : decode cX6_reckonNext 1 = .ok (.aload_n 1, 1) := dc_of dtX6_reckonNext_0_0_ok (i := 1) rfl
theorem dX6_reckonNext_2 : decode cX6_reckonNext 2 = .ok (.iload_n 2, 1) := dc_of dtX6_reckonNext_0_0_ok (i := 2) rfl
theorem dX6_reckonNext_3 : decode cX6_reckonNext 3 = .ok (.invokevirtual 171, 3) := dc_of dtX6_reckonNext_0_0_ok (i := 3) rfl
theorem dX6_reckonNext_6 : decode cX6_reckonNext 6 = .ok (.ifCond .eq 6, 3) := dc_of dtX6_reckonNext_0_0_ok (i := 4) rfl
theorem dX6_reckonNext_9 : decode cX6_reckonNext 9 = .ok (.bipush (-2), 2) := dc_of dtX6_reckonNext_0_0_ok (i := 5) rfl
theorem dX6_reckonNext_11 : decode cX6_reckonNext 11 = .ok (.ireturn, 1) := dc_of dtX6_reckonNext_0_0_ok (i := 6) rfl
theorem dX6_reckonNext_12 : decode cX6_reckonNext 12 = .ok (.iconst 0, 1) := dc_of dtX6_reckonNext_0_0_ok (i := 7) rfl
theorem dX6_reckonNext_13 : decode cX6_reckonNext 13 = .ok (.istore_n 3, 1) := dc_of dtX6_reckonNext_0_0_ok (i := 8) rfl
theorem dX6_reckonNext_14 : decode cX6_reckonNext 14 = .ok (.iload_n 3, 1) := dc_of dtX6_reckonNext_0_0_ok (i := 9) rfl
theorem dX6_reckonNext_15 : decode cX6_reckonNext 15 = .ok (.aload_n 0, 1) := dc_of dtX6_reckonNext_0_0_ok (i := 10) rfl
theorem dX6_reckonNext_16 : decode cX6_reckonNext 16 = .ok (.getfield 23, 3) := dc_of dtX6_reckonNext_0_0_ok (i := 11) rfl
theorem dX6_reckonNext_19 : decode cX6_reckonNext 19 = .ok (.getfield 122, 3) := dc_of dtX6_reckonNext_0_0_ok (i := 12) rfl
theorem dX6_reckonNext_22 : decode cX6_reckonNext 22 = .ok (.if_icmp .ge 41, 3) := dc_of dtX6_reckonNext_0_0_ok (i := 13) rfl
theorem dX6_reckonNext_25 : decode cX6_reckonNext 25 = .ok (.aload_n 0, 1) := dc_of dtX6_reckonNext_0_0_ok (i := 14) rfl
theorem dX6_reckonNext_26 : decode cX6_reckonNext 26 = .ok (.aload_n 1, 1) := dc_of dtX6_reckonNext_0_0_ok (i := 15) rfl
theorem dX6_reckonNext_27 : decode cX6_reckonNext 27 = .ok (.iload_n 3, 1) := dc_of dtX6_reckonNext_0_0_ok (i := 16) rfl
theorem dX6_reckonNext_28 : decode cX6_reckonNext 28 = .ok (.invokevirtual 175, 3) := dc_of dtX6_reckonNext_0_0_ok (i := 17) rfl
theorem dX6_reckonNext_31 : decode cX6_reckonNext 31 = .ok (.aload_n 0, 1) := dc_of dtX6_reckonNext_0_0_ok (i := 18) rfl
theorem dX6_reckonNext_32 : decode cX6_reckonNext 32 = .ok (.getfield 42, 3) := dc_of dtX6_reckonNext_0_0_ok (i := 19) rfl
theorem dX6_reckonNext_35 : decode cX6_reckonNext 35 = .ok (.iload_n 3, 1) := dc_of dtX6_reckonNext_0_0_ok (i := 20) rfl
theorem dX6_reckonNext_36 : decode cX6_reckonNext 36 = .ok (.aaload, 1) := dc_of dtX6_reckonNext_0_0_ok (i := 21) rfl
theorem dX6_reckonNext_37 : decode cX6_reckonNext 37 = .ok (.aload_n 0, 1) := dc_of dtX6_reckonNext_0_0_ok (i := 22) rfl
theorem dX6_reckonNext_38 : decode cX6_reckonNext 38 = .ok (.getfield 38, 3) := dc_of dtX6_reckonNext_0_0_ok (i := 23) rfl
theorem dX6_reckonNext_41 : decode cX6_reckonNext 41 = .ok (.iload_n 3, 1) := dc_of dtX6_reckonNext_0_0_ok (i := 24) rfl
theorem dX6_reckonNext_42 : decode cX6_reckonNext 42 = .ok (.aaload, 1) := dc_of dtX6_reckonNext_0_0_ok (i := 25) rfl
theorem dX6_reckonNext_43 : decode cX6_reckonNext 43 = .ok (.aload_n 0, 1) := dc_of dtX6_reckonNext_0_0_ok (i := 26) rfl
theorem dX6_reckonNext_44 : decode cX6_reckonNext 44 = .ok (.getfield 60, 3) := dc_of dtX6_reckonNext_0_0_ok (i := 27) rfl
theorem dX6_reckonNext_47 : decode cX6_reckonNext 47 = .ok (.iload_n 2, 1) := dc_of dtX6_reckonNext_0_0_ok (i := 28) rfl
theorem dX6_reckonNext_48 : decode cX6_reckonNext 48 = .ok (.invokevirtual 179, 3) := dc_of dtX6_reckonNext_0_0_ok (i := 29) rfl
theorem dX6_reckonNext_51 : decode cX6_reckonNext 51 = .ok (.ifCond .ne 6, 3) := dc_of dtX6_reckonNext_0_0_ok (i := 30) rfl
theorem dX6_reckonNext_54 : decode cX6_reckonNext 54 = .ok (.bipush (-3), 2) := dc_of dtX6_reckonNext_0_0_ok (i := 31) rfl
def dtX6_reckonNext_56_1 : List (Nat × Instr × Nat) := [(56, .ireturn, 1), (57, .iinc 3 1, 3), (60, .goto (-46), 3), (63, .aload_n 0, 1), (64, .getfield 23, 3), (67, .getfield 122, 3), (70, .istore_n 3, 1), (71, .iload_n 3, 1), (72, .aload_n 0, 1), (73, .getfield 23, 3), (76, .getfield 96, 3), (79, .if_icmp .ge 45, 3), (82, .aload_n 0, 1), (83, .getfield 30, 3), (86, .aload_n 0, 1), (87, .getfield 23, 3), (90, .getfield 113, 3), (93, .iload_n 3, 1), (94, .aaload, 1), (95, .aload_n 0, 1), (96, .getfield 42, 3), (99, .aload_n 0, 1), (100, .getfield 42, 3), (103, .iload_n 3, 1), (104, .aaload, 1), (105, .invokevirtual 183, 3), (108, .istore 4, 2), (110, .iload 4, 2), (112, .ifCond .eq 6, 3), (115, .iload 4, 2), (117, .ireturn, 1), (118, .iinc 3 1, 3)]
theorem dtX6_reckonNext_56_1_ok : dcAll cX6_reckonNext dtX6_reckonNext_56_1 = true := by decide +kernel
theorem dX6_reckonNext_56 : decode cX6_reckonNext 56 = .ok (.ireturn, 1) := dc_of dtX6_reckonNext_56_1_ok (i := 0) rfl
theorem dX6_reckonNext_57 : decode cX6_reckonNext 57 = .ok (.iinc 3 1, 3) := dc_of dtX6_reckonNext_56_1_ok (i := 1) rfl
theorem dX6_reckonNext_60 : decode cX6_reckonNext 60 = .ok (.goto (-46), 3) := dc_of dtX6_reckonNext_56_1_ok (i := 2) rfl
theorem dX6_reckonNext_63 : decode cX6_reckonNext 63 = .ok (.aload_n 0, 1) := dc_of dtX6_reckonNext_56_1_ok (i := 3) rfl
theorem dX6_reckonNext_64 : decode cX6_reckonNext 64 = .ok (.getfield 23, 3) := dc_of dtX6_reckonNext_56_1_ok (i := 4) rfl
theorem dX6_reckonNext_67 : decode cX6_reckonNext 67 = .ok (.getfield 122, 3) := dc_of dtX6_reckonNext_56_1_ok (i := 5) rfl
theorem dX6_reckonNext_70 : decode cX6_reckonNext 70 = .ok (.istore_n 3, 1) := dc_of dtX6_reckonNext_56_1_ok (i := 6) rfl
theorem dX6_reckonNext_71 : decode cX6_reckonNext 71 = .ok (.iload_n 3, 1) := dc_of dtX6_reckonNext_56_1_ok (i := 7) rfl
theorem dX6_reckonNext_72 : decode cX6_reckonNext 72 = .ok (.aload_n 0, 1) := dc_of dtX6_reckonNext_56_1_ok (i := 8) rfl
theorem dX6_reckonNext_73 : decode cX6_reckonNext 73 = .ok (.getfield 23, 3) := dc_of dtX6_reckonNext_56_1_ok (i := 9) rfl
theorem dX6_reckonNext_76 : decode cX6_reckonNext 76 = .ok (.getfield 96, 3) := dc_of dtX6_reckonNext_56_1_ok (i := 10) rfl
theorem dX6_reckonNext_79 : decode cX6_reckonNext 79 = .ok (.if_icmp .ge 45, 3) := dc_of dtX6_reckonNext_56_1_ok (i := 11) rfl
theorem dX6_reckonNext_82 : decode cX6_reckonNext 82 = .ok (.aload_n 0, 1) := dc_of dtX6_reckonNext_56_1_ok (i := 12) rfl
theorem dX6_reckonNext_83 : decode cX6_reckonNext 83 = .ok (.getfield 30, 3) := dc_of dtX6_reckonNext_56_1_ok (i := 13) rfl
theorem dX6_reckonNext_86 : decode cX6_reckonNext 86 = .ok (.aload_n 0, 1) := dc_of dtX6_reckonNext_56_1_ok (i := 14) rfl
theorem dX6_reckonNext_87 : decode cX6_reckonNext 87 = .ok (.getfield 23, 3) := dc_of dtX6_reckonNext_56_1_ok (i := 15) rfl
theorem dX6_reckonNext_90 : decode cX6_reckonNext 90 = .ok (.getfield 113, 3) := dc_of dtX6_reckonNext_56_1_ok (i := 16) rfl
theorem dX6_reckonNext_93 : decode cX6_reckonNext 93 = .ok (.iload_n 3, 1) := dc_of dtX6_reckonNext_56_1_ok (i := 17) rfl
theorem dX6_reckonNext_94 : decode cX6_reckonNext 94 = .ok (.aaload, 1) := dc_of dtX6_reckonNext_56_1_ok (i := 18) rfl
theorem dX6_reckonNext_95 : decode cX6_reckonNext 95 = .ok (.aload_n 0, 1) := dc_of dtX6_reckonNext_56_1_ok (i := 19) rfl
theorem dX6_reckonNext_96 : decode cX6_reckonNext 96 = .ok (.getfield 42, 3) := dc_of dtX6_reckonNext_56_1_ok (i := 20) rfl
theorem dX6_reckonNext_99 : decode cX6_reckonNext 99 = .ok (.aload_n 0, 1) := dc_of dtX6_reckonNext_56_1_ok (i := 21) rfl
theorem dX6_reckonNext_100 : decode cX6_reckonNext 100 = .ok (.getfield 42, 3) := dc_of dtX6_reckonNext_56_1_ok (i := 22) rfl
theorem dX6_reckonNext_103 : decode cX6_reckonNext 103 = .ok (.iload_n 3, 1) := dc_of dtX6_reckonNext_56_1_ok (i := 23) rfl
theorem dX6_reckonNext_104 : decode cX6_reckonNext 104 = .ok (.aaload, 1) := dc_of dtX6_reckonNext_56_1_ok (i := 24) rfl
theorem dX6_reckonNext_105 : decode cX6_reckonNext 105 = .ok (.invokevirtual 183, 3) := dc_of dtX6_reckonNext_56_1_ok (i := 25) rfl
theorem dX6_reckonNext_108 : decode cX6_reckonNext 108 = .ok (.istore 4, 2) := dc_of dtX6_reckonNext_56_1_ok (i := 26) rfl
theorem dX6_reckonNext_110 : decode cX6_reckonNext 110 = .ok (.iload 4, 2) := dc_of dtX6_reckonNext_56_1_ok (i := 27) rfl
theorem dX6_reckonNext_112 : decode cX6_reckonNext 112 = .ok (.ifCond .eq 6, 3) := dc_of dtX6_reckonNext_56_1_ok (i := 28) rfl
theorem dX6_reckonNext_115 : decode cX6_reckonNext 115 = .ok (.iload 4, 2) := dc_of dtX6_reckonNext_56_1_ok (i := 29) rfl
theorem dX6_reckonNext_117 : decode cX6_reckonNext 117 = .ok (.ireturn, 1) := dc_of dtX6_reckonNext_56_1_ok (i := 30) rfl
theorem dX6_reckonNext_118 : decode cX6_reckonNext 118 = .ok (.iinc 3 1, 3) := dc_of dtX6_reckonNext_56_1_ok (i := 31) rfl
def dtX6_reckonNext_121_2 : List (Nat × Instr × Nat) := [(121, .goto (-50), 3), (124, .iconst 0, 1), (125, .ireturn, 1)]
theorem dtX6_reckonNext_121_2_ok : dcAll cX6_reckonNext dtX6_reckonNext_121_2 = true := by decide +kernel
theorem dX6_reckonNext_121 : decode cX6_reckonNext 121 = .ok (.goto (-50), 3) := dc_of dtX6_reckonNext_121_2_ok (i := 0) rfl
theorem dX6_reckonNext_124 : decode cX6_reckonNext 124 = .ok (.iconst 0, 1) := dc_of dtX6_reckonNext_121_2_ok (i := 1) rfl
theorem dX6_reckonNext_125 : decode cX6_reckonNext 125 = .ok (.ireturn, 1) := dc_of dtX6_reckonNext_121_2_ok (i := 2) rfl
set_option maxRecDepth 20000 in
theorem ggX6_fallsBelowZero_X4_copyKey : GoodIn wsX6_fallsBelowZero wsX4_copyKey := goodIn_r _ [8, 9, 10, 11, 12, 13, 14, 37, 38, 39, 40] rfl gw_wsX4_copyKey
set_option maxRecDepth 20000 in
theorem gX6_fallsBelowZero_X4_copyKey : GoodIn wsX6_fallsBelowZero (wsV RX6 187 RX4 yX4_copyKey wsX4_copyKey) := goodIn_app (goodIn_of _ (by decide +kernel)) ggX6_fallsBelowZero_X4_copyKey
set_option maxRecDepth 20000 in
theorem ggX6_fallsBelowZero_X4_cell : GoodIn wsX6_fallsBelowZero wsX4_cell := goodIn_r _ [18, 9, 37, 38, 39, 40] rfl gw_wsX4_cell
set_option maxRecDepth 20000 in
theorem gX6_fallsBelowZero_X4_cell : GoodIn wsX6_fallsBelowZero (wsV RX6 139 RX4 yX4_cell wsX4_cell) := goodIn_app (goodIn_of _ (by decide +kernel)) ggX6_fallsBelowZero_X4_cell
set_option maxRecDepth 20000 in
theorem gw_wsX4_amountOf : wsX4_amountOf.all goodWord = true := by decide +kernel
set_option maxRecDepth 20000 in
theorem ggX6_fallsBelowZero_X4_amountOf : GoodIn wsX6_fallsBelowZero wsX4_amountOf := goodIn_r _ [22, 23, 24, 25, 7, 26, 27, 28, 29, 30, 31, 10, 9, 32, 33, 34, 35, 37, 38, 39, 40] rfl gw_wsX4_amountOf
set_option maxRecDepth 20000 in
theorem gX6_fallsBelowZero_X4_amountOf : GoodIn wsX6_fallsBelowZero (wsV RX6 191 RX4 yX4_amountOf wsX4_amountOf) := goodIn_app (goodIn_of _ (by decide +kernel)) ggX6_fallsBelowZero_X4_amountOf
set_option maxRecDepth 20000 in
theorem ggX6_fallsBelowZero_X4_amount : GoodIn wsX6_fallsBelowZero wsX4_amount := goodIn_r _ [35, 9, 10, 37, 38, 39, 40] rfl gw_wsX4_amount
set_option maxRecDepth 20000 in
theorem gX6_fallsBelowZero_X4_amount : GoodIn wsX6_fallsBelowZero (wsV RX6 195 RX4 yX4_amount wsX4_amount) := goodIn_app (goodIn_of _ (by decide +kernel)) ggX6_fallsBelowZero_X4_amount
def dtX6_fallsBelowZero_0_0 : List (Nat × Instr × Nat) := [(0, .iconst 0, 1), (1, .istore_n 3, 1), (2, .iload_n 3, 1), (3, .aload_n 1, 1), (4, .getfield 99, 3), (7, .if_icmp .ge 54, 3), (10, .aload_n 1, 1), (11, .iload_n 3, 1), (12, .iconst 1, 1), (13, .aload_n 0, 1), (14, .getfield 66, 3), (17, .invokevirtual 187, 3), (20, .aload_n 0, 1), (21, .getfield 38, 3), (24, .aload_n 1, 1), (25, .iload_n 3, 1), (26, .iconst 0, 1), (27, .invokevirtual 139, 3), (30, .aaload, 1), (31, .aload_n 0, 1), (32, .getfield 66, 3), (35, .invokevirtual 191, 3), (38, .istore 4, 2), (40, .iload 4, 2), (42, .iload_n 2, 1), (43, .aload_n 1, 1), (44, .iload_n 3, 1), (45, .invokevirtual 195, 3), (48, .imul, 1), (49, .iadd, 1), (50, .ifCond .ge 5, 3), (53, .iconst 1, 1)]
theorem dtX6_fallsBelowZero_0_0_ok : dcAll cX6_fallsBelowZero dtX6_fallsBelowZero_0_0 = true := by decide +kernel
theorem dX6_fallsBelowZero_0 : decode cX6_fallsBelowZero 0 = .ok (.iconst 0, 1) := dc_of dtX6_fallsBelowZero_0_0_ok (i := 0) rfl
theorem dX6_fallsBelowZero_1 : decode cX6_fallsBelowZero 1 = .ok (.istore_n 3, 1) := dc_of dtX6_fallsBelowZero_0_0_ok (i := 1) rfl
theorem dX6_fallsBelowZero_2 : decode cX6_fallsBelowZero 2 = .ok (.iload_n 3, 1) := dc_of dtX6_fallsBelowZero_0_0_ok (i := 2) rfl
theorem dX6_fallsBelowZero_3 : decode cX6_fallsBelowZero 3 = .ok (.aload_n 1, 1) := dc_of dtX6_fallsBelowZero_0_0_ok (i := 3) rfl
theorem dX6_fallsBelowZero_4 : decode cX6_fallsBelowZero 4 = .ok (.getfield 99, 3) := dc_of dtX6_fallsBelowZero_0_0_ok (i := 4) rfl
theorem dX6_fallsBelowZero_7 : decode cX6_fallsBelowZero 7 = .ok (.if_icmp .ge 54, 3) := dc_of dtX6_fallsBelowZero_0_0_ok (i := 5) rfl
theorem dX6_fallsBelowZero_10 : decode cX6_fallsBelowZero 10 = .ok (.aload_n 1, 1) := dc_of dtX6_fallsBelowZero_0_0_ok (i := 6) rfl
theorem dX6_fallsBelowZero_11 : decode cX6_fallsBelowZero 11 = .ok (.iload_n 3, 1) := dc_of dtX6_fallsBelowZero_0_0_ok (i := 7) rfl
theorem dX6_fallsBelowZero_12 : decode cX6_fallsBelowZero 12 = .ok (.iconst 1, 1) := dc_of dtX6_fallsBelowZero_0_0_ok (i := 8) rfl
theorem dX6_fallsBelowZero_13 : decode cX6_fallsBelowZero 13 = .ok (.aload_n 0, 1) := dc_of dtX6_fallsBelowZero_0_0_ok (i := 9) rfl
theorem dX6_fallsBelowZero_14 : decode cX6_fallsBelowZero 14 = .ok (.getfield 66, 3) := dc_of dtX6_fallsBelowZero_0_0_ok (i := 10) rfl
theorem dX6_fallsBelowZero_17 : decode cX6_fallsBelowZero 17 = .ok (.invokevirtual 187, 3) := dc_of dtX6_fallsBelowZero_0_0_ok (i := 11) rfl
theorem dX6_fallsBelowZero_20 : decode cX6_fallsBelowZero 20 = .ok (.aload_n 0, 1) := dc_of dtX6_fallsBelowZero_0_0_ok (i := 12) rfl
theorem dX6_fallsBelowZero_21 : decode cX6_fallsBelowZero 21 = .ok (.getfield 38, 3) := dc_of dtX6_fallsBelowZero_0_0_ok (i := 13) rfl
theorem dX6_fallsBelowZero_24 : decode cX6_fallsBelowZero 24 = .ok (.aload_n 1, 1) := dc_of dtX6_fallsBelowZero_0_0_ok (i := 14) rfl
theorem dX6_fallsBelowZero_25 : decode cX6_fallsBelowZero 25 = .ok (.iload_n 3, 1) := dc_of dtX6_fallsBelowZero_0_0_ok (i := 15) rfl
theorem dX6_fallsBelowZero_26 : decode cX6_fallsBelowZero 26 = .ok (.iconst 0, 1) := dc_of dtX6_fallsBelowZero_0_0_ok (i := 16) rfl
theorem dX6_fallsBelowZero_27 : decode cX6_fallsBelowZero 27 = .ok (.invokevirtual 139, 3) := dc_of dtX6_fallsBelowZero_0_0_ok (i := 17) rfl
theorem dX6_fallsBelowZero_30 : decode cX6_fallsBelowZero 30 = .ok (.aaload, 1) := dc_of dtX6_fallsBelowZero_0_0_ok (i := 18) rfl
theorem dX6_fallsBelowZero_31 : decode cX6_fallsBelowZero 31 = .ok (.aload_n 0, 1) := dc_of dtX6_fallsBelowZero_0_0_ok (i := 19) rfl
theorem dX6_fallsBelowZero_32 : decode cX6_fallsBelowZero 32 = .ok (.getfield 66, 3) := dc_of dtX6_fallsBelowZero_0_0_ok (i := 20) rfl
theorem dX6_fallsBelowZero_35 : decode cX6_fallsBelowZero 35 = .ok (.invokevirtual 191, 3) := dc_of dtX6_fallsBelowZero_0_0_ok (i := 21) rfl
theorem dX6_fallsBelowZero_38 : decode cX6_fallsBelowZero 38 = .ok (.istore 4, 2) := dc_of dtX6_fallsBelowZero_0_0_ok (i := 22) rfl
theorem dX6_fallsBelowZero_40 : decode cX6_fallsBelowZero 40 = .ok (.iload 4, 2) := dc_of dtX6_fallsBelowZero_0_0_ok (i := 23) rfl
theorem dX6_fallsBelowZero_42 : decode cX6_fallsBelowZero 42 = .ok (.iload_n 2, 1) := dc_of dtX6_fallsBelowZero_0_0_ok (i := 24) rfl
theorem dX6_fallsBelowZero_43 : decode cX6_fallsBelowZero 43 = .ok (.aload_n 1, 1) := dc_of dtX6_fallsBelowZero_0_0_ok (i := 25) rfl
theorem dX6_fallsBelowZero_44 : decode cX6_fallsBelowZero 44 = .ok (.iload_n 3, 1) := dc_of dtX6_fallsBelowZero_0_0_ok (i := 26) rfl
theorem dX6_fallsBelowZero_45 : decode cX6_fallsBelowZero 45 = .ok (.invokevirtual 195, 3) := dc_of dtX6_fallsBelowZero_0_0_ok (i := 27) rfl
theorem dX6_fallsBelowZero_48 : decode cX6_fallsBelowZero 48 = .ok (.imul, 1) := dc_of dtX6_fallsBelowZero_0_0_ok (i := 28) rfl
theorem dX6_fallsBelowZero_49 : decode cX6_fallsBelowZero 49 = .ok (.iadd, 1) := dc_of dtX6_fallsBelowZero_0_0_ok (i := 29) rfl
theorem dX6_fallsBelowZero_50 : decode cX6_fallsBelowZero 50 = .ok (.ifCond .ge 5, 3) := dc_of dtX6_fallsBelowZero_0_0_ok (i := 30) rfl
theorem dX6_fallsBelowZero_53 : decode cX6_fallsBelowZero 53 = .ok (.iconst 1, 1) := dc_of dtX6_fallsBelowZero_0_0_ok (i := 31) rfl
def dtX6_fallsBelowZero_54_1 : List (Nat × Instr × Nat) := [(54, .ireturn, 1), (55, .iinc 3 1, 3), (58, .goto (-56), 3), (61, .iconst 0, 1), (62, .ireturn, 1)]
theorem dtX6_fallsBelowZero_54_1_ok : dcAll cX6_fallsBelowZero dtX6_fallsBelowZero_54_1 = true := by decide +kernel
theorem dX6_fallsBelowZero_54 : decode cX6_fallsBelowZero 54 = .ok (.ireturn, 1) := dc_of dtX6_fallsBelowZero_54_1_ok (i := 0) rfl
theorem dX6_fallsBelowZero_55 : decode cX6_fallsBelowZero 55 = .ok (.iinc 3 1, 3) := dc_of dtX6_fallsBelowZero_54_1_ok (i := 1) rfl
theorem dX6_fallsBelowZero_58 : decode cX6_fallsBelowZero 58 = .ok (.goto (-56), 3) := dc_of dtX6_fallsBelowZero_54_1_ok (i := 2) rfl
theorem dX6_fallsBelowZero_61 : decode cX6_fallsBelowZero 61 = .ok (.iconst 0, 1) := dc_of dtX6_fallsBelowZero_54_1_ok (i := 3) rfl
theorem dX6_fallsBelowZero_62 : decode cX6_fallsBelowZero 62 = .ok (.ireturn, 1) := dc_of dtX6_fallsBelowZero_54_1_ok (i := 4) rfl
set_option maxRecDepth 20000 in
theorem ggX6_pickChanges_X4_cell : GoodIn wsX6_pickChanges wsX4_cell := goodIn_r _ [8, 9, 47, 48, 49, 50] rfl gw_wsX4_cell
set_option maxRecDepth 20000 in
theorem gX6_pickChanges_X4_cell : GoodIn wsX6_pickChanges (wsV RX6 139 RX4 yX4_cell wsX4_cell) := goodIn_app (goodIn_of _ (by decide +kernel)) ggX6_pickChanges_X4_cell
set_option maxRecDepth 20000 in
theorem ggX6_pickChanges_X4_copyKey : GoodIn wsX6_pickChanges wsX4_copyKey := goodIn_r _ [13, 9, 14, 15, 16, 17, 18, 47, 48, 49, 50] rfl gw_wsX4_copyKey
set_option maxRecDepth 20000 in
theorem gX6_pickChanges_X4_copyKey : GoodIn wsX6_pickChanges (wsV RX6 187 RX4 yX4_copyKey wsX4_copyKey) := goodIn_app (goodIn_of _ (by decide +kernel)) ggX6_pickChanges_X4_copyKey
set_option maxRecDepth 20000 in
theorem ggX6_pickChanges_X4_amount : GoodIn wsX6_pickChanges wsX4_amount := goodIn_r _ [22, 9, 14, 47, 48, 49, 50] rfl gw_wsX4_amount
set_option maxRecDepth 20000 in
theorem gX6_pickChanges_X4_amount : GoodIn wsX6_pickChanges (wsV RX6 195 RX4 yX4_amount wsX4_amount) := goodIn_app (goodIn_of _ (by decide +kernel)) ggX6_pickChanges_X4_amount
set_option maxRecDepth 20000 in
theorem ggX6_pickChanges_X4_insert : GoodIn wsX6_pickChanges wsX4_insert := goodIn_r _ [26, 27, 28, 9, 15, 16, 17, 18, 14, 47, 48, 49, 50] rfl gw_wsX4_insert
set_option maxRecDepth 20000 in
theorem gX6_pickChanges_X4_insert : GoodIn wsX6_pickChanges (wsV RX6 199 RX4 yX4_insert wsX4_insert) := goodIn_app (goodIn_of _ (by decide +kernel)) ggX6_pickChanges_X4_insert
def dtX6_pickChanges_0_0 : List (Nat × Instr × Nat) := [(0, .aload_n 0, 1), (1, .getfield 60, 3), (4, .iconst 0, 1), (5, .putfield 99, 3), (8, .iconst 0, 1), (9, .istore_n 3, 1), (10, .iload_n 3, 1), (11, .aload_n 1, 1), (12, .getfield 99, 3), (15, .if_icmp .ge 53, 3), (18, .aload_n 1, 1), (19, .iload_n 3, 1), (20, .iconst 0, 1), (21, .invokevirtual 139, 3), (24, .iload_n 2, 1), (25, .if_icmp .ne 37, 3), (28, .aload_n 1, 1), (29, .iload_n 3, 1), (30, .iconst 1, 1), (31, .aload_n 0, 1), (32, .getfield 66, 3), (35, .invokevirtual 187, 3), (38, .aload_n 0, 1), (39, .getfield 60, 3), (42, .aload_n 0, 1), (43, .getfield 60, 3), (46, .getfield 99, 3), (49, .aload_n 0, 1), (50, .getfield 66, 3), (53, .aload_n 1, 1), (54, .iload_n 3, 1), (55, .invokevirtual 195, 3)]
theorem dtX6_pickChanges_0_0_ok : dcAll cX6_pickChanges dtX6_pickChanges_0_0 = true := by decide +kernel
theorem dX6_pickChanges_0 : decode cX6_pickChanges 0 = .ok (.aload_n 0, 1) := dc_of dtX6_pickChanges_0_0_ok (i := 0) rfl
theorem dX6_pickChanges_1 : decode cX6_pickChanges 1 = .ok (.getfield 60, 3) := dc_of dtX6_pickChanges_0_0_ok (i := 1) rfl
theorem dX6_pickChanges_4 : decode cX6_pickChanges 4 = .ok (.iconst 0, 1) := dc_of dtX6_pickChanges_0_0_ok (i := 2) rfl
theorem dX6_pickChanges_5 : decode cX6_pickChanges 5 = .ok (.putfield 99, 3) := dc_of dtX6_pickChanges_0_0_ok (i := 3) rfl
theorem dX6_pickChanges_8 : decode cX6_pickChanges 8 = .ok (.iconst 0, 1) := dc_of dtX6_pickChanges_0_0_ok (i := 4) rfl
theorem dX6_pickChanges_9 : decode cX6_pickChanges 9 = .ok (.istore_n 3, 1) := dc_of dtX6_pickChanges_0_0_ok (i := 5) rfl
theorem dX6_pickChanges_10 : decode cX6_pickChanges 10 = .ok (.iload_n 3, 1) := dc_of dtX6_pickChanges_0_0_ok (i := 6) rfl
theorem dX6_pickChanges_11 : decode cX6_pickChanges 11 = .ok (.aload_n 1, 1) := dc_of dtX6_pickChanges_0_0_ok (i := 7) rfl
theorem dX6_pickChanges_12 : decode cX6_pickChanges 12 = .ok (.getfield 99, 3) := dc_of dtX6_pickChanges_0_0_ok (i := 8) rfl
theorem dX6_pickChanges_15 : decode cX6_pickChanges 15 = .ok (.if_icmp .ge 53, 3) := dc_of dtX6_pickChanges_0_0_ok (i := 9) rfl
theorem dX6_pickChanges_18 : decode cX6_pickChanges 18 = .ok (.aload_n 1, 1) := dc_of dtX6_pickChanges_0_0_ok (i := 10) rfl
theorem dX6_pickChanges_19 : decode cX6_pickChanges 19 = .ok (.iload_n 3, 1) := dc_of dtX6_pickChanges_0_0_ok (i := 11) rfl
theorem dX6_pickChanges_20 : decode cX6_pickChanges 20 = .ok (.iconst 0, 1) := dc_of dtX6_pickChanges_0_0_ok (i := 12) rfl
theorem dX6_pickChanges_21 : decode cX6_pickChanges 21 = .ok (.invokevirtual 139, 3) := dc_of dtX6_pickChanges_0_0_ok (i := 13) rfl
theorem dX6_pickChanges_24 : decode cX6_pickChanges 24 = .ok (.iload_n 2, 1) := dc_of dtX6_pickChanges_0_0_ok (i := 14) rfl
theorem dX6_pickChanges_25 : decode cX6_pickChanges 25 = .ok (.if_icmp .ne 37, 3) := dc_of dtX6_pickChanges_0_0_ok (i := 15) rfl
theorem dX6_pickChanges_28 : decode cX6_pickChanges 28 = .ok (.aload_n 1, 1) := dc_of dtX6_pickChanges_0_0_ok (i := 16) rfl
theorem dX6_pickChanges_29 : decode cX6_pickChanges 29 = .ok (.iload_n 3, 1) := dc_of dtX6_pickChanges_0_0_ok (i := 17) rfl
theorem dX6_pickChanges_30 : decode cX6_pickChanges 30 = .ok (.iconst 1, 1) := dc_of dtX6_pickChanges_0_0_ok (i := 18) rfl
theorem dX6_pickChanges_31 : decode cX6_pickChanges 31 = .ok (.aload_n 0, 1) := dc_of dtX6_pickChanges_0_0_ok (i := 19) rfl
theorem dX6_pickChanges_32 : decode cX6_pickChanges 32 = .ok (.getfield 66, 3) := dc_of dtX6_pickChanges_0_0_ok (i := 20) rfl
theorem dX6_pickChanges_35 : decode cX6_pickChanges 35 = .ok (.invokevirtual 187, 3) := dc_of dtX6_pickChanges_0_0_ok (i := 21) rfl
theorem dX6_pickChanges_38 : decode cX6_pickChanges 38 = .ok (.aload_n 0, 1) := dc_of dtX6_pickChanges_0_0_ok (i := 22) rfl
theorem dX6_pickChanges_39 : decode cX6_pickChanges 39 = .ok (.getfield 60, 3) := dc_of dtX6_pickChanges_0_0_ok (i := 23) rfl
theorem dX6_pickChanges_42 : decode cX6_pickChanges 42 = .ok (.aload_n 0, 1) := dc_of dtX6_pickChanges_0_0_ok (i := 24) rfl
theorem dX6_pickChanges_43 : decode cX6_pickChanges 43 = .ok (.getfield 60, 3) := dc_of dtX6_pickChanges_0_0_ok (i := 25) rfl
theorem dX6_pickChanges_46 : decode cX6_pickChanges 46 = .ok (.getfield 99, 3) := dc_of dtX6_pickChanges_0_0_ok (i := 26) rfl
theorem dX6_pickChanges_49 : decode cX6_pickChanges 49 = .ok (.aload_n 0, 1) := dc_of dtX6_pickChanges_0_0_ok (i := 27) rfl
theorem dX6_pickChanges_50 : decode cX6_pickChanges 50 = .ok (.getfield 66, 3) := dc_of dtX6_pickChanges_0_0_ok (i := 28) rfl
theorem dX6_pickChanges_53 : decode cX6_pickChanges 53 = .ok (.aload_n 1, 1) := dc_of dtX6_pickChanges_0_0_ok (i := 29) rfl
theorem dX6_pickChanges_54 : decode cX6_pickChanges 54 = .ok (.iload_n 3, 1) := dc_of dtX6_pickChanges_0_0_ok (i := 30) rfl
theorem dX6_pickChanges_55 : decode cX6_pickChanges 55 = .ok (.invokevirtual 195, 3) := dc_of dtX6_pickChanges_0_0_ok (i := 31) rfl
def dtX6_pickChanges_58_1 : List (Nat × Instr × Nat) := [(58, .invokevirtual 199, 3), (61, .pop, 1), (62, .iinc 3 1, 3), (65, .goto (-55), 3), (68, .return_, 1)]
theorem dtX6_pickChanges_58_1_ok : dcAll cX6_pickChanges dtX6_pickChanges_58_1 = true := by decide +kernel
theorem dX6_pickChanges_58 : decode cX6_pickChanges 58 = .ok (.invokevirtual 199, 3) := dc_of dtX6_pickChanges_58_1_ok (i := 0) rfl
theorem dX6_pickChanges_61 : decode cX6_pickChanges 61 = .ok (.pop, 1) := dc_of dtX6_pickChanges_58_1_ok (i := 1) rfl
theorem dX6_pickChanges_62 : decode cX6_pickChanges 62 = .ok (.iinc 3 1, 3) := dc_of dtX6_pickChanges_58_1_ok (i := 2) rfl
theorem dX6_pickChanges_65 : decode cX6_pickChanges 65 = .ok (.goto (-55), 3) := dc_of dtX6_pickChanges_58_1_ok (i := 3) rfl
theorem dX6_pickChanges_68 : decode cX6_pickChanges 68 = .ok (.return_, 1) := dc_of dtX6_pickChanges_58_1_ok (i := 4) rfl
set_option maxRecDepth 20000 in
theorem ggX6_takeNext_X4_gather : GoodIn wsX6_takeNext wsX4_gather := goodIn_r _ [10, 11, 12, 13, 9, 14, 15, 16, 17, 18, 19, 20, 21, 22, 23, 24, 25, 26, 27, 28, 29, 30, 31, 32, 33, 55, 56, 57, 58] rfl gw_wsX4_gather
set_option maxRecDepth 20000 in
theorem gX6_takeNext_X4_gather : GoodIn wsX6_takeNext (wsV RX6 179 RX4 yX4_gather wsX4_gather) := goodIn_app (goodIn_of _ (by decide +kernel)) ggX6_takeNext_X4_gather
def dtX6_takeNext_0_0 : List (Nat × Instr × Nat) := [(0, .iconst 0, 1), (1, .istore_n 1, 1), (2, .iload_n 1, 1), (3, .aload_n 0, 1), (4, .getfield 23, 3), (7, .getfield 96, 3), (10, .if_icmp .ge 32, 3), (13, .aload_n 0, 1), (14, .getfield 45, 3), (17, .iload_n 1, 1), (18, .aaload, 1), (19, .aload_n 0, 1), (20, .getfield 42, 3), (23, .iload_n 1, 1), (24, .aaload, 1), (25, .aload_n 0, 1), (26, .getfield 38, 3), (29, .iload_n 1, 1), (30, .aaload, 1), (31, .iconst (-1), 1), (32, .invokevirtual 179, 3), (35, .pop, 1), (36, .iinc 1 1, 3), (39, .goto (-37), 3), (42, .aload_n 0, 1), (43, .getfield 38, 3), (46, .astore_n 1, 1), (47, .aload_n 0, 1), (48, .aload_n 0, 1), (49, .getfield 42, 3), (52, .putfield 38, 3), (55, .aload_n 0, 1)]
theorem dtX6_takeNext_0_0_ok : dcAll cX6_takeNext dtX6_takeNext_0_0 = true := by decide +kernel
theorem dX6_takeNext_0 : decode cX6_takeNext 0 = .ok (.iconst 0, 1) := dc_of dtX6_takeNext_0_0_ok (i := 0) rfl
theorem dX6_takeNext_1 : decode cX6_takeNext 1 = .ok (.istore_n 1, 1) := dc_of dtX6_takeNext_0_0_ok (i := 1) rfl
theorem dX6_takeNext_2 : decode cX6_takeNext 2 = .ok (.iload_n 1, 1) := dc_of dtX6_takeNext_0_0_ok (i := 2) rfl
theorem dX6_takeNext_3 : decode cX6_takeNext 3 = .ok (.aload_n 0, 1) := dc_of dtX6_takeNext_0_0_ok (i := 3) rfl
theorem dX6_takeNext_4 : decode cX6_takeNext 4 = .ok (.getfield 23, 3) := dc_of dtX6_takeNext_0_0_ok (i := 4) rfl
theorem dX6_takeNext_7 : decode cX6_takeNext 7 = .ok (.getfield 96, 3) := dc_of dtX6_takeNext_0_0_ok (i := 5) rfl
theorem dX6_takeNext_10 : decode cX6_takeNext 10 = .ok (.if_icmp .ge 32, 3) := dc_of dtX6_takeNext_0_0_ok (i := 6) rfl
theorem dX6_takeNext_13 : decode cX6_takeNext 13 = .ok (.aload_n 0, 1) := dc_of dtX6_takeNext_0_0_ok (i := 7) rfl
theorem dX6_takeNext_14 : decode cX6_takeNext 14 = .ok (.getfield 45, 3) := dc_of dtX6_takeNext_0_0_ok (i := 8) rfl
theorem dX6_takeNext_17 : decode cX6_takeNext 17 = .ok (.iload_n 1, 1) := dc_of dtX6_takeNext_0_0_ok (i := 9) rfl
theorem dX6_takeNext_18 : decode cX6_takeNext 18 = .ok (.aaload, 1) := dc_of dtX6_takeNext_0_0_ok (i := 10) rfl
theorem dX6_takeNext_19 : decode cX6_takeNext 19 = .ok (.aload_n 0, 1) := dc_of dtX6_takeNext_0_0_ok (i := 11) rfl
theorem dX6_takeNext_20 : decode cX6_takeNext 20 = .ok (.getfield 42, 3) := dc_of dtX6_takeNext_0_0_ok (i := 12) rfl
theorem dX6_takeNext_23 : decode cX6_takeNext 23 = .ok (.iload_n 1, 1) := dc_of dtX6_takeNext_0_0_ok (i := 13) rfl
theorem dX6_takeNext_24 : decode cX6_takeNext 24 = .ok (.aaload, 1) := dc_of dtX6_takeNext_0_0_ok (i := 14) rfl
theorem dX6_takeNext_25 : decode cX6_takeNext 25 = .ok (.aload_n 0, 1) := dc_of dtX6_takeNext_0_0_ok (i := 15) rfl
theorem dX6_takeNext_26 : decode cX6_takeNext 26 = .ok (.getfield 38, 3) := dc_of dtX6_takeNext_0_0_ok (i := 16) rfl
theorem dX6_takeNext_29 : decode cX6_takeNext 29 = .ok (.iload_n 1, 1) := dc_of dtX6_takeNext_0_0_ok (i := 17) rfl
theorem dX6_takeNext_30 : decode cX6_takeNext 30 = .ok (.aaload, 1) := dc_of dtX6_takeNext_0_0_ok (i := 18) rfl
theorem dX6_takeNext_31 : decode cX6_takeNext 31 = .ok (.iconst (-1), 1) := dc_of dtX6_takeNext_0_0_ok (i := 19) rfl
theorem dX6_takeNext_32 : decode cX6_takeNext 32 = .ok (.invokevirtual 179, 3) := dc_of dtX6_takeNext_0_0_ok (i := 20) rfl
theorem dX6_takeNext_35 : decode cX6_takeNext 35 = .ok (.pop, 1) := dc_of dtX6_takeNext_0_0_ok (i := 21) rfl
theorem dX6_takeNext_36 : decode cX6_takeNext 36 = .ok (.iinc 1 1, 3) := dc_of dtX6_takeNext_0_0_ok (i := 22) rfl
theorem dX6_takeNext_39 : decode cX6_takeNext 39 = .ok (.goto (-37), 3) := dc_of dtX6_takeNext_0_0_ok (i := 23) rfl
theorem dX6_takeNext_42 : decode cX6_takeNext 42 = .ok (.aload_n 0, 1) := dc_of dtX6_takeNext_0_0_ok (i := 24) rfl
theorem dX6_takeNext_43 : decode cX6_takeNext 43 = .ok (.getfield 38, 3) := dc_of dtX6_takeNext_0_0_ok (i := 25) rfl
theorem dX6_takeNext_46 : decode cX6_takeNext 46 = .ok (.astore_n 1, 1) := dc_of dtX6_takeNext_0_0_ok (i := 26) rfl
theorem dX6_takeNext_47 : decode cX6_takeNext 47 = .ok (.aload_n 0, 1) := dc_of dtX6_takeNext_0_0_ok (i := 27) rfl
theorem dX6_takeNext_48 : decode cX6_takeNext 48 = .ok (.aload_n 0, 1) := dc_of dtX6_takeNext_0_0_ok (i := 28) rfl
theorem dX6_takeNext_49 : decode cX6_takeNext 49 = .ok (.getfield 42, 3) := dc_of dtX6_takeNext_0_0_ok (i := 29) rfl
theorem dX6_takeNext_52 : decode cX6_takeNext 52 = .ok (.putfield 38, 3) := dc_of dtX6_takeNext_0_0_ok (i := 30) rfl
theorem dX6_takeNext_55 : decode cX6_takeNext 55 = .ok (.aload_n 0, 1) := dc_of dtX6_takeNext_0_0_ok (i := 31) rfl
def dtX6_takeNext_56_1 : List (Nat × Instr × Nat) := [(56, .aload_n 1, 1), (57, .putfield 42, 3), (60, .return_, 1)]
theorem dtX6_takeNext_56_1_ok : dcAll cX6_takeNext dtX6_takeNext_56_1 = true := by decide +kernel
theorem dX6_takeNext_56 : decode cX6_takeNext 56 = .ok (.aload_n 1, 1) := dc_of dtX6_takeNext_56_1_ok (i := 0) rfl
theorem dX6_takeNext_57 : decode cX6_takeNext 57 = .ok (.putfield 42, 3) := dc_of dtX6_takeNext_56_1_ok (i := 1) rfl
theorem dX6_takeNext_60 : decode cX6_takeNext 60 = .ok (.return_, 1) := dc_of dtX6_takeNext_56_1_ok (i := 2) rfl
set_option maxRecDepth 20000 in
theorem ggX6_size_X6_isRelation : GoodIn wsX6_size wsX6_isRelation := goodIn_r _ [7, 8, 9, 10, 11, 12, 13, 14, 15, 16, 17, 18, 19, 20, 21, 22, 23, 24, 25, 26, 27, 32, 33, 34] rfl gw_wsX6_isRelation
set_option maxRecDepth 20000 in
theorem gX6_size_X6_isRelation : GoodIn wsX6_size (wsV RX6 109 RX6 yX6_isRelation wsX6_isRelation) := goodIn_app (goodIn_of _ (by decide +kernel)) ggX6_size_X6_isRelation
def dtX6_size_0_0 : List (Nat × Instr × Nat) := [(0, .aload_n 0, 1), (1, .iload_n 1, 1), (2, .invokevirtual 109, 3), (5, .ifCond .eq 15, 3), (8, .aload_n 0, 1), (9, .getfield 38, 3), (12, .iload_n 1, 1), (13, .aaload, 1), (14, .getfield 99, 3), (17, .goto 4, 3), (20, .iconst (-1), 1), (21, .ireturn, 1)]
theorem dtX6_size_0_0_ok : dcAll cX6_size dtX6_size_0_0 = true := by decide +kernel
theorem dX6_size_0 : decode cX6_size 0 = .ok (.aload_n 0, 1) := dc_of dtX6_size_0_0_ok (i := 0) rfl
theorem dX6_size_1 : decode cX6_size 1 = .ok (.iload_n 1, 1) := dc_of dtX6_size_0_0_ok (i := 1) rfl
theorem dX6_size_2 : decode cX6_size 2 = .ok (.invokevirtual 109, 3) := dc_of dtX6_size_0_0_ok (i := 2) rfl
theorem dX6_size_5 : decode cX6_size 5 = .ok (.ifCond .eq 15, 3) := dc_of dtX6_size_0_0_ok (i := 3) rfl
theorem dX6_size_8 : decode cX6_size 8 = .ok (.aload_n 0, 1) := dc_of dtX6_size_0_0_ok (i := 4) rfl
theorem dX6_size_9 : decode cX6_size 9 = .ok (.getfield 38, 3) := dc_of dtX6_size_0_0_ok (i := 5) rfl
theorem dX6_size_12 : decode cX6_size 12 = .ok (.iload_n 1, 1) := dc_of dtX6_size_0_0_ok (i := 6) rfl
theorem dX6_size_13 : decode cX6_size 13 = .ok (.aaload, 1) := dc_of dtX6_size_0_0_ok (i := 7) rfl
theorem dX6_size_14 : decode cX6_size 14 = .ok (.getfield 99, 3) := dc_of dtX6_size_0_0_ok (i := 8) rfl
theorem dX6_size_17 : decode cX6_size 17 = .ok (.goto 4, 3) := dc_of dtX6_size_0_0_ok (i := 9) rfl
theorem dX6_size_20 : decode cX6_size 20 = .ok (.iconst (-1), 1) := dc_of dtX6_size_0_0_ok (i := 10) rfl
theorem dX6_size_21 : decode cX6_size 21 = .ok (.ireturn, 1) := dc_of dtX6_size_0_0_ok (i := 11) rfl
set_option maxRecDepth 20000 in
set_option maxRecDepth 20000 in
set_option maxRecDepth 20000 in
set_option maxRecDepth 20000 in
def dtX6_at_0_0 : List (Nat × Instr × Nat) := [(0, .aload_n 0, 1), (1, .iload_n 1, 1), (2, .invokevirtual 109, 3), (5, .ifCond .ne 13, 3), (8, .new 132, 3), (11, .dup, 1), (12, .ldc 203, 2), (14, .invokespecial 136, 3), (17, .athrow, 1), (18, .aload_n 0, 1), (19, .getfield 38, 3), (22, .iload_n 1, 1), (23, .aaload, 1), (24, .aload_n 0, 1), (25, .getfield 23, 3), (28, .getfield 113, 3), (31, .iload_n 1, 1), (32, .aaload, 1), (33, .getfield 125, 3), (36, .iload_n 2, 1), (37, .iload_n 3, 1), (38, .invokestatic 205, 3), (41, .ireturn, 1)]
theorem dtX6_at_0_0_ok : dcAll cX6_at dtX6_at_0_0 = true := by decide +kernel
theorem dX6_at_0 : decode cX6_at 0 = .ok (.aload_n 0, 1) := dc_of dtX6_at_0_0_ok (i := 0) rfl
theorem dX6_at_1 : decode cX6_at 1 = .ok (.iload_n 1, 1) := dc_of dtX6_at_0_0_ok (i := 1) rfl
theorem dX6_at_2 : decode cX6_at 2 = .ok (.invokevirtual 109, 3) := dc_of dtX6_at_0_0_ok (i := 2) rfl
theorem dX6_at_5 : decode cX6_at 5 = .ok (.ifCond .ne 13, 3) := dc_of dtX6_at_0_0_ok (i := 3) rfl
theorem dX6_at_8 : decode cX6_at 8 = .ok (.new 132, 3) := dc_of dtX6_at_0_0_ok (i := 4) rfl
theorem dX6_at_11 : decode cX6_at 11 = .ok (.dup, 1) := dc_of dtX6_at_0_0_ok (i := 5) rfl
theorem dX6_at_12 : decode cX6_at 12 = .ok (.ldc 203, 2) := dc_of dtX6_at_0_0_ok (i := 6) rfl
theorem dX6_at_14 : decode cX6_at 14 = .ok (.invokespecial 136, 3) := dc_of dtX6_at_0_0_ok (i := 7) rfl
theorem dX6_at_17 : decode cX6_at 17 = .ok (.athrow, 1) := dc_of dtX6_at_0_0_ok (i := 8) rfl
theorem dX6_at_18 : decode cX6_at 18 = .ok (.aload_n 0, 1) := dc_of dtX6_at_0_0_ok (i := 9) rfl
theorem dX6_at_19 : decode cX6_at 19 = .ok (.getfield 38, 3) := dc_of dtX6_at_0_0_ok (i := 10) rfl
theorem dX6_at_22 : decode cX6_at 22 = .ok (.iload_n 1, 1) := dc_of dtX6_at_0_0_ok (i := 11) rfl
theorem dX6_at_23 : decode cX6_at 23 = .ok (.aaload, 1) := dc_of dtX6_at_0_0_ok (i := 12) rfl
theorem dX6_at_24 : decode cX6_at 24 = .ok (.aload_n 0, 1) := dc_of dtX6_at_0_0_ok (i := 13) rfl
theorem dX6_at_25 : decode cX6_at 25 = .ok (.getfield 23, 3) := dc_of dtX6_at_0_0_ok (i := 14) rfl
theorem dX6_at_28 : decode cX6_at 28 = .ok (.getfield 113, 3) := dc_of dtX6_at_0_0_ok (i := 15) rfl
theorem dX6_at_31 : decode cX6_at 31 = .ok (.iload_n 1, 1) := dc_of dtX6_at_0_0_ok (i := 16) rfl
theorem dX6_at_32 : decode cX6_at 32 = .ok (.aaload, 1) := dc_of dtX6_at_0_0_ok (i := 17) rfl
theorem dX6_at_33 : decode cX6_at 33 = .ok (.getfield 125, 3) := dc_of dtX6_at_0_0_ok (i := 18) rfl
theorem dX6_at_36 : decode cX6_at 36 = .ok (.iload_n 2, 1) := dc_of dtX6_at_0_0_ok (i := 19) rfl
theorem dX6_at_37 : decode cX6_at 37 = .ok (.iload_n 3, 1) := dc_of dtX6_at_0_0_ok (i := 20) rfl
theorem dX6_at_38 : decode cX6_at 38 = .ok (.invokestatic 205, 3) := dc_of dtX6_at_0_0_ok (i := 21) rfl
theorem dX6_at_41 : decode cX6_at 41 = .ok (.ireturn, 1) := dc_of dtX6_at_0_0_ok (i := 22) rfl
set_option maxRecDepth 20000 in
set_option maxRecDepth 20000 in
set_option maxRecDepth 20000 in
set_option maxRecDepth 20000 in
def dtX6_tupleCell_0_0 : List (Nat × Instr × Nat) := [(0, .iload_n 2, 1), (1, .ifCond .lt 11, 3), (4, .iload_n 2, 1), (5, .aload_n 0, 1), (6, .getfield 99, 3), (9, .if_icmp .lt 13, 3), (12, .new 132, 3), (15, .dup, 1), (16, .ldc 209, 2), (18, .invokespecial 136, 3), (21, .athrow, 1), (22, .iload_n 3, 1), (23, .iconst 4, 1), (24, .if_icmp .ne 9, 3), (27, .aload_n 0, 1), (28, .iload_n 2, 1), (29, .invokevirtual 195, 3), (32, .ireturn, 1), (33, .iload_n 3, 1), (34, .ifCond .lt 8, 3), (37, .iload_n 3, 1), (38, .iload_n 1, 1), (39, .if_icmp .lt 13, 3), (42, .new 132, 3), (45, .dup, 1), (46, .ldc 143, 2), (48, .invokespecial 136, 3), (51, .athrow, 1), (52, .aload_n 0, 1), (53, .iload_n 2, 1), (54, .iload_n 3, 1), (55, .invokevirtual 139, 3)]
theorem dtX6_tupleCell_0_0_ok : dcAll cX6_tupleCell dtX6_tupleCell_0_0 = true := by decide +kernel
theorem dX6_tupleCell_0 : decode cX6_tupleCell 0 = .ok (.iload_n 2, 1) := dc_of dtX6_tupleCell_0_0_ok (i := 0) rfl
theorem dX6_tupleCell_1 : decode cX6_tupleCell 1 = .ok (.ifCond .lt 11, 3) := dc_of dtX6_tupleCell_0_0_ok (i := 1) rfl
theorem dX6_tupleCell_4 : decode cX6_tupleCell 4 = .ok (.iload_n 2, 1) := dc_of dtX6_tupleCell_0_0_ok (i := 2) rfl
theorem dX6_tupleCell_5 : decode cX6_tupleCell 5 = .ok (.aload_n 0, 1) := dc_of dtX6_tupleCell_0_0_ok (i := 3) rfl
theorem dX6_tupleCell_6 : decode cX6_tupleCell 6 = .ok (.getfield 99, 3) := dc_of dtX6_tupleCell_0_0_ok (i := 4) rfl
theorem dX6_tupleCell_9 : decode cX6_tupleCell 9 = .ok (.if_icmp .lt 13, 3) := dc_of dtX6_tupleCell_0_0_ok (i := 5) rfl
theorem dX6_tupleCell_12 : decode cX6_tupleCell 12 = .ok (.new 132, 3) := dc_of dtX6_tupleCell_0_0_ok (i := 6) rfl
theorem dX6_tupleCell_15 : decode cX6_tupleCell 15 = .ok (.dup, 1) := dc_of dtX6_tupleCell_0_0_ok (i := 7) rfl
theorem dX6_tupleCell_16 : decode cX6_tupleCell 16 = .ok (.ldc 209, 2) := dc_of dtX6_tupleCell_0_0_ok (i := 8) rfl
theorem dX6_tupleCell_18 : decode cX6_tupleCell 18 = .ok (.invokespecial 136, 3) := dc_of dtX6_tupleCell_0_0_ok (i := 9) rfl
theorem dX6_tupleCell_21 : decode cX6_tupleCell 21 = .ok (.athrow, 1) := dc_of dtX6_tupleCell_0_0_ok (i := 10) rfl
theorem dX6_tupleCell_22 : decode cX6_tupleCell 22 = .ok (.iload_n 3, 1) := dc_of dtX6_tupleCell_0_0_ok (i := 11) rfl
theorem dX6_tupleCell_23 : decode cX6_tupleCell 23 = .ok (.iconst 4, 1) := dc_of dtX6_tupleCell_0_0_ok (i := 12) rfl
theorem dX6_tupleCell_24 : decode cX6_tupleCell 24 = .ok (.if_icmp .ne 9, 3) := dc_of dtX6_tupleCell_0_0_ok (i := 13) rfl
theorem dX6_tupleCell_27 : decode cX6_tupleCell 27 = .ok (.aload_n 0, 1) := dc_of dtX6_tupleCell_0_0_ok (i := 14) rfl
theorem dX6_tupleCell_28 : decode cX6_tupleCell 28 = .ok (.iload_n 2, 1) := dc_of dtX6_tupleCell_0_0_ok (i := 15) rfl
theorem dX6_tupleCell_29 : decode cX6_tupleCell 29 = .ok (.invokevirtual 195, 3) := dc_of dtX6_tupleCell_0_0_ok (i := 16) rfl
theorem dX6_tupleCell_32 : decode cX6_tupleCell 32 = .ok (.ireturn, 1) := dc_of dtX6_tupleCell_0_0_ok (i := 17) rfl
theorem dX6_tupleCell_33 : decode cX6_tupleCell 33 = .ok (.iload_n 3, 1) := dc_of dtX6_tupleCell_0_0_ok (i := 18) rfl
theorem dX6_tupleCell_34 : decode cX6_tupleCell 34 = .ok (.ifCond .lt 8, 3) := dc_of dtX6_tupleCell_0_0_ok (i := 19) rfl
theorem dX6_tupleCell_37 : decode cX6_tupleCell 37 = .ok (.iload_n 3, 1) := dc_of dtX6_tupleCell_0_0_ok (i := 20) rfl
theorem dX6_tupleCell_38 : decode cX6_tupleCell 38 = .ok (.iload_n 1, 1) := dc_of dtX6_tupleCell_0_0_ok (i := 21) rfl
theorem dX6_tupleCell_39 : decode cX6_tupleCell 39 = .ok (.if_icmp .lt 13, 3) := dc_of dtX6_tupleCell_0_0_ok (i := 22) rfl
theorem dX6_tupleCell_42 : decode cX6_tupleCell 42 = .ok (.new 132, 3) := dc_of dtX6_tupleCell_0_0_ok (i := 23) rfl
theorem dX6_tupleCell_45 : decode cX6_tupleCell 45 = .ok (.dup, 1) := dc_of dtX6_tupleCell_0_0_ok (i := 24) rfl
theorem dX6_tupleCell_46 : decode cX6_tupleCell 46 = .ok (.ldc 143, 2) := dc_of dtX6_tupleCell_0_0_ok (i := 25) rfl
theorem dX6_tupleCell_48 : decode cX6_tupleCell 48 = .ok (.invokespecial 136, 3) := dc_of dtX6_tupleCell_0_0_ok (i := 26) rfl
theorem dX6_tupleCell_51 : decode cX6_tupleCell 51 = .ok (.athrow, 1) := dc_of dtX6_tupleCell_0_0_ok (i := 27) rfl
theorem dX6_tupleCell_52 : decode cX6_tupleCell 52 = .ok (.aload_n 0, 1) := dc_of dtX6_tupleCell_0_0_ok (i := 28) rfl
theorem dX6_tupleCell_53 : decode cX6_tupleCell 53 = .ok (.iload_n 2, 1) := dc_of dtX6_tupleCell_0_0_ok (i := 29) rfl
theorem dX6_tupleCell_54 : decode cX6_tupleCell 54 = .ok (.iload_n 3, 1) := dc_of dtX6_tupleCell_0_0_ok (i := 30) rfl
theorem dX6_tupleCell_55 : decode cX6_tupleCell 55 = .ok (.invokevirtual 139, 3) := dc_of dtX6_tupleCell_0_0_ok (i := 31) rfl
def dtX6_tupleCell_58_1 : List (Nat × Instr × Nat) := [(58, .ireturn, 1)]
theorem dtX6_tupleCell_58_1_ok : dcAll cX6_tupleCell dtX6_tupleCell_58_1 = true := by decide +kernel
theorem dX6_tupleCell_58 : decode cX6_tupleCell 58 = .ok (.ireturn, 1) := dc_of dtX6_tupleCell_58_1_ok (i := 0) rfl
set_option maxRecDepth 20000 in
set_option maxRecDepth 20000 in
set_option maxRecDepth 20000 in
set_option maxRecDepth 20000 in
set_option maxRecDepth 20000 in
set_option maxRecDepth 20000 in
def dtX6_count_0_0 : List (Nat × Instr × Nat) := [(0, .aload_n 0, 1), (1, .iload_n 1, 1), (2, .invokevirtual 109, 3), (5, .ifCond .ne 13, 3), (8, .new 132, 3), (11, .dup, 1), (12, .ldc 203, 2), (14, .invokespecial 136, 3), (17, .athrow, 1), (18, .aload_n 0, 1), (19, .aload_n 0, 1), (20, .getfield 23, 3), (23, .getfield 113, 3), (26, .iload_n 1, 1), (27, .aaload, 1), (28, .getfield 125, 3), (31, .iload_n 2, 1), (32, .iload_n 3, 1), (33, .iload 4, 2), (35, .iload 5, 2), (37, .invokevirtual 211, 3), (40, .aload_n 0, 1), (41, .getfield 38, 3), (44, .iload_n 1, 1), (45, .aaload, 1), (46, .aload_n 0, 1), (47, .getfield 66, 3), (50, .invokevirtual 191, 3), (53, .ireturn, 1)]
theorem dtX6_count_0_0_ok : dcAll cX6_count dtX6_count_0_0 = true := by decide +kernel
theorem dX6_count_0 : decode cX6_count 0 = .ok (.aload_n 0, 1) := dc_of dtX6_count_0_0_ok (i := 0) rfl
theorem dX6_count_1 : decode cX6_count 1 = .ok (.iload_n 1, 1) := dc_of dtX6_count_0_0_ok (i := 1) rfl
theorem dX6_count_2 : decode cX6_count 2 = .ok (.invokevirtual 109, 3) := dc_of dtX6_count_0_0_ok (i := 2) rfl
theorem dX6_count_5 : decode cX6_count 5 = .ok (.ifCond .ne 13, 3) := dc_of dtX6_count_0_0_ok (i := 3) rfl
theorem dX6_count_8 : decode cX6_count 8 = .ok (.new 132, 3) := dc_of dtX6_count_0_0_ok (i := 4) rfl
theorem dX6_count_11 : decode cX6_count 11 = .ok (.dup, 1) := dc_of dtX6_count_0_0_ok (i := 5) rfl
theorem dX6_count_12 : decode cX6_count 12 = .ok (.ldc 203, 2) := dc_of dtX6_count_0_0_ok (i := 6) rfl
theorem dX6_count_14 : decode cX6_count 14 = .ok (.invokespecial 136, 3) := dc_of dtX6_count_0_0_ok (i := 7) rfl
theorem dX6_count_17 : decode cX6_count 17 = .ok (.athrow, 1) := dc_of dtX6_count_0_0_ok (i := 8) rfl
theorem dX6_count_18 : decode cX6_count 18 = .ok (.aload_n 0, 1) := dc_of dtX6_count_0_0_ok (i := 9) rfl
theorem dX6_count_19 : decode cX6_count 19 = .ok (.aload_n 0, 1) := dc_of dtX6_count_0_0_ok (i := 10) rfl
theorem dX6_count_20 : decode cX6_count 20 = .ok (.getfield 23, 3) := dc_of dtX6_count_0_0_ok (i := 11) rfl
theorem dX6_count_23 : decode cX6_count 23 = .ok (.getfield 113, 3) := dc_of dtX6_count_0_0_ok (i := 12) rfl
theorem dX6_count_26 : decode cX6_count 26 = .ok (.iload_n 1, 1) := dc_of dtX6_count_0_0_ok (i := 13) rfl
theorem dX6_count_27 : decode cX6_count 27 = .ok (.aaload, 1) := dc_of dtX6_count_0_0_ok (i := 14) rfl
theorem dX6_count_28 : decode cX6_count 28 = .ok (.getfield 125, 3) := dc_of dtX6_count_0_0_ok (i := 15) rfl
theorem dX6_count_31 : decode cX6_count 31 = .ok (.iload_n 2, 1) := dc_of dtX6_count_0_0_ok (i := 16) rfl
theorem dX6_count_32 : decode cX6_count 32 = .ok (.iload_n 3, 1) := dc_of dtX6_count_0_0_ok (i := 17) rfl
theorem dX6_count_33 : decode cX6_count 33 = .ok (.iload 4, 2) := dc_of dtX6_count_0_0_ok (i := 18) rfl
theorem dX6_count_35 : decode cX6_count 35 = .ok (.iload 5, 2) := dc_of dtX6_count_0_0_ok (i := 19) rfl
theorem dX6_count_37 : decode cX6_count 37 = .ok (.invokevirtual 211, 3) := dc_of dtX6_count_0_0_ok (i := 20) rfl
theorem dX6_count_40 : decode cX6_count 40 = .ok (.aload_n 0, 1) := dc_of dtX6_count_0_0_ok (i := 21) rfl
theorem dX6_count_41 : decode cX6_count 41 = .ok (.getfield 38, 3) := dc_of dtX6_count_0_0_ok (i := 22) rfl
theorem dX6_count_44 : decode cX6_count 44 = .ok (.iload_n 1, 1) := dc_of dtX6_count_0_0_ok (i := 23) rfl
theorem dX6_count_45 : decode cX6_count 45 = .ok (.aaload, 1) := dc_of dtX6_count_0_0_ok (i := 24) rfl
theorem dX6_count_46 : decode cX6_count 46 = .ok (.aload_n 0, 1) := dc_of dtX6_count_0_0_ok (i := 25) rfl
theorem dX6_count_47 : decode cX6_count 47 = .ok (.getfield 66, 3) := dc_of dtX6_count_0_0_ok (i := 26) rfl
theorem dX6_count_50 : decode cX6_count 50 = .ok (.invokevirtual 191, 3) := dc_of dtX6_count_0_0_ok (i := 27) rfl
theorem dX6_count_53 : decode cX6_count 53 = .ok (.ireturn, 1) := dc_of dtX6_count_0_0_ok (i := 28) rfl
def dtX6_setKey_0_0 : List (Nat × Instr × Nat) := [(0, .aload_n 0, 1), (1, .getfield 66, 3), (4, .iconst 0, 1), (5, .iload_n 2, 1), (6, .iastore, 1), (7, .aload_n 0, 1), (8, .getfield 66, 3), (11, .iconst 1, 1), (12, .iload_n 1, 1), (13, .iconst 1, 1), (14, .if_icmp .le 7, 3), (17, .iload_n 3, 1), (18, .goto 4, 3), (21, .iconst 0, 1), (22, .iastore, 1), (23, .aload_n 0, 1), (24, .getfield 66, 3), (27, .iconst 2, 1), (28, .iload_n 1, 1), (29, .iconst 2, 1), (30, .if_icmp .le 8, 3), (33, .iload 4, 2), (35, .goto 4, 3), (38, .iconst 0, 1), (39, .iastore, 1), (40, .aload_n 0, 1), (41, .getfield 66, 3), (44, .iconst 3, 1), (45, .iload_n 1, 1), (46, .iconst 3, 1), (47, .if_icmp .le 8, 3), (50, .iload 5, 2)]
theorem dtX6_setKey_0_0_ok : dcAll cX6_setKey dtX6_setKey_0_0 = true := by decide +kernel
theorem dX6_setKey_0 : decode cX6_setKey 0 = .ok (.aload_n 0, 1) := dc_of dtX6_setKey_0_0_ok (i := 0) rfl
theorem dX6_setKey_1 : decode cX6_setKey 1 = .ok (.getfield 66, 3) := dc_of dtX6_setKey_0_0_ok (i := 1) rfl
theorem dX6_setKey_4 : decode cX6_setKey 4 = .ok (.iconst 0, 1) := dc_of dtX6_setKey_0_0_ok (i := 2) rfl
theorem dX6_setKey_5 : decode cX6_setKey 5 = .ok (.iload_n 2, 1) := dc_of dtX6_setKey_0_0_ok (i := 3) rfl
theorem dX6_setKey_6 : decode cX6_setKey 6 = .ok (.iastore, 1) := dc_of dtX6_setKey_0_0_ok (i := 4) rfl
theorem dX6_setKey_7 : decode cX6_setKey 7 = .ok (.aload_n 0, 1) := dc_of dtX6_setKey_0_0_ok (i := 5) rfl
theorem dX6_setKey_8 : decode cX6_setKey 8 = .ok (.getfield 66, 3) := dc_of dtX6_setKey_0_0_ok (i := 6) rfl
theorem dX6_setKey_11 : decode cX6_setKey 11 = .ok (.iconst 1, 1) := dc_of dtX6_setKey_0_0_ok (i := 7) rfl
theorem dX6_setKey_12 : decode cX6_setKey 12 = .ok (.iload_n 1, 1) := dc_of dtX6_setKey_0_0_ok (i := 8) rfl
theorem dX6_setKey_13 : decode cX6_setKey 13 = .ok (.iconst 1, 1) := dc_of dtX6_setKey_0_0_ok (i := 9) rfl
theorem dX6_setKey_14 : decode cX6_setKey 14 = .ok (.if_icmp .le 7, 3) := dc_of dtX6_setKey_0_0_ok (i := 10) rfl
theorem dX6_setKey_17 : decode cX6_setKey 17 = .ok (.iload_n 3, 1) := dc_of dtX6_setKey_0_0_ok (i := 11) rfl
theorem dX6_setKey_18 : decode cX6_setKey 18 = .ok (.goto 4, 3) := dc_of dtX6_setKey_0_0_ok (i := 12) rfl
theorem dX6_setKey_21 : decode cX6_setKey 21 = .ok (.iconst 0, 1) := dc_of dtX6_setKey_0_0_ok (i := 13) rfl
theorem dX6_setKey_22 : decode cX6_setKey 22 = .ok (.iastore, 1) := dc_of dtX6_setKey_0_0_ok (i := 14) rfl
theorem dX6_setKey_23 : decode cX6_setKey 23 = .ok (.aload_n 0, 1) := dc_of dtX6_setKey_0_0_ok (i := 15) rfl
theorem dX6_setKey_24 : decode cX6_setKey 24 = .ok (.getfield 66, 3) := dc_of dtX6_setKey_0_0_ok (i := 16) rfl
theorem dX6_setKey_27 : decode cX6_setKey 27 = .ok (.iconst 2, 1) := dc_of dtX6_setKey_0_0_ok (i := 17) rfl
theorem dX6_setKey_28 : decode cX6_setKey 28 = .ok (.iload_n 1, 1) := dc_of dtX6_setKey_0_0_ok (i := 18) rfl
theorem dX6_setKey_29 : decode cX6_setKey 29 = .ok (.iconst 2, 1) := dc_of dtX6_setKey_0_0_ok (i := 19) rfl
theorem dX6_setKey_30 : decode cX6_setKey 30 = .ok (.if_icmp .le 8, 3) := dc_of dtX6_setKey_0_0_ok (i := 20) rfl
theorem dX6_setKey_33 : decode cX6_setKey 33 = .ok (.iload 4, 2) := dc_of dtX6_setKey_0_0_ok (i := 21) rfl
theorem dX6_setKey_35 : decode cX6_setKey 35 = .ok (.goto 4, 3) := dc_of dtX6_setKey_0_0_ok (i := 22) rfl
theorem dX6_setKey_38 : decode cX6_setKey 38 = .ok (.iconst 0, 1) := dc_of dtX6_setKey_0_0_ok (i := 23) rfl
theorem dX6_setKey_39 : decode cX6_setKey 39 = .ok (.iastore, 1) := dc_of dtX6_setKey_0_0_ok (i := 24) rfl
theorem dX6_setKey_40 : decode cX6_setKey 40 = .ok (.aload_n 0, 1) := dc_of dtX6_setKey_0_0_ok (i := 25) rfl
theorem dX6_setKey_41 : decode cX6_setKey 41 = .ok (.getfield 66, 3) := dc_of dtX6_setKey_0_0_ok (i := 26) rfl
theorem dX6_setKey_44 : decode cX6_setKey 44 = .ok (.iconst 3, 1) := dc_of dtX6_setKey_0_0_ok (i := 27) rfl
theorem dX6_setKey_45 : decode cX6_setKey 45 = .ok (.iload_n 1, 1) := dc_of dtX6_setKey_0_0_ok (i := 28) rfl
theorem dX6_setKey_46 : decode cX6_setKey 46 = .ok (.iconst 3, 1) := dc_of dtX6_setKey_0_0_ok (i := 29) rfl
theorem dX6_setKey_47 : decode cX6_setKey 47 = .ok (.if_icmp .le 8, 3) := dc_of dtX6_setKey_0_0_ok (i := 30) rfl
theorem dX6_setKey_50 : decode cX6_setKey 50 = .ok (.iload 5, 2) := dc_of dtX6_setKey_0_0_ok (i := 31) rfl
def dtX6_setKey_52_1 : List (Nat × Instr × Nat) := [(52, .goto 4, 3), (55, .iconst 0, 1), (56, .iastore, 1), (57, .return_, 1)]
theorem dtX6_setKey_52_1_ok : dcAll cX6_setKey dtX6_setKey_52_1 = true := by decide +kernel
theorem dX6_setKey_52 : decode cX6_setKey 52 = .ok (.goto 4, 3) := dc_of dtX6_setKey_52_1_ok (i := 0) rfl
theorem dX6_setKey_55 : decode cX6_setKey 55 = .ok (.iconst 0, 1) := dc_of dtX6_setKey_52_1_ok (i := 1) rfl
theorem dX6_setKey_56 : decode cX6_setKey 56 = .ok (.iastore, 1) := dc_of dtX6_setKey_52_1_ok (i := 2) rfl
theorem dX6_setKey_57 : decode cX6_setKey 57 = .ok (.return_, 1) := dc_of dtX6_setKey_52_1_ok (i := 3) rfl
set_option maxRecDepth 20000 in
set_option maxRecDepth 20000 in
set_option maxRecDepth 20000 in
set_option maxRecDepth 20000 in
def dtX6_total_0_0 : List (Nat × Instr × Nat) := [(0, .aload_n 0, 1), (1, .iload_n 1, 1), (2, .invokevirtual 109, 3), (5, .ifCond .ne 13, 3), (8, .new 132, 3), (11, .dup, 1), (12, .ldc 203, 2), (14, .invokespecial 136, 3), (17, .athrow, 1), (18, .aload_n 0, 1), (19, .getfield 38, 3), (22, .iload_n 1, 1), (23, .aaload, 1), (24, .astore_n 2, 1), (25, .iconst 0, 1), (26, .istore_n 3, 1), (27, .iconst 0, 1), (28, .istore 4, 2), (30, .iload 4, 2), (32, .aload_n 2, 1), (33, .getfield 99, 3), (36, .if_icmp .ge 18, 3), (39, .iload_n 3, 1), (40, .aload_n 2, 1), (41, .iload 4, 2), (43, .invokevirtual 195, 3), (46, .iadd, 1), (47, .istore_n 3, 1), (48, .iinc 4 1, 3), (51, .goto (-21), 3), (54, .iload_n 3, 1), (55, .ireturn, 1)]
theorem dtX6_total_0_0_ok : dcAll cX6_total dtX6_total_0_0 = true := by decide +kernel
theorem dX6_total_0 : decode cX6_total 0 = .ok (.aload_n 0, 1) := dc_of dtX6_total_0_0_ok (i := 0) rfl
theorem dX6_total_1 : decode cX6_total 1 = .ok (.iload_n 1, 1) := dc_of dtX6_total_0_0_ok (i := 1) rfl
theorem dX6_total_2 : decode cX6_total 2 = .ok (.invokevirtual 109, 3) := dc_of dtX6_total_0_0_ok (i := 2) rfl
theorem dX6_total_5 : decode cX6_total 5 = .ok (.ifCond .ne 13, 3) := dc_of dtX6_total_0_0_ok (i := 3) rfl
theorem dX6_total_8 : decode cX6_total 8 = .ok (.new 132, 3) := dc_of dtX6_total_0_0_ok (i := 4) rfl
theorem dX6_total_11 : decode cX6_total 11 = .ok (.dup, 1) := dc_of dtX6_total_0_0_ok (i := 5) rfl
theorem dX6_total_12 : decode cX6_total 12 = .ok (.ldc 203, 2) := dc_of dtX6_total_0_0_ok (i := 6) rfl
theorem dX6_total_14 : decode cX6_total 14 = .ok (.invokespecial 136, 3) := dc_of dtX6_total_0_0_ok (i := 7) rfl
theorem dX6_total_17 : decode cX6_total 17 = .ok (.athrow, 1) := dc_of dtX6_total_0_0_ok (i := 8) rfl
theorem dX6_total_18 : decode cX6_total 18 = .ok (.aload_n 0, 1) := dc_of dtX6_total_0_0_ok (i := 9) rfl
theorem dX6_total_19 : decode cX6_total 19 = .ok (.getfield 38, 3) := dc_of dtX6_total_0_0_ok (i := 10) rfl
theorem dX6_total_22 : decode cX6_total 22 = .ok (.iload_n 1, 1) := dc_of dtX6_total_0_0_ok (i := 11) rfl
theorem dX6_total_23 : decode cX6_total 23 = .ok (.aaload, 1) := dc_of dtX6_total_0_0_ok (i := 12) rfl
theorem dX6_total_24 : decode cX6_total 24 = .ok (.astore_n 2, 1) := dc_of dtX6_total_0_0_ok (i := 13) rfl
theorem dX6_total_25 : decode cX6_total 25 = .ok (.iconst 0, 1) := dc_of dtX6_total_0_0_ok (i := 14) rfl
theorem dX6_total_26 : decode cX6_total 26 = .ok (.istore_n 3, 1) := dc_of dtX6_total_0_0_ok (i := 15) rfl
theorem dX6_total_27 : decode cX6_total 27 = .ok (.iconst 0, 1) := dc_of dtX6_total_0_0_ok (i := 16) rfl
theorem dX6_total_28 : decode cX6_total 28 = .ok (.istore 4, 2) := dc_of dtX6_total_0_0_ok (i := 17) rfl
theorem dX6_total_30 : decode cX6_total 30 = .ok (.iload 4, 2) := dc_of dtX6_total_0_0_ok (i := 18) rfl
theorem dX6_total_32 : decode cX6_total 32 = .ok (.aload_n 2, 1) := dc_of dtX6_total_0_0_ok (i := 19) rfl
theorem dX6_total_33 : decode cX6_total 33 = .ok (.getfield 99, 3) := dc_of dtX6_total_0_0_ok (i := 20) rfl
theorem dX6_total_36 : decode cX6_total 36 = .ok (.if_icmp .ge 18, 3) := dc_of dtX6_total_0_0_ok (i := 21) rfl
theorem dX6_total_39 : decode cX6_total 39 = .ok (.iload_n 3, 1) := dc_of dtX6_total_0_0_ok (i := 22) rfl
theorem dX6_total_40 : decode cX6_total 40 = .ok (.aload_n 2, 1) := dc_of dtX6_total_0_0_ok (i := 23) rfl
theorem dX6_total_41 : decode cX6_total 41 = .ok (.iload 4, 2) := dc_of dtX6_total_0_0_ok (i := 24) rfl
theorem dX6_total_43 : decode cX6_total 43 = .ok (.invokevirtual 195, 3) := dc_of dtX6_total_0_0_ok (i := 25) rfl
theorem dX6_total_46 : decode cX6_total 46 = .ok (.iadd, 1) := dc_of dtX6_total_0_0_ok (i := 26) rfl
theorem dX6_total_47 : decode cX6_total 47 = .ok (.istore_n 3, 1) := dc_of dtX6_total_0_0_ok (i := 27) rfl
theorem dX6_total_48 : decode cX6_total 48 = .ok (.iinc 4 1, 3) := dc_of dtX6_total_0_0_ok (i := 28) rfl
theorem dX6_total_51 : decode cX6_total 51 = .ok (.goto (-21), 3) := dc_of dtX6_total_0_0_ok (i := 29) rfl
theorem dX6_total_54 : decode cX6_total 54 = .ok (.iload_n 3, 1) := dc_of dtX6_total_0_0_ok (i := 30) rfl
theorem dX6_total_55 : decode cX6_total 55 = .ok (.ireturn, 1) := dc_of dtX6_total_0_0_ok (i := 31) rfl
set_option maxRecDepth 20000 in
set_option maxRecDepth 20000 in
set_option maxRecDepth 20000 in
set_option maxRecDepth 20000 in
set_option maxRecDepth 20000 in
set_option maxRecDepth 20000 in
def dtX6_column_0_0 : List (Nat × Instr × Nat) := [(0, .aload_n 0, 1), (1, .iload_n 1, 1), (2, .invokevirtual 109, 3), (5, .ifCond .ne 13, 3), (8, .new 132, 3), (11, .dup, 1), (12, .ldc 203, 2), (14, .invokespecial 136, 3), (17, .athrow, 1), (18, .iload_n 2, 1), (19, .ifCond .lt 28, 3), (22, .iload_n 2, 1), (23, .aload_n 0, 1), (24, .getfield 23, 3), (27, .getfield 113, 3), (30, .iload_n 1, 1), (31, .aaload, 1), (32, .getfield 125, 3), (35, .if_icmp .ge 12, 3), (38, .iload_n 3, 1), (39, .ifCond .lt 8, 3), (42, .iload_n 3, 1), (43, .iconst 2, 1), (44, .if_icmp .le 13, 3), (47, .new 132, 3), (50, .dup, 1), (51, .ldc 143, 2), (53, .invokespecial 136, 3), (56, .athrow, 1), (57, .aload_n 0, 1), (58, .aload_n 0, 1), (59, .getfield 38, 3)]
theorem dtX6_column_0_0_ok : dcAll cX6_column dtX6_column_0_0 = true := by decide +kernel
theorem dX6_column_0 : decode cX6_column 0 = .ok (.aload_n 0, 1) := dc_of dtX6_column_0_0_ok (i := 0) rfl
theorem dX6_column_1 : decode cX6_column 1 = .ok (.iload_n 1, 1) := dc_of dtX6_column_0_0_ok (i := 1) rfl
theorem dX6_column_2 : decode cX6_column 2 = .ok (.invokevirtual 109, 3) := dc_of dtX6_column_0_0_ok (i := 2) rfl
theorem dX6_column_5 : decode cX6_column 5 = .ok (.ifCond .ne 13, 3) := dc_of dtX6_column_0_0_ok (i := 3) rfl
theorem dX6_column_8 : decode cX6_column 8 = .ok (.new 132, 3) := dc_of dtX6_column_0_0_ok (i := 4) rfl
theorem dX6_column_11 : decode cX6_column 11 = .ok (.dup, 1) := dc_of dtX6_column_0_0_ok (i := 5) rfl
theorem dX6_column_12 : decode cX6_column 12 = .ok (.ldc 203, 2) := dc_of dtX6_column_0_0_ok (i := 6) rfl
theorem dX6_column_14 : decode cX6_column 14 = .ok (.invokespecial 136, 3) := dc_of dtX6_column_0_0_ok (i := 7) rfl
theorem dX6_column_17 : decode cX6_column 17 = .ok (.athrow, 1) := dc_of dtX6_column_0_0_ok (i := 8) rfl
theorem dX6_column_18 : decode cX6_column 18 = .ok (.iload_n 2, 1) := dc_of dtX6_column_0_0_ok (i := 9) rfl
theorem dX6_column_19 : decode cX6_column 19 = .ok (.ifCond .lt 28, 3) := dc_of dtX6_column_0_0_ok (i := 10) rfl
theorem dX6_column_22 : decode cX6_column 22 = .ok (.iload_n 2, 1) := dc_of dtX6_column_0_0_ok (i := 11) rfl
theorem dX6_column_23 : decode cX6_column 23 = .ok (.aload_n 0, 1) := dc_of dtX6_column_0_0_ok (i := 12) rfl
theorem dX6_column_24 : decode cX6_column 24 = .ok (.getfield 23, 3) := dc_of dtX6_column_0_0_ok (i := 13) rfl
theorem dX6_column_27 : decode cX6_column 27 = .ok (.getfield 113, 3) := dc_of dtX6_column_0_0_ok (i := 14) rfl
theorem dX6_column_30 : decode cX6_column 30 = .ok (.iload_n 1, 1) := dc_of dtX6_column_0_0_ok (i := 15) rfl
theorem dX6_column_31 : decode cX6_column 31 = .ok (.aaload, 1) := dc_of dtX6_column_0_0_ok (i := 16) rfl
theorem dX6_column_32 : decode cX6_column 32 = .ok (.getfield 125, 3) := dc_of dtX6_column_0_0_ok (i := 17) rfl
theorem dX6_column_35 : decode cX6_column 35 = .ok (.if_icmp .ge 12, 3) := dc_of dtX6_column_0_0_ok (i := 18) rfl
theorem dX6_column_38 : decode cX6_column 38 = .ok (.iload_n 3, 1) := dc_of dtX6_column_0_0_ok (i := 19) rfl
theorem dX6_column_39 : decode cX6_column 39 = .ok (.ifCond .lt 8, 3) := dc_of dtX6_column_0_0_ok (i := 20) rfl
theorem dX6_column_42 : decode cX6_column 42 = .ok (.iload_n 3, 1) := dc_of dtX6_column_0_0_ok (i := 21) rfl
theorem dX6_column_43 : decode cX6_column 43 = .ok (.iconst 2, 1) := dc_of dtX6_column_0_0_ok (i := 22) rfl
theorem dX6_column_44 : decode cX6_column 44 = .ok (.if_icmp .le 13, 3) := dc_of dtX6_column_0_0_ok (i := 23) rfl
theorem dX6_column_47 : decode cX6_column 47 = .ok (.new 132, 3) := dc_of dtX6_column_0_0_ok (i := 24) rfl
theorem dX6_column_50 : decode cX6_column 50 = .ok (.dup, 1) := dc_of dtX6_column_0_0_ok (i := 25) rfl
theorem dX6_column_51 : decode cX6_column 51 = .ok (.ldc 143, 2) := dc_of dtX6_column_0_0_ok (i := 26) rfl
theorem dX6_column_53 : decode cX6_column 53 = .ok (.invokespecial 136, 3) := dc_of dtX6_column_0_0_ok (i := 27) rfl
theorem dX6_column_56 : decode cX6_column 56 = .ok (.athrow, 1) := dc_of dtX6_column_0_0_ok (i := 28) rfl
theorem dX6_column_57 : decode cX6_column 57 = .ok (.aload_n 0, 1) := dc_of dtX6_column_0_0_ok (i := 29) rfl
theorem dX6_column_58 : decode cX6_column 58 = .ok (.aload_n 0, 1) := dc_of dtX6_column_0_0_ok (i := 30) rfl
theorem dX6_column_59 : decode cX6_column 59 = .ok (.getfield 38, 3) := dc_of dtX6_column_0_0_ok (i := 31) rfl
def dtX6_column_62_1 : List (Nat × Instr × Nat) := [(62, .iload_n 1, 1), (63, .aaload, 1), (64, .iload_n 2, 1), (65, .invokevirtual 215, 3), (68, .iload_n 3, 1), (69, .iconst 2, 1), (70, .if_icmp .ne 11, 3), (73, .aload_n 0, 1), (74, .getfield 63, 3), (77, .getfield 99, 3), (80, .ireturn, 1), (81, .aload_n 0, 1), (82, .getfield 63, 3), (85, .getfield 99, 3), (88, .ifCond .ne 13, 3), (91, .new 132, 3), (94, .dup, 1), (95, .ldc 218, 2), (97, .invokespecial 136, 3), (100, .athrow, 1), (101, .aload_n 0, 1), (102, .getfield 63, 3), (105, .iload_n 3, 1), (106, .ifCond .ne 7, 3), (109, .iconst 0, 1), (110, .goto 12, 3), (113, .aload_n 0, 1), (114, .getfield 63, 3), (117, .getfield 99, 3), (120, .iconst 1, 1), (121, .isub, 1), (122, .iconst 0, 1)]
theorem dtX6_column_62_1_ok : dcAll cX6_column dtX6_column_62_1 = true := by decide +kernel
theorem dX6_column_62 : decode cX6_column 62 = .ok (.iload_n 1, 1) := dc_of dtX6_column_62_1_ok (i := 0) rfl
theorem dX6_column_63 : decode cX6_column 63 = .ok (.aaload, 1) := dc_of dtX6_column_62_1_ok (i := 1) rfl
theorem dX6_column_64 : decode cX6_column 64 = .ok (.iload_n 2, 1) := dc_of dtX6_column_62_1_ok (i := 2) rfl
theorem dX6_column_65 : decode cX6_column 65 = .ok (.invokevirtual 215, 3) := dc_of dtX6_column_62_1_ok (i := 3) rfl
theorem dX6_column_68 : decode cX6_column 68 = .ok (.iload_n 3, 1) := dc_of dtX6_column_62_1_ok (i := 4) rfl
theorem dX6_column_69 : decode cX6_column 69 = .ok (.iconst 2, 1) := dc_of dtX6_column_62_1_ok (i := 5) rfl
theorem dX6_column_70 : decode cX6_column 70 = .ok (.if_icmp .ne 11, 3) := dc_of dtX6_column_62_1_ok (i := 6) rfl
theorem dX6_column_73 : decode cX6_column 73 = .ok (.aload_n 0, 1) := dc_of dtX6_column_62_1_ok (i := 7) rfl
theorem dX6_column_74 : decode cX6_column 74 = .ok (.getfield 63, 3) := dc_of dtX6_column_62_1_ok (i := 8) rfl
theorem dX6_column_77 : decode cX6_column 77 = .ok (.getfield 99, 3) := dc_of dtX6_column_62_1_ok (i := 9) rfl
theorem dX6_column_80 : decode cX6_column 80 = .ok (.ireturn, 1) := dc_of dtX6_column_62_1_ok (i := 10) rfl
theorem dX6_column_81 : decode cX6_column 81 = .ok (.aload_n 0, 1) := dc_of dtX6_column_62_1_ok (i := 11) rfl
theorem dX6_column_82 : decode cX6_column 82 = .ok (.getfield 63, 3) := dc_of dtX6_column_62_1_ok (i := 12) rfl
theorem dX6_column_85 : decode cX6_column 85 = .ok (.getfield 99, 3) := dc_of dtX6_column_62_1_ok (i := 13) rfl
theorem dX6_column_88 : decode cX6_column 88 = .ok (.ifCond .ne 13, 3) := dc_of dtX6_column_62_1_ok (i := 14) rfl
theorem dX6_column_91 : decode cX6_column 91 = .ok (.new 132, 3) := dc_of dtX6_column_62_1_ok (i := 15) rfl
theorem dX6_column_94 : decode cX6_column 94 = .ok (.dup, 1) := dc_of dtX6_column_62_1_ok (i := 16) rfl
theorem dX6_column_95 : decode cX6_column 95 = .ok (.ldc 218, 2) := dc_of dtX6_column_62_1_ok (i := 17) rfl
theorem dX6_column_97 : decode cX6_column 97 = .ok (.invokespecial 136, 3) := dc_of dtX6_column_62_1_ok (i := 18) rfl
theorem dX6_column_100 : decode cX6_column 100 = .ok (.athrow, 1) := dc_of dtX6_column_62_1_ok (i := 19) rfl
theorem dX6_column_101 : decode cX6_column 101 = .ok (.aload_n 0, 1) := dc_of dtX6_column_62_1_ok (i := 20) rfl
theorem dX6_column_102 : decode cX6_column 102 = .ok (.getfield 63, 3) := dc_of dtX6_column_62_1_ok (i := 21) rfl
theorem dX6_column_105 : decode cX6_column 105 = .ok (.iload_n 3, 1) := dc_of dtX6_column_62_1_ok (i := 22) rfl
theorem dX6_column_106 : decode cX6_column 106 = .ok (.ifCond .ne 7, 3) := dc_of dtX6_column_62_1_ok (i := 23) rfl
theorem dX6_column_109 : decode cX6_column 109 = .ok (.iconst 0, 1) := dc_of dtX6_column_62_1_ok (i := 24) rfl
theorem dX6_column_110 : decode cX6_column 110 = .ok (.goto 12, 3) := dc_of dtX6_column_62_1_ok (i := 25) rfl
theorem dX6_column_113 : decode cX6_column 113 = .ok (.aload_n 0, 1) := dc_of dtX6_column_62_1_ok (i := 26) rfl
theorem dX6_column_114 : decode cX6_column 114 = .ok (.getfield 63, 3) := dc_of dtX6_column_62_1_ok (i := 27) rfl
theorem dX6_column_117 : decode cX6_column 117 = .ok (.getfield 99, 3) := dc_of dtX6_column_62_1_ok (i := 28) rfl
theorem dX6_column_120 : decode cX6_column 120 = .ok (.iconst 1, 1) := dc_of dtX6_column_62_1_ok (i := 29) rfl
theorem dX6_column_121 : decode cX6_column 121 = .ok (.isub, 1) := dc_of dtX6_column_62_1_ok (i := 30) rfl
theorem dX6_column_122 : decode cX6_column 122 = .ok (.iconst 0, 1) := dc_of dtX6_column_62_1_ok (i := 31) rfl
def dtX6_column_123_2 : List (Nat × Instr × Nat) := [(123, .invokevirtual 139, 3), (126, .ireturn, 1)]
theorem dtX6_column_123_2_ok : dcAll cX6_column dtX6_column_123_2 = true := by decide +kernel
theorem dX6_column_123 : decode cX6_column 123 = .ok (.invokevirtual 139, 3) := dc_of dtX6_column_123_2_ok (i := 0) rfl
theorem dX6_column_126 : decode cX6_column 126 = .ok (.ireturn, 1) := dc_of dtX6_column_123_2_ok (i := 1) rfl
set_option maxRecDepth 20000 in
theorem gw_wsX6_setKey : wsX6_setKey.all goodWord = true := by decide +kernel
set_option maxRecDepth 20000 in
theorem ggX6_gatherValues_X6_setKey : GoodIn wsX6_gatherValues wsX6_setKey := goodIn_r _ [8, 3, 50, 51, 52, 53, 54, 55, 56, 57, 58, 59, 60, 61, 62, 63, 64, 65, 66, 67] rfl gw_wsX6_setKey
set_option maxRecDepth 20000 in
theorem gX6_gatherValues_X6_setKey : GoodIn wsX6_gatherValues (wsV RX6 211 RX6 yX6_setKey wsX6_setKey) := goodIn_app (goodIn_of _ (by decide +kernel)) ggX6_gatherValues_X6_setKey
set_option maxRecDepth 20000 in
theorem ggX6_gatherValues_X4_cell : GoodIn wsX6_gatherValues wsX4_cell := goodIn_r _ [13, 14, 68, 69, 70, 71] rfl gw_wsX4_cell
set_option maxRecDepth 20000 in
theorem gX6_gatherValues_X4_cell : GoodIn wsX6_gatherValues (wsV RX6 139 RX4 yX4_cell wsX4_cell) := goodIn_app (goodIn_of _ (by decide +kernel)) ggX6_gatherValues_X4_cell
set_option maxRecDepth 20000 in
theorem ggX6_gatherValues_X4_addAmount : GoodIn wsX6_gatherValues wsX4_addAmount := goodIn_r _ [18, 19, 20, 21, 22, 12, 23, 24, 25, 26, 27, 28, 14, 29, 30, 31, 32, 33, 34, 35, 36, 37, 38, 39, 40, 41, 42, 43, 44, 45, 46, 47, 48, 49, 68, 69, 70, 71] rfl gw_wsX4_addAmount
set_option maxRecDepth 20000 in
theorem gX6_gatherValues_X4_addAmount : GoodIn wsX6_gatherValues (wsV RX6 128 RX4 yX4_addAmount wsX4_addAmount) := goodIn_app (goodIn_of _ (by decide +kernel)) ggX6_gatherValues_X4_addAmount
def dtX6_gatherValues_0_0 : List (Nat × Instr × Nat) := [(0, .aload_n 0, 1), (1, .getfield 63, 3), (4, .iconst 0, 1), (5, .putfield 99, 3), (8, .aload_n 0, 1), (9, .iconst 1, 1), (10, .iconst 0, 1), (11, .iconst 0, 1), (12, .iconst 0, 1), (13, .iconst 0, 1), (14, .invokevirtual 211, 3), (17, .iconst 0, 1), (18, .istore_n 3, 1), (19, .iload_n 3, 1), (20, .aload_n 1, 1), (21, .getfield 99, 3), (24, .if_icmp .ge 34, 3), (27, .aload_n 0, 1), (28, .getfield 66, 3), (31, .iconst 0, 1), (32, .aload_n 1, 1), (33, .iload_n 3, 1), (34, .iload_n 2, 1), (35, .invokevirtual 139, 3), (38, .iastore, 1), (39, .aload_n 0, 1), (40, .getfield 63, 3), (43, .aload_n 0, 1), (44, .getfield 66, 3), (47, .iconst 1, 1), (48, .invokevirtual 128, 3), (51, .pop, 1)]
theorem dtX6_gatherValues_0_0_ok : dcAll cX6_gatherValues dtX6_gatherValues_0_0 = true := by decide +kernel
theorem dX6_gatherValues_0 : decode cX6_gatherValues 0 = .ok (.aload_n 0, 1) := dc_of dtX6_gatherValues_0_0_ok (i := 0) rfl
theorem dX6_gatherValues_1 : decode cX6_gatherValues 1 = .ok (.getfield 63, 3) := dc_of dtX6_gatherValues_0_0_ok (i := 1) rfl
theorem dX6_gatherValues_4 : decode cX6_gatherValues 4 = .ok (.iconst 0, 1) := dc_of dtX6_gatherValues_0_0_ok (i := 2) rfl
theorem dX6_gatherValues_5 : decode cX6_gatherValues 5 = .ok (.putfield 99, 3) := dc_of dtX6_gatherValues_0_0_ok (i := 3) rfl
theorem dX6_gatherValues_8 : decode cX6_gatherValues 8 = .ok (.aload_n 0, 1) := dc_of dtX6_gatherValues_0_0_ok (i := 4) rfl
theorem dX6_gatherValues_9 : decode cX6_gatherValues 9 = .ok (.iconst 1, 1) := dc_of dtX6_gatherValues_0_0_ok (i := 5) rfl
theorem dX6_gatherValues_10 : decode cX6_gatherValues 10 = .ok (.iconst 0, 1) := dc_of dtX6_gatherValues_0_0_ok (i := 6) rfl
theorem dX6_gatherValues_11 : decode cX6_gatherValues 11 = .ok (.iconst 0, 1) := dc_of dtX6_gatherValues_0_0_ok (i := 7) rfl
theorem dX6_gatherValues_12 : decode cX6_gatherValues 12 = .ok (.iconst 0, 1) := dc_of dtX6_gatherValues_0_0_ok (i := 8) rfl
theorem dX6_gatherValues_13 : decode cX6_gatherValues 13 = .ok (.iconst 0, 1) := dc_of dtX6_gatherValues_0_0_ok (i := 9) rfl
theorem dX6_gatherValues_14 : decode cX6_gatherValues 14 = .ok (.invokevirtual 211, 3) := dc_of dtX6_gatherValues_0_0_ok (i := 10) rfl
theorem dX6_gatherValues_17 : decode cX6_gatherValues 17 = .ok (.iconst 0, 1) := dc_of dtX6_gatherValues_0_0_ok (i := 11) rfl
theorem dX6_gatherValues_18 : decode cX6_gatherValues 18 = .ok (.istore_n 3, 1) := dc_of dtX6_gatherValues_0_0_ok (i := 12) rfl
theorem dX6_gatherValues_19 : decode cX6_gatherValues 19 = .ok (.iload_n 3, 1) := dc_of dtX6_gatherValues_0_0_ok (i := 13) rfl
theorem dX6_gatherValues_20 : decode cX6_gatherValues 20 = .ok (.aload_n 1, 1) := dc_of dtX6_gatherValues_0_0_ok (i := 14) rfl
theorem dX6_gatherValues_21 : decode cX6_gatherValues 21 = .ok (.getfield 99, 3) := dc_of dtX6_gatherValues_0_0_ok (i := 15) rfl
theorem dX6_gatherValues_24 : decode cX6_gatherValues 24 = .ok (.if_icmp .ge 34, 3) := dc_of dtX6_gatherValues_0_0_ok (i := 16) rfl
theorem dX6_gatherValues_27 : decode cX6_gatherValues 27 = .ok (.aload_n 0, 1) := dc_of dtX6_gatherValues_0_0_ok (i := 17) rfl
theorem dX6_gatherValues_28 : decode cX6_gatherValues 28 = .ok (.getfield 66, 3) := dc_of dtX6_gatherValues_0_0_ok (i := 18) rfl
theorem dX6_gatherValues_31 : decode cX6_gatherValues 31 = .ok (.iconst 0, 1) := dc_of dtX6_gatherValues_0_0_ok (i := 19) rfl
theorem dX6_gatherValues_32 : decode cX6_gatherValues 32 = .ok (.aload_n 1, 1) := dc_of dtX6_gatherValues_0_0_ok (i := 20) rfl
theorem dX6_gatherValues_33 : decode cX6_gatherValues 33 = .ok (.iload_n 3, 1) := dc_of dtX6_gatherValues_0_0_ok (i := 21) rfl
theorem dX6_gatherValues_34 : decode cX6_gatherValues 34 = .ok (.iload_n 2, 1) := dc_of dtX6_gatherValues_0_0_ok (i := 22) rfl
theorem dX6_gatherValues_35 : decode cX6_gatherValues 35 = .ok (.invokevirtual 139, 3) := dc_of dtX6_gatherValues_0_0_ok (i := 23) rfl
theorem dX6_gatherValues_38 : decode cX6_gatherValues 38 = .ok (.iastore, 1) := dc_of dtX6_gatherValues_0_0_ok (i := 24) rfl
theorem dX6_gatherValues_39 : decode cX6_gatherValues 39 = .ok (.aload_n 0, 1) := dc_of dtX6_gatherValues_0_0_ok (i := 25) rfl
theorem dX6_gatherValues_40 : decode cX6_gatherValues 40 = .ok (.getfield 63, 3) := dc_of dtX6_gatherValues_0_0_ok (i := 26) rfl
theorem dX6_gatherValues_43 : decode cX6_gatherValues 43 = .ok (.aload_n 0, 1) := dc_of dtX6_gatherValues_0_0_ok (i := 27) rfl
theorem dX6_gatherValues_44 : decode cX6_gatherValues 44 = .ok (.getfield 66, 3) := dc_of dtX6_gatherValues_0_0_ok (i := 28) rfl
theorem dX6_gatherValues_47 : decode cX6_gatherValues 47 = .ok (.iconst 1, 1) := dc_of dtX6_gatherValues_0_0_ok (i := 29) rfl
theorem dX6_gatherValues_48 : decode cX6_gatherValues 48 = .ok (.invokevirtual 128, 3) := dc_of dtX6_gatherValues_0_0_ok (i := 30) rfl
theorem dX6_gatherValues_51 : decode cX6_gatherValues 51 = .ok (.pop, 1) := dc_of dtX6_gatherValues_0_0_ok (i := 31) rfl
def dtX6_gatherValues_52_1 : List (Nat × Instr × Nat) := [(52, .iinc 3 1, 3), (55, .goto (-36), 3), (58, .return_, 1)]
theorem dtX6_gatherValues_52_1_ok : dcAll cX6_gatherValues dtX6_gatherValues_52_1 = true := by decide +kernel
theorem dX6_gatherValues_52 : decode cX6_gatherValues 52 = .ok (.iinc 3 1, 3) := dc_of dtX6_gatherValues_52_1_ok (i := 0) rfl
theorem dX6_gatherValues_55 : decode cX6_gatherValues 55 = .ok (.goto (-36), 3) := dc_of dtX6_gatherValues_52_1_ok (i := 1) rfl
theorem dX6_gatherValues_58 : decode cX6_gatherValues 58 = .ok (.return_, 1) := dc_of dtX6_gatherValues_52_1_ok (i := 2) rfl
set_option maxRecDepth 20000 in
theorem ggX6_moved_X6_isRelation : GoodIn wsX6_moved wsX6_isRelation := goodIn_r _ [7, 8, 9, 10, 11, 12, 13, 14, 15, 16, 17, 18, 19, 20, 21, 22, 23, 24, 25, 26, 27, 32, 33, 34] rfl gw_wsX6_isRelation
set_option maxRecDepth 20000 in
theorem gX6_moved_X6_isRelation : GoodIn wsX6_moved (wsV RX6 109 RX6 yX6_isRelation wsX6_isRelation) := goodIn_app (goodIn_of _ (by decide +kernel)) ggX6_moved_X6_isRelation
def dtX6_moved_0_0 : List (Nat × Instr × Nat) := [(0, .aload_n 0, 1), (1, .iload_n 1, 1), (2, .invokevirtual 109, 3), (5, .ifCond .eq 15, 3), (8, .aload_n 0, 1), (9, .getfield 45, 3), (12, .iload_n 1, 1), (13, .aaload, 1), (14, .getfield 99, 3), (17, .goto 4, 3), (20, .iconst (-1), 1), (21, .ireturn, 1)]
theorem dtX6_moved_0_0_ok : dcAll cX6_moved dtX6_moved_0_0 = true := by decide +kernel
theorem dX6_moved_0 : decode cX6_moved 0 = .ok (.aload_n 0, 1) := dc_of dtX6_moved_0_0_ok (i := 0) rfl
theorem dX6_moved_1 : decode cX6_moved 1 = .ok (.iload_n 1, 1) := dc_of dtX6_moved_0_0_ok (i := 1) rfl
theorem dX6_moved_2 : decode cX6_moved 2 = .ok (.invokevirtual 109, 3) := dc_of dtX6_moved_0_0_ok (i := 2) rfl
theorem dX6_moved_5 : decode cX6_moved 5 = .ok (.ifCond .eq 15, 3) := dc_of dtX6_moved_0_0_ok (i := 3) rfl
theorem dX6_moved_8 : decode cX6_moved 8 = .ok (.aload_n 0, 1) := dc_of dtX6_moved_0_0_ok (i := 4) rfl
theorem dX6_moved_9 : decode cX6_moved 9 = .ok (.getfield 45, 3) := dc_of dtX6_moved_0_0_ok (i := 5) rfl
theorem dX6_moved_12 : decode cX6_moved 12 = .ok (.iload_n 1, 1) := dc_of dtX6_moved_0_0_ok (i := 6) rfl
theorem dX6_moved_13 : decode cX6_moved 13 = .ok (.aaload, 1) := dc_of dtX6_moved_0_0_ok (i := 7) rfl
theorem dX6_moved_14 : decode cX6_moved 14 = .ok (.getfield 99, 3) := dc_of dtX6_moved_0_0_ok (i := 8) rfl
theorem dX6_moved_17 : decode cX6_moved 17 = .ok (.goto 4, 3) := dc_of dtX6_moved_0_0_ok (i := 9) rfl
theorem dX6_moved_20 : decode cX6_moved 20 = .ok (.iconst (-1), 1) := dc_of dtX6_moved_0_0_ok (i := 10) rfl
theorem dX6_moved_21 : decode cX6_moved 21 = .ok (.ireturn, 1) := dc_of dtX6_moved_0_0_ok (i := 11) rfl
set_option maxRecDepth 20000 in
set_option maxRecDepth 20000 in
set_option maxRecDepth 20000 in
set_option maxRecDepth 20000 in
def dtX6_movedAt_0_0 : List (Nat × Instr × Nat) := [(0, .aload_n 0, 1), (1, .iload_n 1, 1), (2, .invokevirtual 109, 3), (5, .ifCond .ne 13, 3), (8, .new 132, 3), (11, .dup, 1), (12, .ldc 203, 2), (14, .invokespecial 136, 3), (17, .athrow, 1), (18, .aload_n 0, 1), (19, .getfield 45, 3), (22, .iload_n 1, 1), (23, .aaload, 1), (24, .aload_n 0, 1), (25, .getfield 23, 3), (28, .getfield 113, 3), (31, .iload_n 1, 1), (32, .aaload, 1), (33, .getfield 125, 3), (36, .iload_n 2, 1), (37, .iload_n 3, 1), (38, .invokestatic 205, 3), (41, .ireturn, 1)]
theorem dtX6_movedAt_0_0_ok : dcAll cX6_movedAt dtX6_movedAt_0_0 = true := by decide +kernel
theorem dX6_movedAt_0 : decode cX6_movedAt 0 = .ok (.aload_n 0, 1) := dc_of dtX6_movedAt_0_0_ok (i := 0) rfl
theorem dX6_movedAt_1 : decode cX6_movedAt 1 = .ok (.iload_n 1, 1) := dc_of dtX6_movedAt_0_0_ok (i := 1) rfl
theorem dX6_movedAt_2 : decode cX6_movedAt 2 = .ok (.invokevirtual 109, 3) := dc_of dtX6_movedAt_0_0_ok (i := 2) rfl
theorem dX6_movedAt_5 : decode cX6_movedAt 5 = .ok (.ifCond .ne 13, 3) := dc_of dtX6_movedAt_0_0_ok (i := 3) rfl
theorem dX6_movedAt_8 : decode cX6_movedAt 8 = .ok (.new 132, 3) := dc_of dtX6_movedAt_0_0_ok (i := 4) rfl
theorem dX6_movedAt_11 : decode cX6_movedAt 11 = .ok (.dup, 1) := dc_of dtX6_movedAt_0_0_ok (i := 5) rfl
theorem dX6_movedAt_12 : decode cX6_movedAt 12 = .ok (.ldc 203, 2) := dc_of dtX6_movedAt_0_0_ok (i := 6) rfl
theorem dX6_movedAt_14 : decode cX6_movedAt 14 = .ok (.invokespecial 136, 3) := dc_of dtX6_movedAt_0_0_ok (i := 7) rfl
theorem dX6_movedAt_17 : decode cX6_movedAt 17 = .ok (.athrow, 1) := dc_of dtX6_movedAt_0_0_ok (i := 8) rfl
theorem dX6_movedAt_18 : decode cX6_movedAt 18 = .ok (.aload_n 0, 1) := dc_of dtX6_movedAt_0_0_ok (i := 9) rfl
theorem dX6_movedAt_19 : decode cX6_movedAt 19 = .ok (.getfield 45, 3) := dc_of dtX6_movedAt_0_0_ok (i := 10) rfl
theorem dX6_movedAt_22 : decode cX6_movedAt 22 = .ok (.iload_n 1, 1) := dc_of dtX6_movedAt_0_0_ok (i := 11) rfl
theorem dX6_movedAt_23 : decode cX6_movedAt 23 = .ok (.aaload, 1) := dc_of dtX6_movedAt_0_0_ok (i := 12) rfl
theorem dX6_movedAt_24 : decode cX6_movedAt 24 = .ok (.aload_n 0, 1) := dc_of dtX6_movedAt_0_0_ok (i := 13) rfl
theorem dX6_movedAt_25 : decode cX6_movedAt 25 = .ok (.getfield 23, 3) := dc_of dtX6_movedAt_0_0_ok (i := 14) rfl
theorem dX6_movedAt_28 : decode cX6_movedAt 28 = .ok (.getfield 113, 3) := dc_of dtX6_movedAt_0_0_ok (i := 15) rfl
theorem dX6_movedAt_31 : decode cX6_movedAt 31 = .ok (.iload_n 1, 1) := dc_of dtX6_movedAt_0_0_ok (i := 16) rfl
theorem dX6_movedAt_32 : decode cX6_movedAt 32 = .ok (.aaload, 1) := dc_of dtX6_movedAt_0_0_ok (i := 17) rfl
theorem dX6_movedAt_33 : decode cX6_movedAt 33 = .ok (.getfield 125, 3) := dc_of dtX6_movedAt_0_0_ok (i := 18) rfl
theorem dX6_movedAt_36 : decode cX6_movedAt 36 = .ok (.iload_n 2, 1) := dc_of dtX6_movedAt_0_0_ok (i := 19) rfl
theorem dX6_movedAt_37 : decode cX6_movedAt 37 = .ok (.iload_n 3, 1) := dc_of dtX6_movedAt_0_0_ok (i := 20) rfl
theorem dX6_movedAt_38 : decode cX6_movedAt 38 = .ok (.invokestatic 205, 3) := dc_of dtX6_movedAt_0_0_ok (i := 21) rfl
theorem dX6_movedAt_41 : decode cX6_movedAt 41 = .ok (.ireturn, 1) := dc_of dtX6_movedAt_0_0_ok (i := 22) rfl
set_option maxRecDepth 20000 in
theorem ggX6_came_X6_isRelation : GoodIn wsX6_came wsX6_isRelation := goodIn_r _ [8, 1, 9, 18, 19, 20, 21, 22, 23, 24, 25, 26, 27, 28, 29, 30, 31, 32, 33, 34, 35, 36, 37, 38] rfl gw_wsX6_isRelation
set_option maxRecDepth 20000 in
theorem gX6_came_X6_isRelation : GoodIn wsX6_came (wsV RX6 109 RX6 yX6_isRelation wsX6_isRelation) := goodIn_app (goodIn_of _ (by decide +kernel)) ggX6_came_X6_isRelation
set_option maxRecDepth 20000 in
theorem gw_wsX6_cameTo : wsX6_cameTo.all goodWord = true := by decide +kernel
set_option maxRecDepth 20000 in
theorem ggX6_came_X6_cameTo : GoodIn wsX6_came wsX6_cameTo := goodIn_r _ [13, 14, 15, 16, 17, 39, 40, 41, 42, 43, 44, 45, 46, 47, 48, 49, 50, 51, 52, 53, 18, 19, 20, 21, 22, 23, 24, 25, 26, 27, 28, 29, 30, 31, 32, 33, 34, 35, 54, 55, 56, 57] rfl gw_wsX6_cameTo
set_option maxRecDepth 20000 in
theorem gX6_came_X6_cameTo : GoodIn wsX6_came (wsV RX6 220 RX6 yX6_cameTo wsX6_cameTo) := goodIn_app (goodIn_of _ (by decide +kernel)) ggX6_came_X6_cameTo
def dtX6_came_0_0 : List (Nat × Instr × Nat) := [(0, .aload_n 0, 1), (1, .iload_n 1, 1), (2, .invokevirtual 109, 3), (5, .ifCond .eq 30, 3), (8, .iload_n 1, 1), (9, .aload_n 0, 1), (10, .getfield 23, 3), (13, .getfield 122, 3), (16, .if_icmp .lt 19, 3), (19, .aload_n 0, 1), (20, .aload_n 0, 1), (21, .getfield 23, 3), (24, .getfield 113, 3), (27, .iload_n 1, 1), (28, .aaload, 1), (29, .invokevirtual 220, 3), (32, .goto 4, 3), (35, .iconst (-1), 1), (36, .ireturn, 1)]
theorem dtX6_came_0_0_ok : dcAll cX6_came dtX6_came_0_0 = true := by decide +kernel
theorem dX6_came_0 : decode cX6_came 0 = .ok (.aload_n 0, 1) := dc_of dtX6_came_0_0_ok (i := 0) rfl
theorem dX6_came_1 : decode cX6_came 1 = .ok (.iload_n 1, 1) := dc_of dtX6_came_0_0_ok (i := 1) rfl
theorem dX6_came_2 : decode cX6_came 2 = .ok (.invokevirtual 109, 3) := dc_of dtX6_came_0_0_ok (i := 2) rfl
theorem dX6_came_5 : decode cX6_came 5 = .ok (.ifCond .eq 30, 3) := dc_of dtX6_came_0_0_ok (i := 3) rfl
theorem dX6_came_8 : decode cX6_came 8 = .ok (.iload_n 1, 1) := dc_of dtX6_came_0_0_ok (i := 4) rfl
theorem dX6_came_9 : decode cX6_came 9 = .ok (.aload_n 0, 1) := dc_of dtX6_came_0_0_ok (i := 5) rfl
theorem dX6_came_10 : decode cX6_came 10 = .ok (.getfield 23, 3) := dc_of dtX6_came_0_0_ok (i := 6) rfl
theorem dX6_came_13 : decode cX6_came 13 = .ok (.getfield 122, 3) := dc_of dtX6_came_0_0_ok (i := 7) rfl
theorem dX6_came_16 : decode cX6_came 16 = .ok (.if_icmp .lt 19, 3) := dc_of dtX6_came_0_0_ok (i := 8) rfl
theorem dX6_came_19 : decode cX6_came 19 = .ok (.aload_n 0, 1) := dc_of dtX6_came_0_0_ok (i := 9) rfl
theorem dX6_came_20 : decode cX6_came 20 = .ok (.aload_n 0, 1) := dc_of dtX6_came_0_0_ok (i := 10) rfl
theorem dX6_came_21 : decode cX6_came 21 = .ok (.getfield 23, 3) := dc_of dtX6_came_0_0_ok (i := 11) rfl
theorem dX6_came_24 : decode cX6_came 24 = .ok (.getfield 113, 3) := dc_of dtX6_came_0_0_ok (i := 12) rfl
theorem dX6_came_27 : decode cX6_came 27 = .ok (.iload_n 1, 1) := dc_of dtX6_came_0_0_ok (i := 13) rfl
theorem dX6_came_28 : decode cX6_came 28 = .ok (.aaload, 1) := dc_of dtX6_came_0_0_ok (i := 14) rfl
theorem dX6_came_29 : decode cX6_came 29 = .ok (.invokevirtual 220, 3) := dc_of dtX6_came_0_0_ok (i := 15) rfl
theorem dX6_came_32 : decode cX6_came 32 = .ok (.goto 4, 3) := dc_of dtX6_came_0_0_ok (i := 16) rfl
theorem dX6_came_35 : decode cX6_came 35 = .ok (.iconst (-1), 1) := dc_of dtX6_came_0_0_ok (i := 17) rfl
theorem dX6_came_36 : decode cX6_came 36 = .ok (.ireturn, 1) := dc_of dtX6_came_0_0_ok (i := 18) rfl
def dtX6_cameTo_0_0 : List (Nat × Instr × Nat) := [(0, .aload_n 1, 1), (1, .getfield 224, 3), (4, .iconst (-1), 1), (5, .if_icmp .ne 7, 3), (8, .iconst 0, 1), (9, .goto 15, 3), (12, .aload_n 0, 1), (13, .getfield 45, 3), (16, .aload_n 1, 1), (17, .getfield 224, 3), (20, .aaload, 1), (21, .getfield 99, 3), (24, .istore_n 2, 1), (25, .iload_n 2, 1), (26, .aload_n 1, 1), (27, .getfield 227, 3), (30, .iconst (-1), 1), (31, .if_icmp .ne 7, 3), (34, .iconst 0, 1), (35, .goto 15, 3), (38, .aload_n 0, 1), (39, .getfield 45, 3), (42, .aload_n 1, 1), (43, .getfield 227, 3), (46, .aaload, 1), (47, .getfield 99, 3), (50, .iadd, 1), (51, .ireturn, 1)]
theorem dtX6_cameTo_0_0_ok : dcAll cX6_cameTo dtX6_cameTo_0_0 = true := by decide +kernel
theorem dX6_cameTo_0 : decode cX6_cameTo 0 = .ok (.aload_n 1, 1) := dc_of dtX6_cameTo_0_0_ok (i := 0) rfl
theorem dX6_cameTo_1 : decode cX6_cameTo 1 = .ok (.getfield 224, 3) := dc_of dtX6_cameTo_0_0_ok (i := 1) rfl
theorem dX6_cameTo_4 : decode cX6_cameTo 4 = .ok (.iconst (-1), 1) := dc_of dtX6_cameTo_0_0_ok (i := 2) rfl
theorem dX6_cameTo_5 : decode cX6_cameTo 5 = .ok (.if_icmp .ne 7, 3) := dc_of dtX6_cameTo_0_0_ok (i := 3) rfl
theorem dX6_cameTo_8 : decode cX6_cameTo 8 = .ok (.iconst 0, 1) := dc_of dtX6_cameTo_0_0_ok (i := 4) rfl
theorem dX6_cameTo_9 : decode cX6_cameTo 9 = .ok (.goto 15, 3) := dc_of dtX6_cameTo_0_0_ok (i := 5) rfl
theorem dX6_cameTo_12 : decode cX6_cameTo 12 = .ok (.aload_n 0, 1) := dc_of dtX6_cameTo_0_0_ok (i := 6) rfl
theorem dX6_cameTo_13 : decode cX6_cameTo 13 = .ok (.getfield 45, 3) := dc_of dtX6_cameTo_0_0_ok (i := 7) rfl
theorem dX6_cameTo_16 : decode cX6_cameTo 16 = .ok (.aload_n 1, 1) := dc_of dtX6_cameTo_0_0_ok (i := 8) rfl
theorem dX6_cameTo_17 : decode cX6_cameTo 17 = .ok (.getfield 224, 3) := dc_of dtX6_cameTo_0_0_ok (i := 9) rfl
theorem dX6_cameTo_20 : decode cX6_cameTo 20 = .ok (.aaload, 1) := dc_of dtX6_cameTo_0_0_ok (i := 10) rfl
theorem dX6_cameTo_21 : decode cX6_cameTo 21 = .ok (.getfield 99, 3) := dc_of dtX6_cameTo_0_0_ok (i := 11) rfl
theorem dX6_cameTo_24 : decode cX6_cameTo 24 = .ok (.istore_n 2, 1) := dc_of dtX6_cameTo_0_0_ok (i := 12) rfl
theorem dX6_cameTo_25 : decode cX6_cameTo 25 = .ok (.iload_n 2, 1) := dc_of dtX6_cameTo_0_0_ok (i := 13) rfl
theorem dX6_cameTo_26 : decode cX6_cameTo 26 = .ok (.aload_n 1, 1) := dc_of dtX6_cameTo_0_0_ok (i := 14) rfl
theorem dX6_cameTo_27 : decode cX6_cameTo 27 = .ok (.getfield 227, 3) := dc_of dtX6_cameTo_0_0_ok (i := 15) rfl
theorem dX6_cameTo_30 : decode cX6_cameTo 30 = .ok (.iconst (-1), 1) := dc_of dtX6_cameTo_0_0_ok (i := 16) rfl
theorem dX6_cameTo_31 : decode cX6_cameTo 31 = .ok (.if_icmp .ne 7, 3) := dc_of dtX6_cameTo_0_0_ok (i := 17) rfl
theorem dX6_cameTo_34 : decode cX6_cameTo 34 = .ok (.iconst 0, 1) := dc_of dtX6_cameTo_0_0_ok (i := 18) rfl
theorem dX6_cameTo_35 : decode cX6_cameTo 35 = .ok (.goto 15, 3) := dc_of dtX6_cameTo_0_0_ok (i := 19) rfl
theorem dX6_cameTo_38 : decode cX6_cameTo 38 = .ok (.aload_n 0, 1) := dc_of dtX6_cameTo_0_0_ok (i := 20) rfl
theorem dX6_cameTo_39 : decode cX6_cameTo 39 = .ok (.getfield 45, 3) := dc_of dtX6_cameTo_0_0_ok (i := 21) rfl
theorem dX6_cameTo_42 : decode cX6_cameTo 42 = .ok (.aload_n 1, 1) := dc_of dtX6_cameTo_0_0_ok (i := 22) rfl
theorem dX6_cameTo_43 : decode cX6_cameTo 43 = .ok (.getfield 227, 3) := dc_of dtX6_cameTo_0_0_ok (i := 23) rfl
theorem dX6_cameTo_46 : decode cX6_cameTo 46 = .ok (.aaload, 1) := dc_of dtX6_cameTo_0_0_ok (i := 24) rfl
theorem dX6_cameTo_47 : decode cX6_cameTo 47 = .ok (.getfield 99, 3) := dc_of dtX6_cameTo_0_0_ok (i := 25) rfl
theorem dX6_cameTo_50 : decode cX6_cameTo 50 = .ok (.iadd, 1) := dc_of dtX6_cameTo_0_0_ok (i := 26) rfl
theorem dX6_cameTo_51 : decode cX6_cameTo 51 = .ok (.ireturn, 1) := dc_of dtX6_cameTo_0_0_ok (i := 27) rfl
def dtX6_movedInViews_0_0 : List (Nat × Instr × Nat) := [(0, .iconst 0, 1), (1, .istore_n 1, 1), (2, .aload_n 0, 1), (3, .getfield 23, 3), (6, .getfield 122, 3), (9, .istore_n 2, 1), (10, .iload_n 2, 1), (11, .aload_n 0, 1), (12, .getfield 23, 3), (15, .getfield 96, 3), (18, .if_icmp .ge 21, 3), (21, .iload_n 1, 1), (22, .aload_n 0, 1), (23, .getfield 45, 3), (26, .iload_n 2, 1), (27, .aaload, 1), (28, .getfield 99, 3), (31, .iadd, 1), (32, .istore_n 1, 1), (33, .iinc 2 1, 3), (36, .goto (-26), 3), (39, .iload_n 1, 1), (40, .ireturn, 1)]
theorem dtX6_movedInViews_0_0_ok : dcAll cX6_movedInViews dtX6_movedInViews_0_0 = true := by decide +kernel
theorem dX6_movedInViews_0 : decode cX6_movedInViews 0 = .ok (.iconst 0, 1) := dc_of dtX6_movedInViews_0_0_ok (i := 0) rfl
theorem dX6_movedInViews_1 : decode cX6_movedInViews 1 = .ok (.istore_n 1, 1) := dc_of dtX6_movedInViews_0_0_ok (i := 1) rfl
theorem dX6_movedInViews_2 : decode cX6_movedInViews 2 = .ok (.aload_n 0, 1) := dc_of dtX6_movedInViews_0_0_ok (i := 2) rfl
theorem dX6_movedInViews_3 : decode cX6_movedInViews 3 = .ok (.getfield 23, 3) := dc_of dtX6_movedInViews_0_0_ok (i := 3) rfl
theorem dX6_movedInViews_6 : decode cX6_movedInViews 6 = .ok (.getfield 122, 3) := dc_of dtX6_movedInViews_0_0_ok (i := 4) rfl
theorem dX6_movedInViews_9 : decode cX6_movedInViews 9 = .ok (.istore_n 2, 1) := dc_of dtX6_movedInViews_0_0_ok (i := 5) rfl
theorem dX6_movedInViews_10 : decode cX6_movedInViews 10 = .ok (.iload_n 2, 1) := dc_of dtX6_movedInViews_0_0_ok (i := 6) rfl
theorem dX6_movedInViews_11 : decode cX6_movedInViews 11 = .ok (.aload_n 0, 1) := dc_of dtX6_movedInViews_0_0_ok (i := 7) rfl
theorem dX6_movedInViews_12 : decode cX6_movedInViews 12 = .ok (.getfield 23, 3) := dc_of dtX6_movedInViews_0_0_ok (i := 8) rfl
theorem dX6_movedInViews_15 : decode cX6_movedInViews 15 = .ok (.getfield 96, 3) := dc_of dtX6_movedInViews_0_0_ok (i := 9) rfl
theorem dX6_movedInViews_18 : decode cX6_movedInViews 18 = .ok (.if_icmp .ge 21, 3) := dc_of dtX6_movedInViews_0_0_ok (i := 10) rfl
theorem dX6_movedInViews_21 : decode cX6_movedInViews 21 = .ok (.iload_n 1, 1) := dc_of dtX6_movedInViews_0_0_ok (i := 11) rfl
theorem dX6_movedInViews_22 : decode cX6_movedInViews 22 = .ok (.aload_n 0, 1) := dc_of dtX6_movedInViews_0_0_ok (i := 12) rfl
theorem dX6_movedInViews_23 : decode cX6_movedInViews 23 = .ok (.getfield 45, 3) := dc_of dtX6_movedInViews_0_0_ok (i := 13) rfl
theorem dX6_movedInViews_26 : decode cX6_movedInViews 26 = .ok (.iload_n 2, 1) := dc_of dtX6_movedInViews_0_0_ok (i := 14) rfl
theorem dX6_movedInViews_27 : decode cX6_movedInViews 27 = .ok (.aaload, 1) := dc_of dtX6_movedInViews_0_0_ok (i := 15) rfl
theorem dX6_movedInViews_28 : decode cX6_movedInViews 28 = .ok (.getfield 99, 3) := dc_of dtX6_movedInViews_0_0_ok (i := 16) rfl
theorem dX6_movedInViews_31 : decode cX6_movedInViews 31 = .ok (.iadd, 1) := dc_of dtX6_movedInViews_0_0_ok (i := 17) rfl
theorem dX6_movedInViews_32 : decode cX6_movedInViews 32 = .ok (.istore_n 1, 1) := dc_of dtX6_movedInViews_0_0_ok (i := 18) rfl
theorem dX6_movedInViews_33 : decode cX6_movedInViews 33 = .ok (.iinc 2 1, 3) := dc_of dtX6_movedInViews_0_0_ok (i := 19) rfl
theorem dX6_movedInViews_36 : decode cX6_movedInViews 36 = .ok (.goto (-26), 3) := dc_of dtX6_movedInViews_0_0_ok (i := 20) rfl
theorem dX6_movedInViews_39 : decode cX6_movedInViews 39 = .ok (.iload_n 1, 1) := dc_of dtX6_movedInViews_0_0_ok (i := 21) rfl
theorem dX6_movedInViews_40 : decode cX6_movedInViews 40 = .ok (.ireturn, 1) := dc_of dtX6_movedInViews_0_0_ok (i := 22) rfl
set_option maxRecDepth 20000 in
theorem ggX6_cameToViews_X6_cameTo : GoodIn wsX6_cameToViews wsX6_cameTo := goodIn_r _ [9, 10, 11, 12, 13, 35, 36, 37, 38, 39, 40, 41, 42, 43, 44, 45, 46, 47, 48, 49, 14, 15, 16, 17, 18, 19, 20, 21, 22, 23, 24, 25, 26, 27, 28, 29, 30, 31, 50, 51, 52, 53] rfl gw_wsX6_cameTo
set_option maxRecDepth 20000 in
theorem gX6_cameToViews_X6_cameTo : GoodIn wsX6_cameToViews (wsV RX6 220 RX6 yX6_cameTo wsX6_cameTo) := goodIn_app (goodIn_of _ (by decide +kernel)) ggX6_cameToViews_X6_cameTo
def dtX6_cameToViews_0_0 : List (Nat × Instr × Nat) := [(0, .iconst 0, 1), (1, .istore_n 1, 1), (2, .aload_n 0, 1), (3, .getfield 23, 3), (6, .getfield 122, 3), (9, .istore_n 2, 1), (10, .iload_n 2, 1), (11, .aload_n 0, 1), (12, .getfield 23, 3), (15, .getfield 96, 3), (18, .if_icmp .ge 25, 3), (21, .iload_n 1, 1), (22, .aload_n 0, 1), (23, .aload_n 0, 1), (24, .getfield 23, 3), (27, .getfield 113, 3), (30, .iload_n 2, 1), (31, .aaload, 1), (32, .invokevirtual 220, 3), (35, .iadd, 1), (36, .istore_n 1, 1), (37, .iinc 2 1, 3), (40, .goto (-30), 3), (43, .iload_n 1, 1), (44, .ireturn, 1)]
theorem dtX6_cameToViews_0_0_ok : dcAll cX6_cameToViews dtX6_cameToViews_0_0 = true := by decide +kernel
theorem dX6_cameToViews_0 : decode cX6_cameToViews 0 = .ok (.iconst 0, 1) := dc_of dtX6_cameToViews_0_0_ok (i := 0) rfl
theorem dX6_cameToViews_1 : decode cX6_cameToViews 1 = .ok (.istore_n 1, 1) := dc_of dtX6_cameToViews_0_0_ok (i := 1) rfl
theorem dX6_cameToViews_2 : decode cX6_cameToViews 2 = .ok (.aload_n 0, 1) := dc_of dtX6_cameToViews_0_0_ok (i := 2) rfl
theorem dX6_cameToViews_3 : decode cX6_cameToViews 3 = .ok (.getfield 23, 3) := dc_of dtX6_cameToViews_0_0_ok (i := 3) rfl
theorem dX6_cameToViews_6 : decode cX6_cameToViews 6 = .ok (.getfield 122, 3) := dc_of dtX6_cameToViews_0_0_ok (i := 4) rfl
theorem dX6_cameToViews_9 : decode cX6_cameToViews 9 = .ok (.istore_n 2, 1) := dc_of dtX6_cameToViews_0_0_ok (i := 5) rfl
theorem dX6_cameToViews_10 : decode cX6_cameToViews 10 = .ok (.iload_n 2, 1) := dc_of dtX6_cameToViews_0_0_ok (i := 6) rfl
theorem dX6_cameToViews_11 : decode cX6_cameToViews 11 = .ok (.aload_n 0, 1) := dc_of dtX6_cameToViews_0_0_ok (i := 7) rfl
theorem dX6_cameToViews_12 : decode cX6_cameToViews 12 = .ok (.getfield 23, 3) := dc_of dtX6_cameToViews_0_0_ok (i := 8) rfl
theorem dX6_cameToViews_15 : decode cX6_cameToViews 15 = .ok (.getfield 96, 3) := dc_of dtX6_cameToViews_0_0_ok (i := 9) rfl
theorem dX6_cameToViews_18 : decode cX6_cameToViews 18 = .ok (.if_icmp .ge 25, 3) := dc_of dtX6_cameToViews_0_0_ok (i := 10) rfl
theorem dX6_cameToViews_21 : decode cX6_cameToViews 21 = .ok (.iload_n 1, 1) := dc_of dtX6_cameToViews_0_0_ok (i := 11) rfl
theorem dX6_cameToViews_22 : decode cX6_cameToViews 22 = .ok (.aload_n 0, 1) := dc_of dtX6_cameToViews_0_0_ok (i := 12) rfl
theorem dX6_cameToViews_23 : decode cX6_cameToViews 23 = .ok (.aload_n 0, 1) := dc_of dtX6_cameToViews_0_0_ok (i := 13) rfl
theorem dX6_cameToViews_24 : decode cX6_cameToViews 24 = .ok (.getfield 23, 3) := dc_of dtX6_cameToViews_0_0_ok (i := 14) rfl
theorem dX6_cameToViews_27 : decode cX6_cameToViews 27 = .ok (.getfield 113, 3) := dc_of dtX6_cameToViews_0_0_ok (i := 15) rfl
theorem dX6_cameToViews_30 : decode cX6_cameToViews 30 = .ok (.iload_n 2, 1) := dc_of dtX6_cameToViews_0_0_ok (i := 16) rfl
theorem dX6_cameToViews_31 : decode cX6_cameToViews 31 = .ok (.aaload, 1) := dc_of dtX6_cameToViews_0_0_ok (i := 17) rfl
theorem dX6_cameToViews_32 : decode cX6_cameToViews 32 = .ok (.invokevirtual 220, 3) := dc_of dtX6_cameToViews_0_0_ok (i := 18) rfl
theorem dX6_cameToViews_35 : decode cX6_cameToViews 35 = .ok (.iadd, 1) := dc_of dtX6_cameToViews_0_0_ok (i := 19) rfl
theorem dX6_cameToViews_36 : decode cX6_cameToViews 36 = .ok (.istore_n 1, 1) := dc_of dtX6_cameToViews_0_0_ok (i := 20) rfl
theorem dX6_cameToViews_37 : decode cX6_cameToViews 37 = .ok (.iinc 2 1, 3) := dc_of dtX6_cameToViews_0_0_ok (i := 21) rfl
theorem dX6_cameToViews_40 : decode cX6_cameToViews 40 = .ok (.goto (-30), 3) := dc_of dtX6_cameToViews_0_0_ok (i := 22) rfl
theorem dX6_cameToViews_43 : decode cX6_cameToViews 43 = .ok (.iload_n 1, 1) := dc_of dtX6_cameToViews_0_0_ok (i := 23) rfl
theorem dX6_cameToViews_44 : decode cX6_cameToViews 44 = .ok (.ireturn, 1) := dc_of dtX6_cameToViews_0_0_ok (i := 24) rfl
def dtX6_tuplesOfViews_0_0 : List (Nat × Instr × Nat) := [(0, .iconst 0, 1), (1, .istore_n 1, 1), (2, .aload_n 0, 1), (3, .getfield 23, 3), (6, .getfield 122, 3), (9, .istore_n 2, 1), (10, .iload_n 2, 1), (11, .aload_n 0, 1), (12, .getfield 23, 3), (15, .getfield 96, 3), (18, .if_icmp .ge 21, 3), (21, .iload_n 1, 1), (22, .aload_n 0, 1), (23, .getfield 38, 3), (26, .iload_n 2, 1), (27, .aaload, 1), (28, .getfield 99, 3), (31, .iadd, 1), (32, .istore_n 1, 1), (33, .iinc 2 1, 3), (36, .goto (-26), 3), (39, .iload_n 1, 1), (40, .ireturn, 1)]
theorem dtX6_tuplesOfViews_0_0_ok : dcAll cX6_tuplesOfViews dtX6_tuplesOfViews_0_0 = true := by decide +kernel
theorem dX6_tuplesOfViews_0 : decode cX6_tuplesOfViews 0 = .ok (.iconst 0, 1) := dc_of dtX6_tuplesOfViews_0_0_ok (i := 0) rfl
theorem dX6_tuplesOfViews_1 : decode cX6_tuplesOfViews 1 = .ok (.istore_n 1, 1) := dc_of dtX6_tuplesOfViews_0_0_ok (i := 1) rfl
theorem dX6_tuplesOfViews_2 : decode cX6_tuplesOfViews 2 = .ok (.aload_n 0, 1) := dc_of dtX6_tuplesOfViews_0_0_ok (i := 2) rfl
theorem dX6_tuplesOfViews_3 : decode cX6_tuplesOfViews 3 = .ok (.getfield 23, 3) := dc_of dtX6_tuplesOfViews_0_0_ok (i := 3) rfl
theorem dX6_tuplesOfViews_6 : decode cX6_tuplesOfViews 6 = .ok (.getfield 122, 3) := dc_of dtX6_tuplesOfViews_0_0_ok (i := 4) rfl
theorem dX6_tuplesOfViews_9 : decode cX6_tuplesOfViews 9 = .ok (.istore_n 2, 1) := dc_of dtX6_tuplesOfViews_0_0_ok (i := 5) rfl
theorem dX6_tuplesOfViews_10 : decode cX6_tuplesOfViews 10 = .ok (.iload_n 2, 1) := dc_of dtX6_tuplesOfViews_0_0_ok (i := 6) rfl
theorem dX6_tuplesOfViews_11 : decode cX6_tuplesOfViews 11 = .ok (.aload_n 0, 1) := dc_of dtX6_tuplesOfViews_0_0_ok (i := 7) rfl
theorem dX6_tuplesOfViews_12 : decode cX6_tuplesOfViews 12 = .ok (.getfield 23, 3) := dc_of dtX6_tuplesOfViews_0_0_ok (i := 8) rfl
theorem dX6_tuplesOfViews_15 : decode cX6_tuplesOfViews 15 = .ok (.getfield 96, 3) := dc_of dtX6_tuplesOfViews_0_0_ok (i := 9) rfl
theorem dX6_tuplesOfViews_18 : decode cX6_tuplesOfViews 18 = .ok (.if_icmp .ge 21, 3) := dc_of dtX6_tuplesOfViews_0_0_ok (i := 10) rfl
theorem dX6_tuplesOfViews_21 : decode cX6_tuplesOfViews 21 = .ok (.iload_n 1, 1) := dc_of dtX6_tuplesOfViews_0_0_ok (i := 11) rfl
theorem dX6_tuplesOfViews_22 : decode cX6_tuplesOfViews 22 = .ok (.aload_n 0, 1) := dc_of dtX6_tuplesOfViews_0_0_ok (i := 12) rfl
theorem dX6_tuplesOfViews_23 : decode cX6_tuplesOfViews 23 = .ok (.getfield 38, 3) := dc_of dtX6_tuplesOfViews_0_0_ok (i := 13) rfl
theorem dX6_tuplesOfViews_26 : decode cX6_tuplesOfViews 26 = .ok (.iload_n 2, 1) := dc_of dtX6_tuplesOfViews_0_0_ok (i := 14) rfl
theorem dX6_tuplesOfViews_27 : decode cX6_tuplesOfViews 27 = .ok (.aaload, 1) := dc_of dtX6_tuplesOfViews_0_0_ok (i := 15) rfl
theorem dX6_tuplesOfViews_28 : decode cX6_tuplesOfViews 28 = .ok (.getfield 99, 3) := dc_of dtX6_tuplesOfViews_0_0_ok (i := 16) rfl
theorem dX6_tuplesOfViews_31 : decode cX6_tuplesOfViews 31 = .ok (.iadd, 1) := dc_of dtX6_tuplesOfViews_0_0_ok (i := 17) rfl
theorem dX6_tuplesOfViews_32 : decode cX6_tuplesOfViews 32 = .ok (.istore_n 1, 1) := dc_of dtX6_tuplesOfViews_0_0_ok (i := 18) rfl
theorem dX6_tuplesOfViews_33 : decode cX6_tuplesOfViews 33 = .ok (.iinc 2 1, 3) := dc_of dtX6_tuplesOfViews_0_0_ok (i := 19) rfl
theorem dX6_tuplesOfViews_36 : decode cX6_tuplesOfViews 36 = .ok (.goto (-26), 3) := dc_of dtX6_tuplesOfViews_0_0_ok (i := 20) rfl
theorem dX6_tuplesOfViews_39 : decode cX6_tuplesOfViews 39 = .ok (.iload_n 1, 1) := dc_of dtX6_tuplesOfViews_0_0_ok (i := 21) rfl
theorem dX6_tuplesOfViews_40 : decode cX6_tuplesOfViews 40 = .ok (.ireturn, 1) := dc_of dtX6_tuplesOfViews_0_0_ok (i := 22) rfl
set_option maxRecDepth 20000 in
theorem gw_wsX6_isRing : wsX6_isRing.all goodWord = true := by decide +kernel
set_option maxRecDepth 20000 in
theorem ggX6_round_X6_isRing : GoodIn wsX6_round wsX6_isRing := goodIn_r _ [10, 1, 2, 11, 12, 13, 14, 9, 15, 16, 37, 38, 39, 40, 41, 42, 43, 44, 45, 46, 47, 48, 49, 50, 51, 52, 53, 54, 55, 56, 57, 58, 59, 60, 61, 62, 63, 64, 65, 66, 67, 68, 69, 70, 71, 72] rfl gw_wsX6_isRing
set_option maxRecDepth 20000 in
theorem gX6_round_X6_isRing : GoodIn wsX6_round (wsV RX6 230 RX6 yX6_isRing wsX6_isRing) := goodIn_app (goodIn_of _ (by decide +kernel)) ggX6_round_X6_isRing
set_option maxRecDepth 20000 in
theorem ggX6_round_X6_setKey : GoodIn wsX6_round wsX6_setKey := goodIn_r _ [20, 5, 37, 38, 39, 40, 41, 42, 43, 44, 45, 46, 47, 48, 49, 50, 51, 52, 53, 54] rfl gw_wsX6_setKey
set_option maxRecDepth 20000 in
theorem gX6_round_X6_setKey : GoodIn wsX6_round (wsV RX6 211 RX6 yX6_setKey wsX6_setKey) := goodIn_app (goodIn_of _ (by decide +kernel)) ggX6_round_X6_setKey
set_option maxRecDepth 20000 in
theorem ggX6_round_X4_find : GoodIn wsX6_round wsX4_find := goodIn_r _ [25, 26, 27, 28, 29, 24, 30, 31, 32, 73, 74, 75, 76] rfl gw_wsX4_find
set_option maxRecDepth 20000 in
theorem gX6_round_X4_find : GoodIn wsX6_round (wsV RX6 233 RX4 yX4_find wsX4_find) := goodIn_app (goodIn_of _ (by decide +kernel)) ggX6_round_X4_find
set_option maxRecDepth 20000 in
theorem ggX6_round_X4_cell : GoodIn wsX6_round wsX4_cell := goodIn_r _ [36, 32, 73, 74, 75, 76] rfl gw_wsX4_cell
set_option maxRecDepth 20000 in
theorem gX6_round_X4_cell : GoodIn wsX6_round (wsV RX6 139 RX4 yX4_cell wsX4_cell) := goodIn_app (goodIn_of _ (by decide +kernel)) ggX6_round_X4_cell
def dtX6_round_0_0 : List (Nat × Instr × Nat) := [(0, .aload_n 0, 1), (1, .iload_n 1, 1), (2, .invokevirtual 230, 3), (5, .ifCond .ne 5, 3), (8, .iconst (-1), 1), (9, .ireturn, 1), (10, .aload_n 0, 1), (11, .aload_n 0, 1), (12, .getfield 23, 3), (15, .getfield 113, 3), (18, .iload_n 1, 1), (19, .aaload, 1), (20, .getfield 125, 3), (23, .iload_n 2, 1), (24, .iload_n 3, 1), (25, .iload 4, 2), (27, .iload 5, 2), (29, .invokevirtual 211, 3), (32, .aload_n 0, 1), (33, .getfield 38, 3), (36, .iload_n 1, 1), (37, .aaload, 1), (38, .aload_n 0, 1), (39, .getfield 66, 3), (42, .invokevirtual 233, 3), (45, .istore 6, 2), (47, .iload 6, 2), (49, .ifCond .ge 7, 3), (52, .iconst (-1), 1), (53, .goto 15, 3), (56, .aload_n 0, 1), (57, .getfield 38, 3)]
theorem dtX6_round_0_0_ok : dcAll cX6_round dtX6_round_0_0 = true := by decide +kernel
theorem dX6_round_0 : decode cX6_round 0 = .ok (.aload_n 0, 1) := dc_of dtX6_round_0_0_ok (i := 0) rfl
theorem dX6_round_1 : decode cX6_round 1 = .ok (.iload_n 1, 1) := dc_of dtX6_round_0_0_ok (i := 1) rfl
theorem dX6_round_2 : decode cX6_round 2 = .ok (.invokevirtual 230, 3) := dc_of dtX6_round_0_0_ok (i := 2) rfl
theorem dX6_round_5 : decode cX6_round 5 = .ok (.ifCond .ne 5, 3) := dc_of dtX6_round_0_0_ok (i := 3) rfl
theorem dX6_round_8 : decode cX6_round 8 = .ok (.iconst (-1), 1) := dc_of dtX6_round_0_0_ok (i := 4) rfl
theorem dX6_round_9 : decode cX6_round 9 = .ok (.ireturn, 1) := dc_of dtX6_round_0_0_ok (i := 5) rfl
theorem dX6_round_10 : decode cX6_round 10 = .ok (.aload_n 0, 1) := dc_of dtX6_round_0_0_ok (i := 6) rfl
theorem dX6_round_11 : decode cX6_round 11 = .ok (.aload_n 0, 1) := dc_of dtX6_round_0_0_ok (i := 7) rfl
theorem dX6_round_12 : decode cX6_round 12 = .ok (.getfield 23, 3) := dc_of dtX6_round_0_0_ok (i := 8) rfl
theorem dX6_round_15 : decode cX6_round 15 = .ok (.getfield 113, 3) := dc_of dtX6_round_0_0_ok (i := 9) rfl
theorem dX6_round_18 : decode cX6_round 18 = .ok (.iload_n 1, 1) := dc_of dtX6_round_0_0_ok (i := 10) rfl
theorem dX6_round_19 : decode cX6_round 19 = .ok (.aaload, 1) := dc_of dtX6_round_0_0_ok (i := 11) rfl
theorem dX6_round_20 : decode cX6_round 20 = .ok (.getfield 125, 3) := dc_of dtX6_round_0_0_ok (i := 12) rfl
theorem dX6_round_23 : decode cX6_round 23 = .ok (.iload_n 2, 1) := dc_of dtX6_round_0_0_ok (i := 13) rfl
theorem dX6_round_24 : decode cX6_round 24 = .ok (.iload_n 3, 1) := dc_of dtX6_round_0_0_ok (i := 14) rfl
theorem dX6_round_25 : decode cX6_round 25 = .ok (.iload 4, 2) := dc_of dtX6_round_0_0_ok (i := 15) rfl
theorem dX6_round_27 : decode cX6_round 27 = .ok (.iload 5, 2) := dc_of dtX6_round_0_0_ok (i := 16) rfl
theorem dX6_round_29 : decode cX6_round 29 = .ok (.invokevirtual 211, 3) := dc_of dtX6_round_0_0_ok (i := 17) rfl
theorem dX6_round_32 : decode cX6_round 32 = .ok (.aload_n 0, 1) := dc_of dtX6_round_0_0_ok (i := 18) rfl
theorem dX6_round_33 : decode cX6_round 33 = .ok (.getfield 38, 3) := dc_of dtX6_round_0_0_ok (i := 19) rfl
theorem dX6_round_36 : decode cX6_round 36 = .ok (.iload_n 1, 1) := dc_of dtX6_round_0_0_ok (i := 20) rfl
theorem dX6_round_37 : decode cX6_round 37 = .ok (.aaload, 1) := dc_of dtX6_round_0_0_ok (i := 21) rfl
theorem dX6_round_38 : decode cX6_round 38 = .ok (.aload_n 0, 1) := dc_of dtX6_round_0_0_ok (i := 22) rfl
theorem dX6_round_39 : decode cX6_round 39 = .ok (.getfield 66, 3) := dc_of dtX6_round_0_0_ok (i := 23) rfl
theorem dX6_round_42 : decode cX6_round 42 = .ok (.invokevirtual 233, 3) := dc_of dtX6_round_0_0_ok (i := 24) rfl
theorem dX6_round_45 : decode cX6_round 45 = .ok (.istore 6, 2) := dc_of dtX6_round_0_0_ok (i := 25) rfl
theorem dX6_round_47 : decode cX6_round 47 = .ok (.iload 6, 2) := dc_of dtX6_round_0_0_ok (i := 26) rfl
theorem dX6_round_49 : decode cX6_round 49 = .ok (.ifCond .ge 7, 3) := dc_of dtX6_round_0_0_ok (i := 27) rfl
theorem dX6_round_52 : decode cX6_round 52 = .ok (.iconst (-1), 1) := dc_of dtX6_round_0_0_ok (i := 28) rfl
theorem dX6_round_53 : decode cX6_round 53 = .ok (.goto 15, 3) := dc_of dtX6_round_0_0_ok (i := 29) rfl
theorem dX6_round_56 : decode cX6_round 56 = .ok (.aload_n 0, 1) := dc_of dtX6_round_0_0_ok (i := 30) rfl
theorem dX6_round_57 : decode cX6_round 57 = .ok (.getfield 38, 3) := dc_of dtX6_round_0_0_ok (i := 31) rfl
def dtX6_round_60_1 : List (Nat × Instr × Nat) := [(60, .iload_n 1, 1), (61, .aaload, 1), (62, .iload 6, 2), (64, .iconst 5, 1), (65, .invokevirtual 139, 3), (68, .ireturn, 1)]
theorem dtX6_round_60_1_ok : dcAll cX6_round dtX6_round_60_1 = true := by decide +kernel
theorem dX6_round_60 : decode cX6_round 60 = .ok (.iload_n 1, 1) := dc_of dtX6_round_60_1_ok (i := 0) rfl
theorem dX6_round_61 : decode cX6_round 61 = .ok (.aaload, 1) := dc_of dtX6_round_60_1_ok (i := 1) rfl
theorem dX6_round_62 : decode cX6_round 62 = .ok (.iload 6, 2) := dc_of dtX6_round_60_1_ok (i := 2) rfl
theorem dX6_round_64 : decode cX6_round 64 = .ok (.iconst 5, 1) := dc_of dtX6_round_60_1_ok (i := 3) rfl
theorem dX6_round_65 : decode cX6_round 65 = .ok (.invokevirtual 139, 3) := dc_of dtX6_round_60_1_ok (i := 4) rfl
theorem dX6_round_68 : decode cX6_round 68 = .ok (.ireturn, 1) := dc_of dtX6_round_60_1_ok (i := 5) rfl
set_option maxRecDepth 20000 in
theorem ggX6_rounds_X6_isRing : GoodIn wsX6_rounds wsX6_isRing := goodIn_r _ [11, 12, 13, 14, 15, 16, 17, 10, 18, 19, 26, 27, 28, 29, 30, 31, 32, 33, 34, 35, 36, 37, 38, 39, 40, 41, 42, 43, 48, 49, 50, 51, 52, 53, 54, 55, 56, 57, 58, 59, 60, 61, 62, 63, 64, 65] rfl gw_wsX6_isRing
set_option maxRecDepth 20000 in
theorem gX6_rounds_X6_isRing : GoodIn wsX6_rounds (wsV RX6 230 RX6 yX6_isRing wsX6_isRing) := goodIn_app (goodIn_of _ (by decide +kernel)) ggX6_rounds_X6_isRing
set_option maxRecDepth 20000 in
theorem ggX6_rounds_X4_cell : GoodIn wsX6_rounds wsX4_cell := goodIn_r _ [24, 25, 44, 45, 46, 47] rfl gw_wsX4_cell
set_option maxRecDepth 20000 in
theorem gX6_rounds_X4_cell : GoodIn wsX6_rounds (wsV RX6 139 RX4 yX4_cell wsX4_cell) := goodIn_app (goodIn_of _ (by decide +kernel)) ggX6_rounds_X4_cell
def dtX6_rounds_0_0 : List (Nat × Instr × Nat) := [(0, .aload_n 0, 1), (1, .iload_n 1, 1), (2, .invokevirtual 230, 3), (5, .ifCond .ne 5, 3), (8, .iconst (-1), 1), (9, .ireturn, 1), (10, .aload_n 0, 1), (11, .getfield 38, 3), (14, .iload_n 1, 1), (15, .aaload, 1), (16, .astore_n 2, 1), (17, .iconst 0, 1), (18, .istore_n 3, 1), (19, .iconst 0, 1), (20, .istore 4, 2), (22, .iload 4, 2), (24, .aload_n 2, 1), (25, .getfield 99, 3), (28, .if_icmp .ge 21, 3), (31, .iload_n 3, 1), (32, .aload_n 2, 1), (33, .iload 4, 2), (35, .iconst 5, 1), (36, .invokevirtual 139, 3), (39, .invokestatic 236, 3), (42, .istore_n 3, 1), (43, .iinc 4 1, 3), (46, .goto (-24), 3), (49, .iload_n 3, 1), (50, .ireturn, 1)]
theorem dtX6_rounds_0_0_ok : dcAll cX6_rounds dtX6_rounds_0_0 = true := by decide +kernel
theorem dX6_rounds_0 : decode cX6_rounds 0 = .ok (.aload_n 0, 1) := dc_of dtX6_rounds_0_0_ok (i := 0) rfl
theorem dX6_rounds_1 : decode cX6_rounds 1 = .ok (.iload_n 1, 1) := dc_of dtX6_rounds_0_0_ok (i := 1) rfl
theorem dX6_rounds_2 : decode cX6_rounds 2 = .ok (.invokevirtual 230, 3) := dc_of dtX6_rounds_0_0_ok (i := 2) rfl
theorem dX6_rounds_5 : decode cX6_rounds 5 = .ok (.ifCond .ne 5, 3) := dc_of dtX6_rounds_0_0_ok (i := 3) rfl
theorem dX6_rounds_8 : decode cX6_rounds 8 = .ok (.iconst (-1), 1) := dc_of dtX6_rounds_0_0_ok (i := 4) rfl
theorem dX6_rounds_9 : decode cX6_rounds 9 = .ok (.ireturn, 1) := dc_of dtX6_rounds_0_0_ok (i := 5) rfl
theorem dX6_rounds_10 : decode cX6_rounds 10 = .ok (.aload_n 0, 1) := dc_of dtX6_rounds_0_0_ok (i := 6) rfl
theorem dX6_rounds_11 : decode cX6_rounds 11 = .ok (.getfield 38, 3) := dc_of dtX6_rounds_0_0_ok (i := 7) rfl
theorem dX6_rounds_14 : decode cX6_rounds 14 = .ok (.iload_n 1, 1) := dc_of dtX6_rounds_0_0_ok (i := 8) rfl
theorem dX6_rounds_15 : decode cX6_rounds 15 = .ok (.aaload, 1) := dc_of dtX6_rounds_0_0_ok (i := 9) rfl
theorem dX6_rounds_16 : decode cX6_rounds 16 = .ok (.astore_n 2, 1) := dc_of dtX6_rounds_0_0_ok (i := 10) rfl
theorem dX6_rounds_17 : decode cX6_rounds 17 = .ok (.iconst 0, 1) := dc_of dtX6_rounds_0_0_ok (i := 11) rfl
theorem dX6_rounds_18 : decode cX6_rounds 18 = .ok (.istore_n 3, 1) := dc_of dtX6_rounds_0_0_ok (i := 12) rfl
theorem dX6_rounds_19 : decode cX6_rounds 19 = .ok (.iconst 0, 1) := dc_of dtX6_rounds_0_0_ok (i := 13) rfl
theorem dX6_rounds_20 : decode cX6_rounds 20 = .ok (.istore 4, 2) := dc_of dtX6_rounds_0_0_ok (i := 14) rfl
theorem dX6_rounds_22 : decode cX6_rounds 22 = .ok (.iload 4, 2) := dc_of dtX6_rounds_0_0_ok (i := 15) rfl
theorem dX6_rounds_24 : decode cX6_rounds 24 = .ok (.aload_n 2, 1) := dc_of dtX6_rounds_0_0_ok (i := 16) rfl
theorem dX6_rounds_25 : decode cX6_rounds 25 = .ok (.getfield 99, 3) := dc_of dtX6_rounds_0_0_ok (i := 17) rfl
theorem dX6_rounds_28 : decode cX6_rounds 28 = .ok (.if_icmp .ge 21, 3) := dc_of dtX6_rounds_0_0_ok (i := 18) rfl
theorem dX6_rounds_31 : decode cX6_rounds 31 = .ok (.iload_n 3, 1) := dc_of dtX6_rounds_0_0_ok (i := 19) rfl
theorem dX6_rounds_32 : decode cX6_rounds 32 = .ok (.aload_n 2, 1) := dc_of dtX6_rounds_0_0_ok (i := 20) rfl
theorem dX6_rounds_33 : decode cX6_rounds 33 = .ok (.iload 4, 2) := dc_of dtX6_rounds_0_0_ok (i := 21) rfl
theorem dX6_rounds_35 : decode cX6_rounds 35 = .ok (.iconst 5, 1) := dc_of dtX6_rounds_0_0_ok (i := 22) rfl
theorem dX6_rounds_36 : decode cX6_rounds 36 = .ok (.invokevirtual 139, 3) := dc_of dtX6_rounds_0_0_ok (i := 23) rfl
theorem dX6_rounds_39 : decode cX6_rounds 39 = .ok (.invokestatic 236, 3) := dc_of dtX6_rounds_0_0_ok (i := 24) rfl
theorem dX6_rounds_42 : decode cX6_rounds 42 = .ok (.istore_n 3, 1) := dc_of dtX6_rounds_0_0_ok (i := 25) rfl
theorem dX6_rounds_43 : decode cX6_rounds 43 = .ok (.iinc 4 1, 3) := dc_of dtX6_rounds_0_0_ok (i := 26) rfl
theorem dX6_rounds_46 : decode cX6_rounds 46 = .ok (.goto (-24), 3) := dc_of dtX6_rounds_0_0_ok (i := 27) rfl
theorem dX6_rounds_49 : decode cX6_rounds 49 = .ok (.iload_n 3, 1) := dc_of dtX6_rounds_0_0_ok (i := 28) rfl
theorem dX6_rounds_50 : decode cX6_rounds 50 = .ok (.ireturn, 1) := dc_of dtX6_rounds_0_0_ok (i := 29) rfl
set_option maxRecDepth 20000 in
theorem ggX6_differs_X6_isRelation : GoodIn wsX6_differs wsX6_isRelation := goodIn_r _ [10, 11, 12, 184, 185, 186, 187, 188, 189, 190, 191, 192, 193, 194, 195, 196, 197, 198, 199, 200, 201, 206, 207, 208] rfl gw_wsX6_isRelation
set_option maxRecDepth 20000 in
theorem gX6_differs_X6_isRelation : GoodIn wsX6_differs (wsV RX6 109 RX6 yX6_isRelation wsX6_isRelation) := goodIn_app (goodIn_of _ (by decide +kernel)) ggX6_differs_X6_isRelation
set_option maxRecDepth 20000 in
theorem ggX6_differs_X6_reckonNext : GoodIn wsX6_differs wsX6_reckonNext := goodIn_r _ [16, 11, 17, 3, 4, 18, 12, 19, 20, 21, 22, 23, 9, 24, 5, 25, 26, 27, 28, 29, 30, 31, 32, 33, 34, 35, 36, 37, 38, 39, 40, 41, 42, 43, 44, 45, 46, 47, 48, 49, 50, 51, 52, 53, 54, 55, 56, 57, 58, 59, 60, 61, 62, 63, 64, 65, 66, 67, 68, 69, 70, 71, 72, 73, 74, 75, 76, 77, 78, 79, 80, 81, 82, 83, 84, 85, 86, 87, 88, 89, 90, 91, 92, 93, 94, 95, 96, 97, 98, 99, 100, 101, 102, 103, 104, 105, 106, 107, 108, 109, 110, 111, 112, 113, 114, 115, 116, 117, 118, 119, 120, 121, 122, 123, 124, 125, 126, 127, 128, 129, 130, 131, 132, 133, 134, 135, 136, 137, 138, 139, 140, 141, 142, 143, 144, 145, 146, 147, 148, 149, 150, 151, 152, 153, 154, 155, 156, 157, 158, 159, 160, 161, 162, 163, 164, 165, 166, 167, 168, 169, 170, 171, 172, 173, 174, 175, 176, 177, 178, 179, 180, 181, 182, 183, 184, 185, 186, 187, 188, 189, 190, 191, 192, 193, 194, 195, 196, 197, 198, 199, 200, 201, 206, 207, 208, 202, 203, 204, 205, 209, 210, 211, 212, 213, 214, 215, 216, 217, 218, 219, 220, 221, 222, 223, 224, 225, 226] rfl gw_wsX6_reckonNext
set_option maxRecDepth 20000 in
theorem gX6_differs_X6_reckonNext : GoodIn wsX6_differs (wsV RX6 145 RX6 yX6_reckonNext wsX6_reckonNext) := goodIn_app (goodIn_of _ (by decide +kernel)) ggX6_differs_X6_reckonNext
set_option maxRecDepth 20000 in
theorem ggX6_differs_X4_gather : GoodIn wsX6_differs wsX4_gather := goodIn_r _ [71, 49, 72, 73, 29, 74, 31, 50, 51, 52, 53, 32, 54, 55, 56, 57, 75, 76, 77, 78, 67, 33, 34, 35, 36, 202, 203, 204, 205] rfl gw_wsX4_gather
set_option maxRecDepth 20000 in
theorem gX6_differs_X4_gather : GoodIn wsX6_differs (wsV RX6 179 RX4 yX4_gather wsX4_gather) := goodIn_app (goodIn_of _ (by decide +kernel)) ggX6_differs_X4_gather
def dtX6_differs_0_0 : List (Nat × Instr × Nat) := [(0, .aload_n 0, 1), (1, .iload_n 1, 1), (2, .invokevirtual 109, 3), (5, .ifCond .ne 5, 3), (8, .iconst (-1), 1), (9, .ireturn, 1), (10, .aload_n 0, 1), (11, .aload_n 0, 1), (12, .getfield 57, 3), (15, .iconst 1, 1), (16, .invokevirtual 145, 3), (19, .pop, 1), (20, .aload_n 0, 1), (21, .getfield 63, 3), (24, .aload_n 0, 1), (25, .getfield 42, 3), (28, .iload_n 1, 1), (29, .aaload, 1), (30, .aload_n 0, 1), (31, .getfield 38, 3), (34, .iload_n 1, 1), (35, .aaload, 1), (36, .iconst (-1), 1), (37, .invokevirtual 179, 3), (40, .pop, 1), (41, .aload_n 0, 1), (42, .getfield 63, 3), (45, .getfield 99, 3), (48, .ireturn, 1)]
theorem dtX6_differs_0_0_ok : dcAll cX6_differs dtX6_differs_0_0 = true := by decide +kernel
theorem dX6_differs_0 : decode cX6_differs 0 = .ok (.aload_n 0, 1) := dc_of dtX6_differs_0_0_ok (i := 0) rfl
theorem dX6_differs_1 : decode cX6_differs 1 = .ok (.iload_n 1, 1) := dc_of dtX6_differs_0_0_ok (i := 1) rfl
theorem dX6_differs_2 : decode cX6_differs 2 = .ok (.invokevirtual 109, 3) := dc_of dtX6_differs_0_0_ok (i := 2) rfl
theorem dX6_differs_5 : decode cX6_differs 5 = .ok (.ifCond .ne 5, 3) := dc_of dtX6_differs_0_0_ok (i := 3) rfl
theorem dX6_differs_8 : decode cX6_differs 8 = .ok (.iconst (-1), 1) := dc_of dtX6_differs_0_0_ok (i := 4) rfl
theorem dX6_differs_9 : decode cX6_differs 9 = .ok (.ireturn, 1) := dc_of dtX6_differs_0_0_ok (i := 5) rfl
theorem dX6_differs_10 : decode cX6_differs 10 = .ok (.aload_n 0, 1) := dc_of dtX6_differs_0_0_ok (i := 6) rfl
theorem dX6_differs_11 : decode cX6_differs 11 = .ok (.aload_n 0, 1) := dc_of dtX6_differs_0_0_ok (i := 7) rfl
theorem dX6_differs_12 : decode cX6_differs 12 = .ok (.getfield 57, 3) := dc_of dtX6_differs_0_0_ok (i := 8) rfl
theorem dX6_differs_15 : decode cX6_differs 15 = .ok (.iconst 1, 1) := dc_of dtX6_differs_0_0_ok (i := 9) rfl
theorem dX6_differs_16 : decode cX6_differs 16 = .ok (.invokevirtual 145, 3) := dc_of dtX6_differs_0_0_ok (i := 10) rfl
theorem dX6_differs_19 : decode cX6_differs 19 = .ok (.pop, 1) := dc_of dtX6_differs_0_0_ok (i := 11) rfl
theorem dX6_differs_20 : decode cX6_differs 20 = .ok (.aload_n 0, 1) := dc_of dtX6_differs_0_0_ok (i := 12) rfl
theorem dX6_differs_21 : decode cX6_differs 21 = .ok (.getfield 63, 3) := dc_of dtX6_differs_0_0_ok (i := 13) rfl
theorem dX6_differs_24 : decode cX6_differs 24 = .ok (.aload_n 0, 1) := dc_of dtX6_differs_0_0_ok (i := 14) rfl
theorem dX6_differs_25 : decode cX6_differs 25 = .ok (.getfield 42, 3) := dc_of dtX6_differs_0_0_ok (i := 15) rfl
theorem dX6_differs_28 : decode cX6_differs 28 = .ok (.iload_n 1, 1) := dc_of dtX6_differs_0_0_ok (i := 16) rfl
theorem dX6_differs_29 : decode cX6_differs 29 = .ok (.aaload, 1) := dc_of dtX6_differs_0_0_ok (i := 17) rfl
theorem dX6_differs_30 : decode cX6_differs 30 = .ok (.aload_n 0, 1) := dc_of dtX6_differs_0_0_ok (i := 18) rfl
theorem dX6_differs_31 : decode cX6_differs 31 = .ok (.getfield 38, 3) := dc_of dtX6_differs_0_0_ok (i := 19) rfl
theorem dX6_differs_34 : decode cX6_differs 34 = .ok (.iload_n 1, 1) := dc_of dtX6_differs_0_0_ok (i := 20) rfl
theorem dX6_differs_35 : decode cX6_differs 35 = .ok (.aaload, 1) := dc_of dtX6_differs_0_0_ok (i := 21) rfl
theorem dX6_differs_36 : decode cX6_differs 36 = .ok (.iconst (-1), 1) := dc_of dtX6_differs_0_0_ok (i := 22) rfl
theorem dX6_differs_37 : decode cX6_differs 37 = .ok (.invokevirtual 179, 3) := dc_of dtX6_differs_0_0_ok (i := 23) rfl
theorem dX6_differs_40 : decode cX6_differs 40 = .ok (.pop, 1) := dc_of dtX6_differs_0_0_ok (i := 24) rfl
theorem dX6_differs_41 : decode cX6_differs 41 = .ok (.aload_n 0, 1) := dc_of dtX6_differs_0_0_ok (i := 25) rfl
theorem dX6_differs_42 : decode cX6_differs 42 = .ok (.getfield 63, 3) := dc_of dtX6_differs_0_0_ok (i := 26) rfl
theorem dX6_differs_45 : decode cX6_differs 45 = .ok (.getfield 99, 3) := dc_of dtX6_differs_0_0_ok (i := 27) rfl
theorem dX6_differs_48 : decode cX6_differs 48 = .ok (.ireturn, 1) := dc_of dtX6_differs_0_0_ok (i := 28) rfl
set_option maxRecDepth 20000 in
theorem ggX6_of_X6_isRelation : GoodIn wsX6_of wsX6_isRelation := goodIn_r _ [13, 1, 14, 34, 35, 36, 37, 38, 39, 40, 41, 42, 43, 44, 45, 46, 47, 48, 49, 50, 51, 52, 53, 54] rfl gw_wsX6_isRelation
set_option maxRecDepth 20000 in
theorem gX6_of_X6_isRelation : GoodIn wsX6_of (wsV RX6 109 RX6 yX6_isRelation wsX6_isRelation) := goodIn_app (goodIn_of _ (by decide +kernel)) ggX6_of_X6_isRelation
set_option maxRecDepth 20000 in
theorem gw_wsX2_hangingOn : wsX2_hangingOn.all goodWord = true := by decide +kernel
set_option maxRecDepth 20000 in
theorem ggX6_of_X2_hangingOn : GoodIn wsX6_of wsX2_hangingOn := goodIn_r _ [19, 20, 21, 22, 52, 53, 54, 55, 56, 57, 58, 59, 60, 61, 62, 63, 64, 65, 66, 67, 68, 69] rfl gw_wsX2_hangingOn
set_option maxRecDepth 20000 in
theorem gX6_of_X2_hangingOn : GoodIn wsX6_of (wsV RX6 242 RX2 yX2_hangingOn wsX2_hangingOn) := goodIn_app (goodIn_of _ (by decide +kernel)) ggX6_of_X2_hangingOn
set_option maxRecDepth 20000 in
theorem gw_wsX0_firstLetter : wsX0_firstLetter.all goodWord = true := by decide +kernel
set_option maxRecDepth 20000 in
theorem ggX6_of_X0_firstLetter : GoodIn wsX6_of wsX0_firstLetter := goodIn_r _ [27, 28, 29, 55, 56, 57, 58, 59, 60, 61, 62, 63, 64, 65, 66, 67, 68, 69] rfl gw_wsX0_firstLetter
set_option maxRecDepth 20000 in
theorem gX6_of_X0_firstLetter : GoodIn wsX6_of (wsV RX6 248 RX0 yX0_firstLetter wsX0_firstLetter) := goodIn_app (goodIn_of _ (by decide +kernel)) ggX6_of_X0_firstLetter
set_option maxRecDepth 20000 in
theorem gw_wsX0_lastLetter : wsX0_lastLetter.all goodWord = true := by decide +kernel
set_option maxRecDepth 20000 in
theorem ggX6_of_X0_lastLetter : GoodIn wsX6_of wsX0_lastLetter := goodIn_r _ [33, 28, 29, 55, 56, 57, 58, 59, 60, 61, 62, 63, 64, 65, 66, 67, 68, 69] rfl gw_wsX0_lastLetter
set_option maxRecDepth 20000 in
theorem gX6_of_X0_lastLetter : GoodIn wsX6_of (wsV RX6 251 RX0 yX0_lastLetter wsX0_lastLetter) := goodIn_app (goodIn_of _ (by decide +kernel)) ggX6_of_X0_lastLetter
def dtX6_of_0_0 : List (Nat × Instr × Nat) := [(0, .aload_n 0, 1), (1, .iload_n 1, 1), (2, .invokevirtual 109, 3), (5, .ifCond .ne 5, 3), (8, .iconst (-1), 1), (9, .ireturn, 1), (10, .aload_n 0, 1), (11, .getfield 23, 3), (14, .getfield 113, 3), (17, .iload_n 1, 1), (18, .aaload, 1), (19, .astore_n 3, 1), (20, .iload_n 2, 1), (21, .tableswitch 100 0 8 #[51, 56, 61, 66, 71, 76, 85, 90, 95], 51), (72, .aload_n 3, 1), (73, .getfield 117, 3), (76, .ireturn, 1), (77, .aload_n 3, 1), (78, .getfield 125, 3), (81, .ireturn, 1), (82, .aload_n 3, 1), (83, .getfield 224, 3), (86, .ireturn, 1), (87, .aload_n 3, 1), (88, .getfield 227, 3), (91, .ireturn, 1), (92, .aload_n 3, 1), (93, .getfield 239, 3), (96, .ireturn, 1), (97, .aload_n 0, 1), (98, .getfield 23, 3), (101, .iload_n 1, 1)]
theorem dtX6_of_0_0_ok : dcAll cX6_of dtX6_of_0_0 = true := by decide +kernel
theorem dX6_of_0 : decode cX6_of 0 = .ok (.aload_n 0, 1) := dc_of dtX6_of_0_0_ok (i := 0) rfl
theorem dX6_of_1 : decode cX6_of 1 = .ok (.iload_n 1, 1) := dc_of dtX6_of_0_0_ok (i := 1) rfl
theorem dX6_of_2 : decode cX6_of 2 = .ok (.invokevirtual 109, 3) := dc_of dtX6_of_0_0_ok (i := 2) rfl
theorem dX6_of_5 : decode cX6_of 5 = .ok (.ifCond .ne 5, 3) := dc_of dtX6_of_0_0_ok (i := 3) rfl
theorem dX6_of_8 : decode cX6_of 8 = .ok (.iconst (-1), 1) := dc_of dtX6_of_0_0_ok (i := 4) rfl
theorem dX6_of_9 : decode cX6_of 9 = .ok (.ireturn, 1) := dc_of dtX6_of_0_0_ok (i := 5) rfl
theorem dX6_of_10 : decode cX6_of 10 = .ok (.aload_n 0, 1) := dc_of dtX6_of_0_0_ok (i := 6) rfl
theorem dX6_of_11 : decode cX6_of 11 = .ok (.getfield 23, 3) := dc_of dtX6_of_0_0_ok (i := 7) rfl
theorem dX6_of_14 : decode cX6_of 14 = .ok (.getfield 113, 3) := dc_of dtX6_of_0_0_ok (i := 8) rfl
theorem dX6_of_17 : decode cX6_of 17 = .ok (.iload_n 1, 1) := dc_of dtX6_of_0_0_ok (i := 9) rfl
theorem dX6_of_18 : decode cX6_of 18 = .ok (.aaload, 1) := dc_of dtX6_of_0_0_ok (i := 10) rfl
theorem dX6_of_19 : decode cX6_of 19 = .ok (.astore_n 3, 1) := dc_of dtX6_of_0_0_ok (i := 11) rfl
theorem dX6_of_20 : decode cX6_of 20 = .ok (.iload_n 2, 1) := dc_of dtX6_of_0_0_ok (i := 12) rfl
theorem dX6_of_21 : decode cX6_of 21 = .ok (.tableswitch 100 0 8 #[51, 56, 61, 66, 71, 76, 85, 90, 95], 51) := dc_of dtX6_of_0_0_ok (i := 13) rfl
theorem dX6_of_72 : decode cX6_of 72 = .ok (.aload_n 3, 1) := dc_of dtX6_of_0_0_ok (i := 14) rfl
theorem dX6_of_73 : decode cX6_of 73 = .ok (.getfield 117, 3) := dc_of dtX6_of_0_0_ok (i := 15) rfl
theorem dX6_of_76 : decode cX6_of 76 = .ok (.ireturn, 1) := dc_of dtX6_of_0_0_ok (i := 16) rfl
theorem dX6_of_77 : decode cX6_of 77 = .ok (.aload_n 3, 1) := dc_of dtX6_of_0_0_ok (i := 17) rfl
theorem dX6_of_78 : decode cX6_of 78 = .ok (.getfield 125, 3) := dc_of dtX6_of_0_0_ok (i := 18) rfl
theorem dX6_of_81 : decode cX6_of 81 = .ok (.ireturn, 1) := dc_of dtX6_of_0_0_ok (i := 19) rfl
theorem dX6_of_82 : decode cX6_of 82 = .ok (.aload_n 3, 1) := dc_of dtX6_of_0_0_ok (i := 20) rfl
theorem dX6_of_83 : decode cX6_of 83 = .ok (.getfield 224, 3) := dc_of dtX6_of_0_0_ok (i := 21) rfl
theorem dX6_of_86 : decode cX6_of 86 = .ok (.ireturn, 1) := dc_of dtX6_of_0_0_ok (i := 22) rfl
theorem dX6_of_87 : decode cX6_of 87 = .ok (.aload_n 3, 1) := dc_of dtX6_of_0_0_ok (i := 23) rfl
theorem dX6_of_88 : decode cX6_of 88 = .ok (.getfield 227, 3) := dc_of dtX6_of_0_0_ok (i := 24) rfl
theorem dX6_of_91 : decode cX6_of 91 = .ok (.ireturn, 1) := dc_of dtX6_of_0_0_ok (i := 25) rfl
theorem dX6_of_92 : decode cX6_of 92 = .ok (.aload_n 3, 1) := dc_of dtX6_of_0_0_ok (i := 26) rfl
theorem dX6_of_93 : decode cX6_of 93 = .ok (.getfield 239, 3) := dc_of dtX6_of_0_0_ok (i := 27) rfl
theorem dX6_of_96 : decode cX6_of 96 = .ok (.ireturn, 1) := dc_of dtX6_of_0_0_ok (i := 28) rfl
theorem dX6_of_97 : decode cX6_of 97 = .ok (.aload_n 0, 1) := dc_of dtX6_of_0_0_ok (i := 29) rfl
theorem dX6_of_98 : decode cX6_of 98 = .ok (.getfield 23, 3) := dc_of dtX6_of_0_0_ok (i := 30) rfl
theorem dX6_of_101 : decode cX6_of 101 = .ok (.iload_n 1, 1) := dc_of dtX6_of_0_0_ok (i := 31) rfl
def dtX6_of_102_1 : List (Nat × Instr × Nat) := [(102, .invokevirtual 242, 3), (105, .ireturn, 1), (106, .aload_n 3, 1), (107, .getfield 245, 3), (110, .ireturn, 1), (111, .aload_n 3, 1), (112, .invokevirtual 248, 3), (115, .ireturn, 1), (116, .aload_n 3, 1), (117, .invokevirtual 251, 3), (120, .ireturn, 1), (121, .iconst (-1), 1), (122, .ireturn, 1)]
theorem dtX6_of_102_1_ok : dcAll cX6_of dtX6_of_102_1 = true := by decide +kernel
theorem dX6_of_102 : decode cX6_of 102 = .ok (.invokevirtual 242, 3) := dc_of dtX6_of_102_1_ok (i := 0) rfl
theorem dX6_of_105 : decode cX6_of 105 = .ok (.ireturn, 1) := dc_of dtX6_of_102_1_ok (i := 1) rfl
theorem dX6_of_106 : decode cX6_of 106 = .ok (.aload_n 3, 1) := dc_of dtX6_of_102_1_ok (i := 2) rfl
theorem dX6_of_107 : decode cX6_of 107 = .ok (.getfield 245, 3) := dc_of dtX6_of_102_1_ok (i := 3) rfl
theorem dX6_of_110 : decode cX6_of 110 = .ok (.ireturn, 1) := dc_of dtX6_of_102_1_ok (i := 4) rfl
theorem dX6_of_111 : decode cX6_of 111 = .ok (.aload_n 3, 1) := dc_of dtX6_of_102_1_ok (i := 5) rfl
theorem dX6_of_112 : decode cX6_of 112 = .ok (.invokevirtual 248, 3) := dc_of dtX6_of_102_1_ok (i := 6) rfl
theorem dX6_of_115 : decode cX6_of 115 = .ok (.ireturn, 1) := dc_of dtX6_of_102_1_ok (i := 7) rfl
theorem dX6_of_116 : decode cX6_of 116 = .ok (.aload_n 3, 1) := dc_of dtX6_of_102_1_ok (i := 8) rfl
theorem dX6_of_117 : decode cX6_of 117 = .ok (.invokevirtual 251, 3) := dc_of dtX6_of_102_1_ok (i := 9) rfl
theorem dX6_of_120 : decode cX6_of 120 = .ok (.ireturn, 1) := dc_of dtX6_of_102_1_ok (i := 10) rfl
theorem dX6_of_121 : decode cX6_of 121 = .ok (.iconst (-1), 1) := dc_of dtX6_of_102_1_ok (i := 11) rfl
theorem dX6_of_122 : decode cX6_of 122 = .ok (.ireturn, 1) := dc_of dtX6_of_102_1_ok (i := 12) rfl
set_option maxRecDepth 20000 in
theorem gw_wsX6_tuplesOfViews : wsX6_tuplesOfViews.all goodWord = true := by decide +kernel
set_option maxRecDepth 20000 in
theorem ggX6_told_X6_tuplesOfViews : GoodIn wsX6_told wsX6_tuplesOfViews := goodIn_r _ [14, 1, 2, 3, 15, 8, 32, 33, 34, 35, 36, 37, 38, 39, 40, 41, 42, 43, 44, 45, 46, 47, 48, 49, 50, 51, 52, 53, 54, 55, 56] rfl gw_wsX6_tuplesOfViews
set_option maxRecDepth 20000 in
theorem gX6_told_X6_tuplesOfViews : GoodIn wsX6_told (wsV RX6 254 RX6 yX6_tuplesOfViews wsX6_tuplesOfViews) := goodIn_app (goodIn_of _ (by decide +kernel)) ggX6_told_X6_tuplesOfViews
set_option maxRecDepth 20000 in
theorem ggX6_told_X6_movedInViews : GoodIn wsX6_told wsX6_movedInViews := goodIn_r _ [19, 1, 2, 3, 20, 8, 32, 33, 34, 35, 36, 37, 38, 39, 40, 41, 42, 43, 44, 45, 46, 47, 48, 49, 50, 51, 52, 53, 54, 55, 56] rfl gw_wsX6_movedInViews
set_option maxRecDepth 20000 in
theorem gX6_told_X6_movedInViews : GoodIn wsX6_told (wsV RX6 156 RX6 yX6_movedInViews wsX6_movedInViews) := goodIn_app (goodIn_of _ (by decide +kernel)) ggX6_told_X6_movedInViews
set_option maxRecDepth 20000 in
theorem gw_wsX6_cameToViews : wsX6_cameToViews.all goodWord = true := by decide +kernel
set_option maxRecDepth 20000 in
theorem ggX6_told_X6_cameToViews : GoodIn wsX6_told wsX6_cameToViews := goodIn_r _ [24, 1, 2, 3, 25, 26, 27, 28, 13, 29, 30, 20, 8, 31, 32, 33, 34, 35, 36, 37, 38, 39, 40, 41, 42, 43, 44, 45, 46, 47, 48, 49, 50, 51, 52, 57, 58, 59, 60, 61, 62, 63, 64, 65, 66, 67, 68, 69, 70, 71, 53, 54, 55, 56] rfl gw_wsX6_cameToViews
set_option maxRecDepth 20000 in
theorem gX6_told_X6_cameToViews : GoodIn wsX6_told (wsV RX6 257 RX6 yX6_cameToViews wsX6_cameToViews) := goodIn_app (goodIn_of _ (by decide +kernel)) ggX6_told_X6_cameToViews
def dtX6_told_0_0 : List (Nat × Instr × Nat) := [(0, .iload_n 1, 1), (1, .tableswitch 122 0 9 #[55, 63, 79, 84, 89, 94, 102, 107, 112, 117], 55), (56, .aload_n 0, 1), (57, .getfield 23, 3), (60, .getfield 122, 3), (63, .ireturn, 1), (64, .aload_n 0, 1), (65, .getfield 23, 3), (68, .getfield 96, 3), (71, .aload_n 0, 1), (72, .getfield 23, 3), (75, .getfield 122, 3), (78, .isub, 1), (79, .ireturn, 1), (80, .aload_n 0, 1), (81, .getfield 103, 3), (84, .ireturn, 1), (85, .aload_n 0, 1), (86, .getfield 106, 3), (89, .ireturn, 1), (90, .aload_n 0, 1), (91, .getfield 100, 3), (94, .ireturn, 1), (95, .aload_n 0, 1), (96, .getfield 53, 3), (99, .getfield 99, 3), (102, .ireturn, 1), (103, .aload_n 0, 1), (104, .invokevirtual 254, 3), (107, .ireturn, 1), (108, .aload_n 0, 1), (109, .invokevirtual 156, 3)]
theorem dtX6_told_0_0_ok : dcAll cX6_told dtX6_told_0_0 = true := by decide +kernel
theorem dX6_told_0 : decode cX6_told 0 = .ok (.iload_n 1, 1) := dc_of dtX6_told_0_0_ok (i := 0) rfl
theorem dX6_told_1 : decode cX6_told 1 = .ok (.tableswitch 122 0 9 #[55, 63, 79, 84, 89, 94, 102, 107, 112, 117], 55) := dc_of dtX6_told_0_0_ok (i := 1) rfl
theorem dX6_told_56 : decode cX6_told 56 = .ok (.aload_n 0, 1) := dc_of dtX6_told_0_0_ok (i := 2) rfl
theorem dX6_told_57 : decode cX6_told 57 = .ok (.getfield 23, 3) := dc_of dtX6_told_0_0_ok (i := 3) rfl
theorem dX6_told_60 : decode cX6_told 60 = .ok (.getfield 122, 3) := dc_of dtX6_told_0_0_ok (i := 4) rfl
theorem dX6_told_63 : decode cX6_told 63 = .ok (.ireturn, 1) := dc_of dtX6_told_0_0_ok (i := 5) rfl
theorem dX6_told_64 : decode cX6_told 64 = .ok (.aload_n 0, 1) := dc_of dtX6_told_0_0_ok (i := 6) rfl
theorem dX6_told_65 : decode cX6_told 65 = .ok (.getfield 23, 3) := dc_of dtX6_told_0_0_ok (i := 7) rfl
theorem dX6_told_68 : decode cX6_told 68 = .ok (.getfield 96, 3) := dc_of dtX6_told_0_0_ok (i := 8) rfl
theorem dX6_told_71 : decode cX6_told 71 = .ok (.aload_n 0, 1) := dc_of dtX6_told_0_0_ok (i := 9) rfl
theorem dX6_told_72 : decode cX6_told 72 = .ok (.getfield 23, 3) := dc_of dtX6_told_0_0_ok (i := 10) rfl
theorem dX6_told_75 : decode cX6_told 75 = .ok (.getfield 122, 3) := dc_of dtX6_told_0_0_ok (i := 11) rfl
theorem dX6_told_78 : decode cX6_told 78 = .ok (.isub, 1) := dc_of dtX6_told_0_0_ok (i := 12) rfl
theorem dX6_told_79 : decode cX6_told 79 = .ok (.ireturn, 1) := dc_of dtX6_told_0_0_ok (i := 13) rfl
theorem dX6_told_80 : decode cX6_told 80 = .ok (.aload_n 0, 1) := dc_of dtX6_told_0_0_ok (i := 14) rfl
theorem dX6_told_81 : decode cX6_told 81 = .ok (.getfield 103, 3) := dc_of dtX6_told_0_0_ok (i := 15) rfl
theorem dX6_told_84 : decode cX6_told 84 = .ok (.ireturn, 1) := dc_of dtX6_told_0_0_ok (i := 16) rfl
theorem dX6_told_85 : decode cX6_told 85 = .ok (.aload_n 0, 1) := dc_of dtX6_told_0_0_ok (i := 17) rfl
theorem dX6_told_86 : decode cX6_told 86 = .ok (.getfield 106, 3) := dc_of dtX6_told_0_0_ok (i := 18) rfl
theorem dX6_told_89 : decode cX6_told 89 = .ok (.ireturn, 1) := dc_of dtX6_told_0_0_ok (i := 19) rfl
theorem dX6_told_90 : decode cX6_told 90 = .ok (.aload_n 0, 1) := dc_of dtX6_told_0_0_ok (i := 20) rfl
theorem dX6_told_91 : decode cX6_told 91 = .ok (.getfield 100, 3) := dc_of dtX6_told_0_0_ok (i := 21) rfl
theorem dX6_told_94 : decode cX6_told 94 = .ok (.ireturn, 1) := dc_of dtX6_told_0_0_ok (i := 22) rfl
theorem dX6_told_95 : decode cX6_told 95 = .ok (.aload_n 0, 1) := dc_of dtX6_told_0_0_ok (i := 23) rfl
theorem dX6_told_96 : decode cX6_told 96 = .ok (.getfield 53, 3) := dc_of dtX6_told_0_0_ok (i := 24) rfl
theorem dX6_told_99 : decode cX6_told 99 = .ok (.getfield 99, 3) := dc_of dtX6_told_0_0_ok (i := 25) rfl
theorem dX6_told_102 : decode cX6_told 102 = .ok (.ireturn, 1) := dc_of dtX6_told_0_0_ok (i := 26) rfl
theorem dX6_told_103 : decode cX6_told 103 = .ok (.aload_n 0, 1) := dc_of dtX6_told_0_0_ok (i := 27) rfl
theorem dX6_told_104 : decode cX6_told 104 = .ok (.invokevirtual 254, 3) := dc_of dtX6_told_0_0_ok (i := 28) rfl
theorem dX6_told_107 : decode cX6_told 107 = .ok (.ireturn, 1) := dc_of dtX6_told_0_0_ok (i := 29) rfl
theorem dX6_told_108 : decode cX6_told 108 = .ok (.aload_n 0, 1) := dc_of dtX6_told_0_0_ok (i := 30) rfl
theorem dX6_told_109 : decode cX6_told 109 = .ok (.invokevirtual 156, 3) := dc_of dtX6_told_0_0_ok (i := 31) rfl
def dtX6_told_112_1 : List (Nat × Instr × Nat) := [(112, .ireturn, 1), (113, .aload_n 0, 1), (114, .invokevirtual 257, 3), (117, .ireturn, 1), (118, .aload_n 0, 1), (119, .getfield 77, 3), (122, .ireturn, 1), (123, .iconst (-1), 1), (124, .ireturn, 1)]
theorem dtX6_told_112_1_ok : dcAll cX6_told dtX6_told_112_1 = true := by decide +kernel
theorem dX6_told_112 : decode cX6_told 112 = .ok (.ireturn, 1) := dc_of dtX6_told_112_1_ok (i := 0) rfl
theorem dX6_told_113 : decode cX6_told 113 = .ok (.aload_n 0, 1) := dc_of dtX6_told_112_1_ok (i := 1) rfl
theorem dX6_told_114 : decode cX6_told 114 = .ok (.invokevirtual 257, 3) := dc_of dtX6_told_112_1_ok (i := 2) rfl
theorem dX6_told_117 : decode cX6_told 117 = .ok (.ireturn, 1) := dc_of dtX6_told_112_1_ok (i := 3) rfl
theorem dX6_told_118 : decode cX6_told 118 = .ok (.aload_n 0, 1) := dc_of dtX6_told_112_1_ok (i := 4) rfl
theorem dX6_told_119 : decode cX6_told 119 = .ok (.getfield 77, 3) := dc_of dtX6_told_112_1_ok (i := 5) rfl
theorem dX6_told_122 : decode cX6_told 122 = .ok (.ireturn, 1) := dc_of dtX6_told_112_1_ok (i := 6) rfl
theorem dX6_told_123 : decode cX6_told 123 = .ok (.iconst (-1), 1) := dc_of dtX6_told_112_1_ok (i := 7) rfl
theorem dX6_told_124 : decode cX6_told 124 = .ok (.ireturn, 1) := dc_of dtX6_told_112_1_ok (i := 8) rfl
def dtX7_init_0_0 : List (Nat × Instr × Nat) := [(0, .aload_n 0, 1), (1, .invokespecial 1, 3), (4, .aload_n 0, 1), (5, .sipush 640, 3), (8, .newarray .int, 2), (10, .putfield 7, 3), (13, .aload_n 0, 1), (14, .bipush 16, 2), (16, .newarray .long, 2), (18, .putfield 13, 3), (21, .aload_n 0, 1), (22, .sipush 640, 3), (25, .newarray .int, 2), (27, .putfield 17, 3), (30, .aload_n 0, 1), (31, .bipush 16, 2), (33, .newarray .long, 2), (35, .putfield 20, 3), (38, .aload_n 0, 1), (39, .ldc 23, 2), (41, .newarray .int, 2), (43, .putfield 24, 3), (46, .aload_n 0, 1), (47, .sipush 176, 3), (50, .newarray .int, 2), (52, .putfield 27, 3), (55, .aload_n 0, 1), (56, .bipush 41, 2), (58, .newarray .int, 2), (60, .putfield 30, 3), (63, .aload_n 0, 1), (64, .sipush 164, 3)]
theorem dtX7_init_0_0_ok : dcAll cX7_init dtX7_init_0_0 = true := by decide +kernel
theorem dX7_init_0 : decode cX7_init 0 = .ok (.aload_n 0, 1) := dc_of dtX7_init_0_0_ok (i := 0) rfl
theorem dX7_init_1 : decode cX7_init 1 = .ok (.invokespecial 1, 3) := dc_of dtX7_init_0_0_ok (i := 1) rfl
theorem dX7_init_4 : decode cX7_init 4 = .ok (.aload_n 0, 1) := dc_of dtX7_init_0_0_ok (i := 2) rfl
theorem dX7_init_5 : decode cX7_init 5 = .ok (.sipush 640, 3) := dc_of dtX7_init_0_0_ok (i := 3) rfl
theorem dX7_init_8 : decode cX7_init 8 = .ok (.newarray .int, 2) := dc_of dtX7_init_0_0_ok (i := 4) rfl
theorem dX7_init_10 : decode cX7_init 10 = .ok (.putfield 7, 3) := dc_of dtX7_init_0_0_ok (i := 5) rfl
theorem dX7_init_13 : decode cX7_init 13 = .ok (.aload_n 0, 1) := dc_of dtX7_init_0_0_ok (i := 6) rfl
theorem dX7_init_14 : decode cX7_init 14 = .ok (.bipush 16, 2) := dc_of dtX7_init_0_0_ok (i := 7) rfl
theorem dX7_init_16 : decode cX7_init 16 = .ok (.newarray .long, 2) := dc_of dtX7_init_0_0_ok (i := 8) rfl
theorem dX7_init_18 : decode cX7_init 18 = .ok (.putfield 13, 3) := dc_of dtX7_init_0_0_ok (i := 9) rfl
theorem dX7_init_21 : decode cX7_init 21 = .ok (.aload_n 0, 1) := dc_of dtX7_init_0_0_ok (i := 10) rfl
theorem dX7_init_22 : decode cX7_init 22 = .ok (.sipush 640, 3) := dc_of dtX7_init_0_0_ok (i := 11) rfl
theorem dX7_init_25 : decode cX7_init 25 = .ok (.newarray .int, 2) := dc_of dtX7_init_0_0_ok (i := 12) rfl
theorem dX7_init_27 : decode cX7_init 27 = .ok (.putfield 17, 3) := dc_of dtX7_init_0_0_ok (i := 13) rfl
theorem dX7_init_30 : decode cX7_init 30 = .ok (.aload_n 0, 1) := dc_of dtX7_init_0_0_ok (i := 14) rfl
theorem dX7_init_31 : decode cX7_init 31 = .ok (.bipush 16, 2) := dc_of dtX7_init_0_0_ok (i := 15) rfl
theorem dX7_init_33 : decode cX7_init 33 = .ok (.newarray .long, 2) := dc_of dtX7_init_0_0_ok (i := 16) rfl
theorem dX7_init_35 : decode cX7_init 35 = .ok (.putfield 20, 3) := dc_of dtX7_init_0_0_ok (i := 17) rfl
theorem dX7_init_38 : decode cX7_init 38 = .ok (.aload_n 0, 1) := dc_of dtX7_init_0_0_ok (i := 18) rfl
theorem dX7_init_39 : decode cX7_init 39 = .ok (.ldc 23, 2) := dc_of dtX7_init_0_0_ok (i := 19) rfl
theorem dX7_init_41 : decode cX7_init 41 = .ok (.newarray .int, 2) := dc_of dtX7_init_0_0_ok (i := 20) rfl
theorem dX7_init_43 : decode cX7_init 43 = .ok (.putfield 24, 3) := dc_of dtX7_init_0_0_ok (i := 21) rfl
theorem dX7_init_46 : decode cX7_init 46 = .ok (.aload_n 0, 1) := dc_of dtX7_init_0_0_ok (i := 22) rfl
theorem dX7_init_47 : decode cX7_init 47 = .ok (.sipush 176, 3) := dc_of dtX7_init_0_0_ok (i := 23) rfl
theorem dX7_init_50 : decode cX7_init 50 = .ok (.newarray .int, 2) := dc_of dtX7_init_0_0_ok (i := 24) rfl
theorem dX7_init_52 : decode cX7_init 52 = .ok (.putfield 27, 3) := dc_of dtX7_init_0_0_ok (i := 25) rfl
theorem dX7_init_55 : decode cX7_init 55 = .ok (.aload_n 0, 1) := dc_of dtX7_init_0_0_ok (i := 26) rfl
theorem dX7_init_56 : decode cX7_init 56 = .ok (.bipush 41, 2) := dc_of dtX7_init_0_0_ok (i := 27) rfl
theorem dX7_init_58 : decode cX7_init 58 = .ok (.newarray .int, 2) := dc_of dtX7_init_0_0_ok (i := 28) rfl
theorem dX7_init_60 : decode cX7_init 60 = .ok (.putfield 30, 3) := dc_of dtX7_init_0_0_ok (i := 29) rfl
theorem dX7_init_63 : decode cX7_init 63 = .ok (.aload_n 0, 1) := dc_of dtX7_init_0_0_ok (i := 30) rfl
theorem dX7_init_64 : decode cX7_init 64 = .ok (.sipush 164, 3) := dc_of dtX7_init_0_0_ok (i := 31) rfl
def dtX7_init_67_1 : List (Nat × Instr × Nat) := [(67, .newarray .int, 2), (69, .putfield 33, 3), (72, .aload_n 0, 1), (73, .bipush 41, 2), (75, .newarray .int, 2), (77, .putfield 36, 3), (80, .aload_n 0, 1), (81, .sipush 936, 3), (84, .newarray .int, 2), (86, .putfield 39, 3), (89, .aload_n 0, 1), (90, .sipush 9600, 3), (93, .newarray .int, 2), (95, .putfield 42, 3), (98, .aload_n 0, 1), (99, .iconst 4, 1), (100, .newarray .int, 2), (102, .putfield 45, 3), (105, .aload_n 0, 1), (106, .bipush 8, 2), (108, .newarray .int, 2), (110, .putfield 48, 3), (113, .aload_n 0, 1), (114, .sipush 176, 3), (117, .newarray .int, 2), (119, .putfield 51, 3), (122, .aload_n 0, 1), (123, .sipush 600, 3), (126, .newarray .int, 2), (128, .putfield 54, 3), (131, .aload_n 0, 1), (132, .sipush 1200, 3)]
theorem dtX7_init_67_1_ok : dcAll cX7_init dtX7_init_67_1 = true := by decide +kernel
theorem dX7_init_67 : decode cX7_init 67 = .ok (.newarray .int, 2) := dc_of dtX7_init_67_1_ok (i := 0) rfl
theorem dX7_init_69 : decode cX7_init 69 = .ok (.putfield 33, 3) := dc_of dtX7_init_67_1_ok (i := 1) rfl
theorem dX7_init_72 : decode cX7_init 72 = .ok (.aload_n 0, 1) := dc_of dtX7_init_67_1_ok (i := 2) rfl
theorem dX7_init_73 : decode cX7_init 73 = .ok (.bipush 41, 2) := dc_of dtX7_init_67_1_ok (i := 3) rfl
theorem dX7_init_75 : decode cX7_init 75 = .ok (.newarray .int, 2) := dc_of dtX7_init_67_1_ok (i := 4) rfl
theorem dX7_init_77 : decode cX7_init 77 = .ok (.putfield 36, 3) := dc_of dtX7_init_67_1_ok (i := 5) rfl
theorem dX7_init_80 : decode cX7_init 80 = .ok (.aload_n 0, 1) := dc_of dtX7_init_67_1_ok (i := 6) rfl
theorem dX7_init_81 : decode cX7_init 81 = .ok (.sipush 936, 3) := dc_of dtX7_init_67_1_ok (i := 7) rfl
theorem dX7_init_84 : decode cX7_init 84 = .ok (.newarray .int, 2) := dc_of dtX7_init_67_1_ok (i := 8) rfl
theorem dX7_init_86 : decode cX7_init 86 = .ok (.putfield 39, 3) := dc_of dtX7_init_67_1_ok (i := 9) rfl
theorem dX7_init_89 : decode cX7_init 89 = .ok (.aload_n 0, 1) := dc_of dtX7_init_67_1_ok (i := 10) rfl
theorem dX7_init_90 : decode cX7_init 90 = .ok (.sipush 9600, 3) := dc_of dtX7_init_67_1_ok (i := 11) rfl
theorem dX7_init_93 : decode cX7_init 93 = .ok (.newarray .int, 2) := dc_of dtX7_init_67_1_ok (i := 12) rfl
theorem dX7_init_95 : decode cX7_init 95 = .ok (.putfield 42, 3) := dc_of dtX7_init_67_1_ok (i := 13) rfl
theorem dX7_init_98 : decode cX7_init 98 = .ok (.aload_n 0, 1) := dc_of dtX7_init_67_1_ok (i := 14) rfl
theorem dX7_init_99 : decode cX7_init 99 = .ok (.iconst 4, 1) := dc_of dtX7_init_67_1_ok (i := 15) rfl
theorem dX7_init_100 : decode cX7_init 100 = .ok (.newarray .int, 2) := dc_of dtX7_init_67_1_ok (i := 16) rfl
theorem dX7_init_102 : decode cX7_init 102 = .ok (.putfield 45, 3) := dc_of dtX7_init_67_1_ok (i := 17) rfl
theorem dX7_init_105 : decode cX7_init 105 = .ok (.aload_n 0, 1) := dc_of dtX7_init_67_1_ok (i := 18) rfl
theorem dX7_init_106 : decode cX7_init 106 = .ok (.bipush 8, 2) := dc_of dtX7_init_67_1_ok (i := 19) rfl
theorem dX7_init_108 : decode cX7_init 108 = .ok (.newarray .int, 2) := dc_of dtX7_init_67_1_ok (i := 20) rfl
theorem dX7_init_110 : decode cX7_init 110 = .ok (.putfield 48, 3) := dc_of dtX7_init_67_1_ok (i := 21) rfl
theorem dX7_init_113 : decode cX7_init 113 = .ok (.aload_n 0, 1) := dc_of dtX7_init_67_1_ok (i := 22) rfl
theorem dX7_init_114 : decode cX7_init 114 = .ok (.sipush 176, 3) := dc_of dtX7_init_67_1_ok (i := 23) rfl
theorem dX7_init_117 : decode cX7_init 117 = .ok (.newarray .int, 2) := dc_of dtX7_init_67_1_ok (i := 24) rfl
theorem dX7_init_119 : decode cX7_init 119 = .ok (.putfield 51, 3) := dc_of dtX7_init_67_1_ok (i := 25) rfl
theorem dX7_init_122 : decode cX7_init 122 = .ok (.aload_n 0, 1) := dc_of dtX7_init_67_1_ok (i := 26) rfl
theorem dX7_init_123 : decode cX7_init 123 = .ok (.sipush 600, 3) := dc_of dtX7_init_67_1_ok (i := 27) rfl
theorem dX7_init_126 : decode cX7_init 126 = .ok (.newarray .int, 2) := dc_of dtX7_init_67_1_ok (i := 28) rfl
theorem dX7_init_128 : decode cX7_init 128 = .ok (.putfield 54, 3) := dc_of dtX7_init_67_1_ok (i := 29) rfl
theorem dX7_init_131 : decode cX7_init 131 = .ok (.aload_n 0, 1) := dc_of dtX7_init_67_1_ok (i := 30) rfl
theorem dX7_init_132 : decode cX7_init 132 = .ok (.sipush 1200, 3) := dc_of dtX7_init_67_1_ok (i := 31) rfl
def dtX7_init_135_2 : List (Nat × Instr × Nat) := [(135, .newarray .int, 2), (137, .putfield 57, 3), (140, .return_, 1)]
theorem dtX7_init_135_2_ok : dcAll cX7_init dtX7_init_135_2 = true := by decide +kernel
theorem dX7_init_135 : decode cX7_init 135 = .ok (.newarray .int, 2) := dc_of dtX7_init_135_2_ok (i := 0) rfl
theorem dX7_init_137 : decode cX7_init 137 = .ok (.putfield 57, 3) := dc_of dtX7_init_135_2_ok (i := 1) rfl
theorem dX7_init_140 : decode cX7_init 140 = .ok (.return_, 1) := dc_of dtX7_init_135_2_ok (i := 2) rfl
def dtX7_within_0_0 : List (Nat × Instr × Nat) := [(0, .iload_n 0, 1), (1, .iload_n 1, 1), (2, .if_icmp .lt 12, 3), (5, .iload_n 0, 1), (6, .iload_n 2, 1), (7, .if_icmp .gt 7, 3), (10, .iconst 1, 1), (11, .goto 4, 3), (14, .iconst 0, 1), (15, .ireturn, 1)]
theorem dtX7_within_0_0_ok : dcAll cX7_within dtX7_within_0_0 = true := by decide +kernel
theorem dX7_within_0 : decode cX7_within 0 = .ok (.iload_n 0, 1) := dc_of dtX7_within_0_0_ok (i := 0) rfl
theorem dX7_within_1 : decode cX7_within 1 = .ok (.iload_n 1, 1) := dc_of dtX7_within_0_0_ok (i := 1) rfl
theorem dX7_within_2 : decode cX7_within 2 = .ok (.if_icmp .lt 12, 3) := dc_of dtX7_within_0_0_ok (i := 2) rfl
theorem dX7_within_5 : decode cX7_within 5 = .ok (.iload_n 0, 1) := dc_of dtX7_within_0_0_ok (i := 3) rfl
theorem dX7_within_6 : decode cX7_within 6 = .ok (.iload_n 2, 1) := dc_of dtX7_within_0_0_ok (i := 4) rfl
theorem dX7_within_7 : decode cX7_within 7 = .ok (.if_icmp .gt 7, 3) := dc_of dtX7_within_0_0_ok (i := 5) rfl
theorem dX7_within_10 : decode cX7_within 10 = .ok (.iconst 1, 1) := dc_of dtX7_within_0_0_ok (i := 6) rfl
theorem dX7_within_11 : decode cX7_within 11 = .ok (.goto 4, 3) := dc_of dtX7_within_0_0_ok (i := 7) rfl
theorem dX7_within_14 : decode cX7_within 14 = .ok (.iconst 0, 1) := dc_of dtX7_within_0_0_ok (i := 8) rfl
theorem dX7_within_15 : decode cX7_within 15 = .ok (.ireturn, 1) := dc_of dtX7_within_0_0_ok (i := 9) rfl
set_option maxRecDepth 20000 in
set_option maxRecDepth 20000 in
def dtX7_isRelation_0_0 : List (Nat × Instr × Nat) := [(0, .iload_n 1, 1), (1, .iconst 0, 1), (2, .aload_n 0, 1), (3, .getfield 64, 3), (6, .iconst 1, 1), (7, .isub, 1), (8, .invokestatic 67, 3), (11, .ireturn, 1)]
theorem dtX7_isRelation_0_0_ok : dcAll cX7_isRelation dtX7_isRelation_0_0 = true := by decide +kernel
theorem dX7_isRelation_0 : decode cX7_isRelation 0 = .ok (.iload_n 1, 1) := dc_of dtX7_isRelation_0_0_ok (i := 0) rfl
theorem dX7_isRelation_1 : decode cX7_isRelation 1 = .ok (.iconst 0, 1) := dc_of dtX7_isRelation_0_0_ok (i := 1) rfl
theorem dX7_isRelation_2 : decode cX7_isRelation 2 = .ok (.aload_n 0, 1) := dc_of dtX7_isRelation_0_0_ok (i := 2) rfl
theorem dX7_isRelation_3 : decode cX7_isRelation 3 = .ok (.getfield 64, 3) := dc_of dtX7_isRelation_0_0_ok (i := 3) rfl
theorem dX7_isRelation_6 : decode cX7_isRelation 6 = .ok (.iconst 1, 1) := dc_of dtX7_isRelation_0_0_ok (i := 4) rfl
theorem dX7_isRelation_7 : decode cX7_isRelation 7 = .ok (.isub, 1) := dc_of dtX7_isRelation_0_0_ok (i := 5) rfl
theorem dX7_isRelation_8 : decode cX7_isRelation 8 = .ok (.invokestatic 67, 3) := dc_of dtX7_isRelation_0_0_ok (i := 6) rfl
theorem dX7_isRelation_11 : decode cX7_isRelation 11 = .ok (.ireturn, 1) := dc_of dtX7_isRelation_0_0_ok (i := 7) rfl
def dtX7_kindOf_0_0 : List (Nat × Instr × Nat) := [(0, .aload_n 0, 1), (1, .getfield 7, 3), (4, .bipush 40, 2), (6, .iload_n 1, 1), (7, .imul, 1), (8, .iaload, 1), (9, .ireturn, 1)]
theorem dtX7_kindOf_0_0_ok : dcAll cX7_kindOf dtX7_kindOf_0_0 = true := by decide +kernel
theorem dX7_kindOf_0 : decode cX7_kindOf 0 = .ok (.aload_n 0, 1) := dc_of dtX7_kindOf_0_0_ok (i := 0) rfl
theorem dX7_kindOf_1 : decode cX7_kindOf 1 = .ok (.getfield 7, 3) := dc_of dtX7_kindOf_0_0_ok (i := 1) rfl
theorem dX7_kindOf_4 : decode cX7_kindOf 4 = .ok (.bipush 40, 2) := dc_of dtX7_kindOf_0_0_ok (i := 2) rfl
theorem dX7_kindOf_6 : decode cX7_kindOf 6 = .ok (.iload_n 1, 1) := dc_of dtX7_kindOf_0_0_ok (i := 3) rfl
theorem dX7_kindOf_7 : decode cX7_kindOf 7 = .ok (.imul, 1) := dc_of dtX7_kindOf_0_0_ok (i := 4) rfl
theorem dX7_kindOf_8 : decode cX7_kindOf 8 = .ok (.iaload, 1) := dc_of dtX7_kindOf_0_0_ok (i := 5) rfl
theorem dX7_kindOf_9 : decode cX7_kindOf 9 = .ok (.ireturn, 1) := dc_of dtX7_kindOf_0_0_ok (i := 6) rfl
def dtX7_columnsOf_0_0 : List (Nat × Instr × Nat) := [(0, .aload_n 0, 1), (1, .getfield 7, 3), (4, .bipush 40, 2), (6, .iload_n 1, 1), (7, .imul, 1), (8, .iconst 1, 1), (9, .iadd, 1), (10, .iaload, 1), (11, .ireturn, 1)]
theorem dtX7_columnsOf_0_0_ok : dcAll cX7_columnsOf dtX7_columnsOf_0_0 = true := by decide +kernel
theorem dX7_columnsOf_0 : decode cX7_columnsOf 0 = .ok (.aload_n 0, 1) := dc_of dtX7_columnsOf_0_0_ok (i := 0) rfl
theorem dX7_columnsOf_1 : decode cX7_columnsOf 1 = .ok (.getfield 7, 3) := dc_of dtX7_columnsOf_0_0_ok (i := 1) rfl
theorem dX7_columnsOf_4 : decode cX7_columnsOf 4 = .ok (.bipush 40, 2) := dc_of dtX7_columnsOf_0_0_ok (i := 2) rfl
theorem dX7_columnsOf_6 : decode cX7_columnsOf 6 = .ok (.iload_n 1, 1) := dc_of dtX7_columnsOf_0_0_ok (i := 3) rfl
theorem dX7_columnsOf_7 : decode cX7_columnsOf 7 = .ok (.imul, 1) := dc_of dtX7_columnsOf_0_0_ok (i := 4) rfl
theorem dX7_columnsOf_8 : decode cX7_columnsOf 8 = .ok (.iconst 1, 1) := dc_of dtX7_columnsOf_0_0_ok (i := 5) rfl
theorem dX7_columnsOf_9 : decode cX7_columnsOf 9 = .ok (.iadd, 1) := dc_of dtX7_columnsOf_0_0_ok (i := 6) rfl
theorem dX7_columnsOf_10 : decode cX7_columnsOf 10 = .ok (.iaload, 1) := dc_of dtX7_columnsOf_0_0_ok (i := 7) rfl
theorem dX7_columnsOf_11 : decode cX7_columnsOf 11 = .ok (.ireturn, 1) := dc_of dtX7_columnsOf_0_0_ok (i := 8) rfl
def dtX7_firstOf_0_0 : List (Nat × Instr × Nat) := [(0, .aload_n 0, 1), (1, .getfield 7, 3), (4, .bipush 40, 2), (6, .iload_n 1, 1), (7, .imul, 1), (8, .iconst 2, 1), (9, .iadd, 1), (10, .iaload, 1), (11, .ireturn, 1)]
theorem dtX7_firstOf_0_0_ok : dcAll cX7_firstOf dtX7_firstOf_0_0 = true := by decide +kernel
theorem dX7_firstOf_0 : decode cX7_firstOf 0 = .ok (.aload_n 0, 1) := dc_of dtX7_firstOf_0_0_ok (i := 0) rfl
theorem dX7_firstOf_1 : decode cX7_firstOf 1 = .ok (.getfield 7, 3) := dc_of dtX7_firstOf_0_0_ok (i := 1) rfl
theorem dX7_firstOf_4 : decode cX7_firstOf 4 = .ok (.bipush 40, 2) := dc_of dtX7_firstOf_0_0_ok (i := 2) rfl
theorem dX7_firstOf_6 : decode cX7_firstOf 6 = .ok (.iload_n 1, 1) := dc_of dtX7_firstOf_0_0_ok (i := 3) rfl
theorem dX7_firstOf_7 : decode cX7_firstOf 7 = .ok (.imul, 1) := dc_of dtX7_firstOf_0_0_ok (i := 4) rfl
theorem dX7_firstOf_8 : decode cX7_firstOf 8 = .ok (.iconst 2, 1) := dc_of dtX7_firstOf_0_0_ok (i := 5) rfl
theorem dX7_firstOf_9 : decode cX7_firstOf 9 = .ok (.iadd, 1) := dc_of dtX7_firstOf_0_0_ok (i := 6) rfl
theorem dX7_firstOf_10 : decode cX7_firstOf 10 = .ok (.iaload, 1) := dc_of dtX7_firstOf_0_0_ok (i := 7) rfl
theorem dX7_firstOf_11 : decode cX7_firstOf 11 = .ok (.ireturn, 1) := dc_of dtX7_firstOf_0_0_ok (i := 8) rfl
def dtX7_secondOf_0_0 : List (Nat × Instr × Nat) := [(0, .aload_n 0, 1), (1, .getfield 7, 3), (4, .bipush 40, 2), (6, .iload_n 1, 1), (7, .imul, 1), (8, .iconst 3, 1), (9, .iadd, 1), (10, .iaload, 1), (11, .ireturn, 1)]
theorem dtX7_secondOf_0_0_ok : dcAll cX7_secondOf dtX7_secondOf_0_0 = true := by decide +kernel
theorem dX7_secondOf_0 : decode cX7_secondOf 0 = .ok (.aload_n 0, 1) := dc_of dtX7_secondOf_0_0_ok (i := 0) rfl
theorem dX7_secondOf_1 : decode cX7_secondOf 1 = .ok (.getfield 7, 3) := dc_of dtX7_secondOf_0_0_ok (i := 1) rfl
theorem dX7_secondOf_4 : decode cX7_secondOf 4 = .ok (.bipush 40, 2) := dc_of dtX7_secondOf_0_0_ok (i := 2) rfl
theorem dX7_secondOf_6 : decode cX7_secondOf 6 = .ok (.iload_n 1, 1) := dc_of dtX7_secondOf_0_0_ok (i := 3) rfl
theorem dX7_secondOf_7 : decode cX7_secondOf 7 = .ok (.imul, 1) := dc_of dtX7_secondOf_0_0_ok (i := 4) rfl
theorem dX7_secondOf_8 : decode cX7_secondOf 8 = .ok (.iconst 3, 1) := dc_of dtX7_secondOf_0_0_ok (i := 5) rfl
theorem dX7_secondOf_9 : decode cX7_secondOf 9 = .ok (.iadd, 1) := dc_of dtX7_secondOf_0_0_ok (i := 6) rfl
theorem dX7_secondOf_10 : decode cX7_secondOf 10 = .ok (.iaload, 1) := dc_of dtX7_secondOf_0_0_ok (i := 7) rfl
theorem dX7_secondOf_11 : decode cX7_secondOf 11 = .ok (.ireturn, 1) := dc_of dtX7_secondOf_0_0_ok (i := 8) rfl
def dtX7_partsOf_0_0 : List (Nat × Instr × Nat) := [(0, .aload_n 0, 1), (1, .getfield 7, 3), (4, .bipush 40, 2), (6, .iload_n 1, 1), (7, .imul, 1), (8, .iconst 4, 1), (9, .iadd, 1), (10, .iaload, 1), (11, .ireturn, 1)]
theorem dtX7_partsOf_0_0_ok : dcAll cX7_partsOf dtX7_partsOf_0_0 = true := by decide +kernel
theorem dX7_partsOf_0 : decode cX7_partsOf 0 = .ok (.aload_n 0, 1) := dc_of dtX7_partsOf_0_0_ok (i := 0) rfl
theorem dX7_partsOf_1 : decode cX7_partsOf 1 = .ok (.getfield 7, 3) := dc_of dtX7_partsOf_0_0_ok (i := 1) rfl
theorem dX7_partsOf_4 : decode cX7_partsOf 4 = .ok (.bipush 40, 2) := dc_of dtX7_partsOf_0_0_ok (i := 2) rfl
theorem dX7_partsOf_6 : decode cX7_partsOf 6 = .ok (.iload_n 1, 1) := dc_of dtX7_partsOf_0_0_ok (i := 3) rfl
theorem dX7_partsOf_7 : decode cX7_partsOf 7 = .ok (.imul, 1) := dc_of dtX7_partsOf_0_0_ok (i := 4) rfl
theorem dX7_partsOf_8 : decode cX7_partsOf 8 = .ok (.iconst 4, 1) := dc_of dtX7_partsOf_0_0_ok (i := 5) rfl
theorem dX7_partsOf_9 : decode cX7_partsOf 9 = .ok (.iadd, 1) := dc_of dtX7_partsOf_0_0_ok (i := 6) rfl
theorem dX7_partsOf_10 : decode cX7_partsOf 10 = .ok (.iaload, 1) := dc_of dtX7_partsOf_0_0_ok (i := 7) rfl
theorem dX7_partsOf_11 : decode cX7_partsOf 11 = .ok (.ireturn, 1) := dc_of dtX7_partsOf_0_0_ok (i := 8) rfl
def dtX7_part_0_0 : List (Nat × Instr × Nat) := [(0, .aload_n 0, 1), (1, .getfield 7, 3), (4, .bipush 40, 2), (6, .iload_n 1, 1), (7, .imul, 1), (8, .bipush 6, 2), (10, .iadd, 1), (11, .iconst 4, 1), (12, .iload_n 2, 1), (13, .imul, 1), (14, .iadd, 1), (15, .iload_n 3, 1), (16, .iadd, 1), (17, .iaload, 1), (18, .ireturn, 1)]
theorem dtX7_part_0_0_ok : dcAll cX7_part dtX7_part_0_0 = true := by decide +kernel
theorem dX7_part_0 : decode cX7_part 0 = .ok (.aload_n 0, 1) := dc_of dtX7_part_0_0_ok (i := 0) rfl
theorem dX7_part_1 : decode cX7_part 1 = .ok (.getfield 7, 3) := dc_of dtX7_part_0_0_ok (i := 1) rfl
theorem dX7_part_4 : decode cX7_part 4 = .ok (.bipush 40, 2) := dc_of dtX7_part_0_0_ok (i := 2) rfl
theorem dX7_part_6 : decode cX7_part 6 = .ok (.iload_n 1, 1) := dc_of dtX7_part_0_0_ok (i := 3) rfl
theorem dX7_part_7 : decode cX7_part 7 = .ok (.imul, 1) := dc_of dtX7_part_0_0_ok (i := 4) rfl
theorem dX7_part_8 : decode cX7_part 8 = .ok (.bipush 6, 2) := dc_of dtX7_part_0_0_ok (i := 5) rfl
theorem dX7_part_10 : decode cX7_part 10 = .ok (.iadd, 1) := dc_of dtX7_part_0_0_ok (i := 6) rfl
theorem dX7_part_11 : decode cX7_part 11 = .ok (.iconst 4, 1) := dc_of dtX7_part_0_0_ok (i := 7) rfl
theorem dX7_part_12 : decode cX7_part 12 = .ok (.iload_n 2, 1) := dc_of dtX7_part_0_0_ok (i := 8) rfl
theorem dX7_part_13 : decode cX7_part 13 = .ok (.imul, 1) := dc_of dtX7_part_0_0_ok (i := 9) rfl
theorem dX7_part_14 : decode cX7_part 14 = .ok (.iadd, 1) := dc_of dtX7_part_0_0_ok (i := 10) rfl
theorem dX7_part_15 : decode cX7_part 15 = .ok (.iload_n 3, 1) := dc_of dtX7_part_0_0_ok (i := 11) rfl
theorem dX7_part_16 : decode cX7_part 16 = .ok (.iadd, 1) := dc_of dtX7_part_0_0_ok (i := 12) rfl
theorem dX7_part_17 : decode cX7_part 17 = .ok (.iaload, 1) := dc_of dtX7_part_0_0_ok (i := 13) rfl
theorem dX7_part_18 : decode cX7_part 18 = .ok (.ireturn, 1) := dc_of dtX7_part_0_0_ok (i := 14) rfl
def dtX7_spot_0_0 : List (Nat × Instr × Nat) := [(0, .sipush 11520, 3), (3, .iload_n 0, 1), (4, .imul, 1), (5, .sipush 720, 3), (8, .iload_n 1, 1), (9, .imul, 1), (10, .iadd, 1), (11, .bipush 6, 2), (13, .iload_n 2, 1), (14, .imul, 1), (15, .iadd, 1), (16, .ireturn, 1)]
theorem dtX7_spot_0_0_ok : dcAll cX7_spot dtX7_spot_0_0 = true := by decide +kernel
theorem dX7_spot_0 : decode cX7_spot 0 = .ok (.sipush 11520, 3) := dc_of dtX7_spot_0_0_ok (i := 0) rfl
theorem dX7_spot_3 : decode cX7_spot 3 = .ok (.iload_n 0, 1) := dc_of dtX7_spot_0_0_ok (i := 1) rfl
theorem dX7_spot_4 : decode cX7_spot 4 = .ok (.imul, 1) := dc_of dtX7_spot_0_0_ok (i := 2) rfl
theorem dX7_spot_5 : decode cX7_spot 5 = .ok (.sipush 720, 3) := dc_of dtX7_spot_0_0_ok (i := 3) rfl
theorem dX7_spot_8 : decode cX7_spot 8 = .ok (.iload_n 1, 1) := dc_of dtX7_spot_0_0_ok (i := 4) rfl
theorem dX7_spot_9 : decode cX7_spot 9 = .ok (.imul, 1) := dc_of dtX7_spot_0_0_ok (i := 5) rfl
theorem dX7_spot_10 : decode cX7_spot 10 = .ok (.iadd, 1) := dc_of dtX7_spot_0_0_ok (i := 6) rfl
theorem dX7_spot_11 : decode cX7_spot 11 = .ok (.bipush 6, 2) := dc_of dtX7_spot_0_0_ok (i := 7) rfl
theorem dX7_spot_13 : decode cX7_spot 13 = .ok (.iload_n 2, 1) := dc_of dtX7_spot_0_0_ok (i := 8) rfl
theorem dX7_spot_14 : decode cX7_spot 14 = .ok (.imul, 1) := dc_of dtX7_spot_0_0_ok (i := 9) rfl
theorem dX7_spot_15 : decode cX7_spot 15 = .ok (.iadd, 1) := dc_of dtX7_spot_0_0_ok (i := 10) rfl
theorem dX7_spot_16 : decode cX7_spot 16 = .ok (.ireturn, 1) := dc_of dtX7_spot_0_0_ok (i := 11) rfl
def dtX7_sizeOf_0_0 : List (Nat × Instr × Nat) := [(0, .aload_n 0, 1), (1, .getfield 27, 3), (4, .bipush 16, 2), (6, .iload_n 1, 1), (7, .imul, 1), (8, .iload_n 2, 1), (9, .iadd, 1), (10, .iaload, 1), (11, .ireturn, 1)]
theorem dtX7_sizeOf_0_0_ok : dcAll cX7_sizeOf dtX7_sizeOf_0_0 = true := by decide +kernel
theorem dX7_sizeOf_0 : decode cX7_sizeOf 0 = .ok (.aload_n 0, 1) := dc_of dtX7_sizeOf_0_0_ok (i := 0) rfl
theorem dX7_sizeOf_1 : decode cX7_sizeOf 1 = .ok (.getfield 27, 3) := dc_of dtX7_sizeOf_0_0_ok (i := 1) rfl
theorem dX7_sizeOf_4 : decode cX7_sizeOf 4 = .ok (.bipush 16, 2) := dc_of dtX7_sizeOf_0_0_ok (i := 2) rfl
theorem dX7_sizeOf_6 : decode cX7_sizeOf 6 = .ok (.iload_n 1, 1) := dc_of dtX7_sizeOf_0_0_ok (i := 3) rfl
theorem dX7_sizeOf_7 : decode cX7_sizeOf 7 = .ok (.imul, 1) := dc_of dtX7_sizeOf_0_0_ok (i := 4) rfl
theorem dX7_sizeOf_8 : decode cX7_sizeOf 8 = .ok (.iload_n 2, 1) := dc_of dtX7_sizeOf_0_0_ok (i := 5) rfl
theorem dX7_sizeOf_9 : decode cX7_sizeOf 9 = .ok (.iadd, 1) := dc_of dtX7_sizeOf_0_0_ok (i := 6) rfl
theorem dX7_sizeOf_10 : decode cX7_sizeOf 10 = .ok (.iaload, 1) := dc_of dtX7_sizeOf_0_0_ok (i := 7) rfl
theorem dX7_sizeOf_11 : decode cX7_sizeOf 11 = .ok (.ireturn, 1) := dc_of dtX7_sizeOf_0_0_ok (i := 8) rfl
def dtX7_eight_0_0 : List (Nat × Instr × Nat) := [(0, .bipush 56, 2), (2, .istore_n 3, 1), (3, .iload_n 3, 1), (4, .ifCond .lt 36, 3), (7, .aload_n 0, 1), (8, .getfield 39, 3), (11, .aload_n 0, 1), (12, .getfield 71, 3), (15, .lload_n 1, 1), (16, .iload_n 3, 1), (17, .lshr, 1), (18, .l2i, 1), (19, .sipush 255, 3), (22, .iand, 1), (23, .iastore, 1), (24, .aload_n 0, 1), (25, .dup, 1), (26, .getfield 71, 3), (29, .iconst 1, 1), (30, .iadd, 1), (31, .putfield 71, 3), (34, .iinc 3 (-8), 3), (37, .goto (-34), 3), (40, .return_, 1)]
theorem dtX7_eight_0_0_ok : dcAll cX7_eight dtX7_eight_0_0 = true := by decide +kernel
theorem dX7_eight_0 : decode cX7_eight 0 = .ok (.bipush 56, 2) := dc_of dtX7_eight_0_0_ok (i := 0) rfl
theorem dX7_eight_2 : decode cX7_eight 2 = .ok (.istore_n 3, 1) := dc_of dtX7_eight_0_0_ok (i := 1) rfl
theorem dX7_eight_3 : decode cX7_eight 3 = .ok (.iload_n 3, 1) := dc_of dtX7_eight_0_0_ok (i := 2) rfl
theorem dX7_eight_4 : decode cX7_eight 4 = .ok (.ifCond .lt 36, 3) := dc_of dtX7_eight_0_0_ok (i := 3) rfl
theorem dX7_eight_7 : decode cX7_eight 7 = .ok (.aload_n 0, 1) := dc_of dtX7_eight_0_0_ok (i := 4) rfl
theorem dX7_eight_8 : decode cX7_eight 8 = .ok (.getfield 39, 3) := dc_of dtX7_eight_0_0_ok (i := 5) rfl
theorem dX7_eight_11 : decode cX7_eight 11 = .ok (.aload_n 0, 1) := dc_of dtX7_eight_0_0_ok (i := 6) rfl
theorem dX7_eight_12 : decode cX7_eight 12 = .ok (.getfield 71, 3) := dc_of dtX7_eight_0_0_ok (i := 7) rfl
theorem dX7_eight_15 : decode cX7_eight 15 = .ok (.lload_n 1, 1) := dc_of dtX7_eight_0_0_ok (i := 8) rfl
theorem dX7_eight_16 : decode cX7_eight 16 = .ok (.iload_n 3, 1) := dc_of dtX7_eight_0_0_ok (i := 9) rfl
theorem dX7_eight_17 : decode cX7_eight 17 = .ok (.lshr, 1) := dc_of dtX7_eight_0_0_ok (i := 10) rfl
theorem dX7_eight_18 : decode cX7_eight 18 = .ok (.l2i, 1) := dc_of dtX7_eight_0_0_ok (i := 11) rfl
theorem dX7_eight_19 : decode cX7_eight 19 = .ok (.sipush 255, 3) := dc_of dtX7_eight_0_0_ok (i := 12) rfl
theorem dX7_eight_22 : decode cX7_eight 22 = .ok (.iand, 1) := dc_of dtX7_eight_0_0_ok (i := 13) rfl
theorem dX7_eight_23 : decode cX7_eight 23 = .ok (.iastore, 1) := dc_of dtX7_eight_0_0_ok (i := 14) rfl
theorem dX7_eight_24 : decode cX7_eight 24 = .ok (.aload_n 0, 1) := dc_of dtX7_eight_0_0_ok (i := 15) rfl
theorem dX7_eight_25 : decode cX7_eight 25 = .ok (.dup, 1) := dc_of dtX7_eight_0_0_ok (i := 16) rfl
theorem dX7_eight_26 : decode cX7_eight 26 = .ok (.getfield 71, 3) := dc_of dtX7_eight_0_0_ok (i := 17) rfl
theorem dX7_eight_29 : decode cX7_eight 29 = .ok (.iconst 1, 1) := dc_of dtX7_eight_0_0_ok (i := 18) rfl
theorem dX7_eight_30 : decode cX7_eight 30 = .ok (.iadd, 1) := dc_of dtX7_eight_0_0_ok (i := 19) rfl
theorem dX7_eight_31 : decode cX7_eight 31 = .ok (.putfield 71, 3) := dc_of dtX7_eight_0_0_ok (i := 20) rfl
theorem dX7_eight_34 : decode cX7_eight 34 = .ok (.iinc 3 (-8), 3) := dc_of dtX7_eight_0_0_ok (i := 21) rfl
theorem dX7_eight_37 : decode cX7_eight 37 = .ok (.goto (-34), 3) := dc_of dtX7_eight_0_0_ok (i := 22) rfl
theorem dX7_eight_40 : decode cX7_eight 40 = .ok (.return_, 1) := dc_of dtX7_eight_0_0_ok (i := 23) rfl
set_option maxRecDepth 20000 in
set_option maxRecDepth 20000 in
def dtX7_feed_0_0 : List (Nat × Instr × Nat) := [(0, .aload_n 0, 1), (1, .iconst 0, 1), (2, .putfield 60, 3), (5, .aload_n 0, 1), (6, .getfield 71, 3), (9, .bipush 24, 2), (11, .iadd, 1), (12, .sipush 936, 3), (15, .if_icmp .le 5, 3), (18, .iconst (-1), 1), (19, .ireturn, 1), (20, .aload_n 0, 1), (21, .lload_n 1, 1), (22, .invokevirtual 74, 3), (25, .aload_n 0, 1), (26, .lload_n 3, 1), (27, .invokevirtual 74, 3), (30, .aload_n 0, 1), (31, .lload 5, 2), (33, .invokevirtual 74, 3), (36, .aload_n 0, 1), (37, .getfield 71, 3), (40, .ireturn, 1)]
theorem dtX7_feed_0_0_ok : dcAll cX7_feed dtX7_feed_0_0 = true := by decide +kernel
theorem dX7_feed_0 : decode cX7_feed 0 = .ok (.aload_n 0, 1) := dc_of dtX7_feed_0_0_ok (i := 0) rfl
theorem dX7_feed_1 : decode cX7_feed 1 = .ok (.iconst 0, 1) := dc_of dtX7_feed_0_0_ok (i := 1) rfl
theorem dX7_feed_2 : decode cX7_feed 2 = .ok (.putfield 60, 3) := dc_of dtX7_feed_0_0_ok (i := 2) rfl
theorem dX7_feed_5 : decode cX7_feed 5 = .ok (.aload_n 0, 1) := dc_of dtX7_feed_0_0_ok (i := 3) rfl
theorem dX7_feed_6 : decode cX7_feed 6 = .ok (.getfield 71, 3) := dc_of dtX7_feed_0_0_ok (i := 4) rfl
theorem dX7_feed_9 : decode cX7_feed 9 = .ok (.bipush 24, 2) := dc_of dtX7_feed_0_0_ok (i := 5) rfl
theorem dX7_feed_11 : decode cX7_feed 11 = .ok (.iadd, 1) := dc_of dtX7_feed_0_0_ok (i := 6) rfl
theorem dX7_feed_12 : decode cX7_feed 12 = .ok (.sipush 936, 3) := dc_of dtX7_feed_0_0_ok (i := 7) rfl
theorem dX7_feed_15 : decode cX7_feed 15 = .ok (.if_icmp .le 5, 3) := dc_of dtX7_feed_0_0_ok (i := 8) rfl
theorem dX7_feed_18 : decode cX7_feed 18 = .ok (.iconst (-1), 1) := dc_of dtX7_feed_0_0_ok (i := 9) rfl
theorem dX7_feed_19 : decode cX7_feed 19 = .ok (.ireturn, 1) := dc_of dtX7_feed_0_0_ok (i := 10) rfl
theorem dX7_feed_20 : decode cX7_feed 20 = .ok (.aload_n 0, 1) := dc_of dtX7_feed_0_0_ok (i := 11) rfl
theorem dX7_feed_21 : decode cX7_feed 21 = .ok (.lload_n 1, 1) := dc_of dtX7_feed_0_0_ok (i := 12) rfl
theorem dX7_feed_22 : decode cX7_feed 22 = .ok (.invokevirtual 74, 3) := dc_of dtX7_feed_0_0_ok (i := 13) rfl
theorem dX7_feed_25 : decode cX7_feed 25 = .ok (.aload_n 0, 1) := dc_of dtX7_feed_0_0_ok (i := 14) rfl
theorem dX7_feed_26 : decode cX7_feed 26 = .ok (.lload_n 3, 1) := dc_of dtX7_feed_0_0_ok (i := 15) rfl
theorem dX7_feed_27 : decode cX7_feed 27 = .ok (.invokevirtual 74, 3) := dc_of dtX7_feed_0_0_ok (i := 16) rfl
theorem dX7_feed_30 : decode cX7_feed 30 = .ok (.aload_n 0, 1) := dc_of dtX7_feed_0_0_ok (i := 17) rfl
theorem dX7_feed_31 : decode cX7_feed 31 = .ok (.lload 5, 2) := dc_of dtX7_feed_0_0_ok (i := 18) rfl
theorem dX7_feed_33 : decode cX7_feed 33 = .ok (.invokevirtual 74, 3) := dc_of dtX7_feed_0_0_ok (i := 19) rfl
theorem dX7_feed_36 : decode cX7_feed 36 = .ok (.aload_n 0, 1) := dc_of dtX7_feed_0_0_ok (i := 20) rfl
theorem dX7_feed_37 : decode cX7_feed 37 = .ok (.getfield 71, 3) := dc_of dtX7_feed_0_0_ok (i := 21) rfl
theorem dX7_feed_40 : decode cX7_feed 40 = .ok (.ireturn, 1) := dc_of dtX7_feed_0_0_ok (i := 22) rfl
set_option maxRecDepth 20000 in
set_option maxRecDepth 20000 in
def dtX7_end_0_0 : List (Nat × Instr × Nat) := [(0, .aload_n 0, 1), (1, .iconst 0, 1), (2, .putfield 60, 3), (5, .iload_n 1, 1), (6, .iconst 0, 1), (7, .aload_n 0, 1), (8, .getfield 71, 3), (11, .invokestatic 67, 3), (14, .ifCond .ne 5, 3), (17, .iconst (-1), 1), (18, .ireturn, 1), (19, .aload_n 0, 1), (20, .iload_n 1, 1), (21, .putfield 71, 3), (24, .iload_n 1, 1), (25, .ireturn, 1)]
theorem dtX7_end_0_0_ok : dcAll cX7_end dtX7_end_0_0 = true := by decide +kernel
theorem dX7_end_0 : decode cX7_end 0 = .ok (.aload_n 0, 1) := dc_of dtX7_end_0_0_ok (i := 0) rfl
theorem dX7_end_1 : decode cX7_end 1 = .ok (.iconst 0, 1) := dc_of dtX7_end_0_0_ok (i := 1) rfl
theorem dX7_end_2 : decode cX7_end 2 = .ok (.putfield 60, 3) := dc_of dtX7_end_0_0_ok (i := 2) rfl
theorem dX7_end_5 : decode cX7_end 5 = .ok (.iload_n 1, 1) := dc_of dtX7_end_0_0_ok (i := 3) rfl
theorem dX7_end_6 : decode cX7_end 6 = .ok (.iconst 0, 1) := dc_of dtX7_end_0_0_ok (i := 4) rfl
theorem dX7_end_7 : decode cX7_end 7 = .ok (.aload_n 0, 1) := dc_of dtX7_end_0_0_ok (i := 5) rfl
theorem dX7_end_8 : decode cX7_end 8 = .ok (.getfield 71, 3) := dc_of dtX7_end_0_0_ok (i := 6) rfl
theorem dX7_end_11 : decode cX7_end 11 = .ok (.invokestatic 67, 3) := dc_of dtX7_end_0_0_ok (i := 7) rfl
theorem dX7_end_14 : decode cX7_end 14 = .ok (.ifCond .ne 5, 3) := dc_of dtX7_end_0_0_ok (i := 8) rfl
theorem dX7_end_17 : decode cX7_end 17 = .ok (.iconst (-1), 1) := dc_of dtX7_end_0_0_ok (i := 9) rfl
theorem dX7_end_18 : decode cX7_end 18 = .ok (.ireturn, 1) := dc_of dtX7_end_0_0_ok (i := 10) rfl
theorem dX7_end_19 : decode cX7_end 19 = .ok (.aload_n 0, 1) := dc_of dtX7_end_0_0_ok (i := 11) rfl
theorem dX7_end_20 : decode cX7_end 20 = .ok (.iload_n 1, 1) := dc_of dtX7_end_0_0_ok (i := 12) rfl
theorem dX7_end_21 : decode cX7_end 21 = .ok (.putfield 71, 3) := dc_of dtX7_end_0_0_ok (i := 13) rfl
theorem dX7_end_24 : decode cX7_end 24 = .ok (.iload_n 1, 1) := dc_of dtX7_end_0_0_ok (i := 14) rfl
theorem dX7_end_25 : decode cX7_end 25 = .ok (.ireturn, 1) := dc_of dtX7_end_0_0_ok (i := 15) rfl
def dtX7_byteAt_0_0 : List (Nat × Instr × Nat) := [(0, .iload_n 1, 1), (1, .aload_n 0, 1), (2, .getfield 78, 3), (5, .if_icmp .ge 12, 3), (8, .aload_n 0, 1), (9, .getfield 39, 3), (12, .iload_n 1, 1), (13, .iaload, 1), (14, .goto 4, 3), (17, .iconst (-1), 1), (18, .ireturn, 1)]
theorem dtX7_byteAt_0_0_ok : dcAll cX7_byteAt dtX7_byteAt_0_0 = true := by decide +kernel
theorem dX7_byteAt_0 : decode cX7_byteAt 0 = .ok (.iload_n 1, 1) := dc_of dtX7_byteAt_0_0_ok (i := 0) rfl
theorem dX7_byteAt_1 : decode cX7_byteAt 1 = .ok (.aload_n 0, 1) := dc_of dtX7_byteAt_0_0_ok (i := 1) rfl
theorem dX7_byteAt_2 : decode cX7_byteAt 2 = .ok (.getfield 78, 3) := dc_of dtX7_byteAt_0_0_ok (i := 2) rfl
theorem dX7_byteAt_5 : decode cX7_byteAt 5 = .ok (.if_icmp .ge 12, 3) := dc_of dtX7_byteAt_0_0_ok (i := 3) rfl
theorem dX7_byteAt_8 : decode cX7_byteAt 8 = .ok (.aload_n 0, 1) := dc_of dtX7_byteAt_0_0_ok (i := 4) rfl
theorem dX7_byteAt_9 : decode cX7_byteAt 9 = .ok (.getfield 39, 3) := dc_of dtX7_byteAt_0_0_ok (i := 5) rfl
theorem dX7_byteAt_12 : decode cX7_byteAt 12 = .ok (.iload_n 1, 1) := dc_of dtX7_byteAt_0_0_ok (i := 6) rfl
theorem dX7_byteAt_13 : decode cX7_byteAt 13 = .ok (.iaload, 1) := dc_of dtX7_byteAt_0_0_ok (i := 7) rfl
theorem dX7_byteAt_14 : decode cX7_byteAt 14 = .ok (.goto 4, 3) := dc_of dtX7_byteAt_0_0_ok (i := 8) rfl
theorem dX7_byteAt_17 : decode cX7_byteAt 17 = .ok (.iconst (-1), 1) := dc_of dtX7_byteAt_0_0_ok (i := 9) rfl
theorem dX7_byteAt_18 : decode cX7_byteAt 18 = .ok (.ireturn, 1) := dc_of dtX7_byteAt_0_0_ok (i := 10) rfl
def dtX7_isSmall_0_0 : List (Nat × Instr × Nat) := [(0, .iload_n 0, 1), (1, .bipush 97, 2), (3, .if_icmp .lt 13, 3), (6, .iload_n 0, 1), (7, .bipush 122, 2), (9, .if_icmp .gt 7, 3), (12, .iconst 1, 1), (13, .goto 4, 3), (16, .iconst 0, 1), (17, .ireturn, 1)]
theorem dtX7_isSmall_0_0_ok : dcAll cX7_isSmall dtX7_isSmall_0_0 = true := by decide +kernel
theorem dX7_isSmall_0 : decode cX7_isSmall 0 = .ok (.iload_n 0, 1) := dc_of dtX7_isSmall_0_0_ok (i := 0) rfl
theorem dX7_isSmall_1 : decode cX7_isSmall 1 = .ok (.bipush 97, 2) := dc_of dtX7_isSmall_0_0_ok (i := 1) rfl
theorem dX7_isSmall_3 : decode cX7_isSmall 3 = .ok (.if_icmp .lt 13, 3) := dc_of dtX7_isSmall_0_0_ok (i := 2) rfl
theorem dX7_isSmall_6 : decode cX7_isSmall 6 = .ok (.iload_n 0, 1) := dc_of dtX7_isSmall_0_0_ok (i := 3) rfl
theorem dX7_isSmall_7 : decode cX7_isSmall 7 = .ok (.bipush 122, 2) := dc_of dtX7_isSmall_0_0_ok (i := 4) rfl
theorem dX7_isSmall_9 : decode cX7_isSmall 9 = .ok (.if_icmp .gt 7, 3) := dc_of dtX7_isSmall_0_0_ok (i := 5) rfl
theorem dX7_isSmall_12 : decode cX7_isSmall 12 = .ok (.iconst 1, 1) := dc_of dtX7_isSmall_0_0_ok (i := 6) rfl
theorem dX7_isSmall_13 : decode cX7_isSmall 13 = .ok (.goto 4, 3) := dc_of dtX7_isSmall_0_0_ok (i := 7) rfl
theorem dX7_isSmall_16 : decode cX7_isSmall 16 = .ok (.iconst 0, 1) := dc_of dtX7_isSmall_0_0_ok (i := 8) rfl
theorem dX7_isSmall_17 : decode cX7_isSmall 17 = .ok (.ireturn, 1) := dc_of dtX7_isSmall_0_0_ok (i := 9) rfl
def dtX7_isDigit_0_0 : List (Nat × Instr × Nat) := [(0, .iload_n 0, 1), (1, .bipush 48, 2), (3, .if_icmp .lt 13, 3), (6, .iload_n 0, 1), (7, .bipush 57, 2), (9, .if_icmp .gt 7, 3), (12, .iconst 1, 1), (13, .goto 4, 3), (16, .iconst 0, 1), (17, .ireturn, 1)]
theorem dtX7_isDigit_0_0_ok : dcAll cX7_isDigit dtX7_isDigit_0_0 = true := by decide +kernel
theorem dX7_isDigit_0 : decode cX7_isDigit 0 = .ok (.iload_n 0, 1) := dc_of dtX7_isDigit_0_0_ok (i := 0) rfl
theorem dX7_isDigit_1 : decode cX7_isDigit 1 = .ok (.bipush 48, 2) := dc_of dtX7_isDigit_0_0_ok (i := 1) rfl
theorem dX7_isDigit_3 : decode cX7_isDigit 3 = .ok (.if_icmp .lt 13, 3) := dc_of dtX7_isDigit_0_0_ok (i := 2) rfl
theorem dX7_isDigit_6 : decode cX7_isDigit 6 = .ok (.iload_n 0, 1) := dc_of dtX7_isDigit_0_0_ok (i := 3) rfl
theorem dX7_isDigit_7 : decode cX7_isDigit 7 = .ok (.bipush 57, 2) := dc_of dtX7_isDigit_0_0_ok (i := 4) rfl
theorem dX7_isDigit_9 : decode cX7_isDigit 9 = .ok (.if_icmp .gt 7, 3) := dc_of dtX7_isDigit_0_0_ok (i := 5) rfl
theorem dX7_isDigit_12 : decode cX7_isDigit 12 = .ok (.iconst 1, 1) := dc_of dtX7_isDigit_0_0_ok (i := 6) rfl
theorem dX7_isDigit_13 : decode cX7_isDigit 13 = .ok (.goto 4, 3) := dc_of dtX7_isDigit_0_0_ok (i := 7) rfl
theorem dX7_isDigit_16 : decode cX7_isDigit 16 = .ok (.iconst 0, 1) := dc_of dtX7_isDigit_0_0_ok (i := 8) rfl
theorem dX7_isDigit_17 : decode cX7_isDigit 17 = .ok (.ireturn, 1) := dc_of dtX7_isDigit_0_0_ok (i := 9) rfl
set_option maxRecDepth 20000 in
set_option maxRecDepth 20000 in
set_option maxRecDepth 20000 in
set_option maxRecDepth 20000 in
set_option maxRecDepth 20000 in
set_option maxRecDepth 20000 in
set_option maxRecDepth 20000 in
set_option maxRecDepth 20000 in
def dtX7_next_0_0 : List (Nat × Instr × Nat) := [(0, .aload_n 0, 1), (1, .getfield 81, 3), (4, .ifCond .le 4, 3), (7, .return_, 1), (8, .aload_n 0, 1), (9, .getfield 84, 3), (12, .istore_n 1, 1), (13, .aload_n 0, 1), (14, .iload_n 1, 1), (15, .invokevirtual 87, 3), (18, .bipush 32, 2), (20, .if_icmp .eq 13, 3), (23, .aload_n 0, 1), (24, .iload_n 1, 1), (25, .invokevirtual 87, 3), (28, .bipush 10, 2), (30, .if_icmp .ne 9, 3), (33, .iinc 1 1, 3), (36, .goto (-23), 3), (39, .aload_n 0, 1), (40, .iload_n 1, 1), (41, .putfield 91, 3), (44, .aload_n 0, 1), (45, .iload_n 1, 1), (46, .iconst 1, 1), (47, .iadd, 1), (48, .putfield 84, 3), (51, .aload_n 0, 1), (52, .iload_n 1, 1), (53, .invokevirtual 87, 3), (56, .istore_n 2, 1), (57, .aload_n 0, 1)]
theorem dtX7_next_0_0_ok : dcAll cX7_next dtX7_next_0_0 = true := by decide +kernel
theorem dX7_next_0 : decode cX7_next 0 = .ok (.aload_n 0, 1) := dc_of dtX7_next_0_0_ok (i := 0) rfl
theorem dX7_next_1 : decode cX7_next 1 = .ok (.getfield 81, 3) := dc_of dtX7_next_0_0_ok (i := 1) rfl
theorem dX7_next_4 : decode cX7_next 4 = .ok (.ifCond .le 4, 3) := dc_of dtX7_next_0_0_ok (i := 2) rfl
theorem dX7_next_7 : decode cX7_next 7 = .ok (.return_, 1) := dc_of dtX7_next_0_0_ok (i := 3) rfl
theorem dX7_next_8 : decode cX7_next 8 = .ok (.aload_n 0, 1) := dc_of dtX7_next_0_0_ok (i := 4) rfl
theorem dX7_next_9 : decode cX7_next 9 = .ok (.getfield 84, 3) := dc_of dtX7_next_0_0_ok (i := 5) rfl
theorem dX7_next_12 : decode cX7_next 12 = .ok (.istore_n 1, 1) := dc_of dtX7_next_0_0_ok (i := 6) rfl
theorem dX7_next_13 : decode cX7_next 13 = .ok (.aload_n 0, 1) := dc_of dtX7_next_0_0_ok (i := 7) rfl
theorem dX7_next_14 : decode cX7_next 14 = .ok (.iload_n 1, 1) := dc_of dtX7_next_0_0_ok (i := 8) rfl
theorem dX7_next_15 : decode cX7_next 15 = .ok (.invokevirtual 87, 3) := dc_of dtX7_next_0_0_ok (i := 9) rfl
theorem dX7_next_18 : decode cX7_next 18 = .ok (.bipush 32, 2) := dc_of dtX7_next_0_0_ok (i := 10) rfl
theorem dX7_next_20 : decode cX7_next 20 = .ok (.if_icmp .eq 13, 3) := dc_of dtX7_next_0_0_ok (i := 11) rfl
theorem dX7_next_23 : decode cX7_next 23 = .ok (.aload_n 0, 1) := dc_of dtX7_next_0_0_ok (i := 12) rfl
theorem dX7_next_24 : decode cX7_next 24 = .ok (.iload_n 1, 1) := dc_of dtX7_next_0_0_ok (i := 13) rfl
theorem dX7_next_25 : decode cX7_next 25 = .ok (.invokevirtual 87, 3) := dc_of dtX7_next_0_0_ok (i := 14) rfl
theorem dX7_next_28 : decode cX7_next 28 = .ok (.bipush 10, 2) := dc_of dtX7_next_0_0_ok (i := 15) rfl
theorem dX7_next_30 : decode cX7_next 30 = .ok (.if_icmp .ne 9, 3) := dc_of dtX7_next_0_0_ok (i := 16) rfl
theorem dX7_next_33 : decode cX7_next 33 = .ok (.iinc 1 1, 3) := dc_of dtX7_next_0_0_ok (i := 17) rfl
theorem dX7_next_36 : decode cX7_next 36 = .ok (.goto (-23), 3) := dc_of dtX7_next_0_0_ok (i := 18) rfl
theorem dX7_next_39 : decode cX7_next 39 = .ok (.aload_n 0, 1) := dc_of dtX7_next_0_0_ok (i := 19) rfl
theorem dX7_next_40 : decode cX7_next 40 = .ok (.iload_n 1, 1) := dc_of dtX7_next_0_0_ok (i := 20) rfl
theorem dX7_next_41 : decode cX7_next 41 = .ok (.putfield 91, 3) := dc_of dtX7_next_0_0_ok (i := 21) rfl
theorem dX7_next_44 : decode cX7_next 44 = .ok (.aload_n 0, 1) := dc_of dtX7_next_0_0_ok (i := 22) rfl
theorem dX7_next_45 : decode cX7_next 45 = .ok (.iload_n 1, 1) := dc_of dtX7_next_0_0_ok (i := 23) rfl
theorem dX7_next_46 : decode cX7_next 46 = .ok (.iconst 1, 1) := dc_of dtX7_next_0_0_ok (i := 24) rfl
theorem dX7_next_47 : decode cX7_next 47 = .ok (.iadd, 1) := dc_of dtX7_next_0_0_ok (i := 25) rfl
theorem dX7_next_48 : decode cX7_next 48 = .ok (.putfield 84, 3) := dc_of dtX7_next_0_0_ok (i := 26) rfl
theorem dX7_next_51 : decode cX7_next 51 = .ok (.aload_n 0, 1) := dc_of dtX7_next_0_0_ok (i := 27) rfl
theorem dX7_next_52 : decode cX7_next 52 = .ok (.iload_n 1, 1) := dc_of dtX7_next_0_0_ok (i := 28) rfl
theorem dX7_next_53 : decode cX7_next 53 = .ok (.invokevirtual 87, 3) := dc_of dtX7_next_0_0_ok (i := 29) rfl
theorem dX7_next_56 : decode cX7_next 56 = .ok (.istore_n 2, 1) := dc_of dtX7_next_0_0_ok (i := 30) rfl
theorem dX7_next_57 : decode cX7_next 57 = .ok (.aload_n 0, 1) := dc_of dtX7_next_0_0_ok (i := 31) rfl
def dtX7_next_58_1 : List (Nat × Instr × Nat) := [(58, .iconst 5, 1), (59, .putfield 94, 3), (62, .aload_n 0, 1), (63, .iload_n 2, 1), (64, .putfield 97, 3), (67, .iload_n 2, 1), (68, .iconst (-1), 1), (69, .if_icmp .ne 16, 3), (72, .aload_n 0, 1), (73, .iconst 0, 1), (74, .putfield 94, 3), (77, .aload_n 0, 1), (78, .iload_n 1, 1), (79, .putfield 84, 3), (82, .goto 72, 3), (85, .iload_n 2, 1), (86, .bipush 61, 2), (88, .if_icmp .eq 39, 3), (91, .iload_n 2, 1), (92, .bipush 60, 2), (94, .if_icmp .eq 33, 3), (97, .iload_n 2, 1), (98, .bipush 62, 2), (100, .if_icmp .eq 27, 3), (103, .iload_n 2, 1), (104, .bipush 43, 2), (106, .if_icmp .eq 21, 3), (109, .iload_n 2, 1), (110, .bipush 45, 2), (112, .if_icmp .eq 15, 3), (115, .iload_n 2, 1), (116, .bipush 44, 2)]
theorem dtX7_next_58_1_ok : dcAll cX7_next dtX7_next_58_1 = true := by decide +kernel
theorem dX7_next_58 : decode cX7_next 58 = .ok (.iconst 5, 1) := dc_of dtX7_next_58_1_ok (i := 0) rfl
theorem dX7_next_59 : decode cX7_next 59 = .ok (.putfield 94, 3) := dc_of dtX7_next_58_1_ok (i := 1) rfl
theorem dX7_next_62 : decode cX7_next 62 = .ok (.aload_n 0, 1) := dc_of dtX7_next_58_1_ok (i := 2) rfl
theorem dX7_next_63 : decode cX7_next 63 = .ok (.iload_n 2, 1) := dc_of dtX7_next_58_1_ok (i := 3) rfl
theorem dX7_next_64 : decode cX7_next 64 = .ok (.putfield 97, 3) := dc_of dtX7_next_58_1_ok (i := 4) rfl
theorem dX7_next_67 : decode cX7_next 67 = .ok (.iload_n 2, 1) := dc_of dtX7_next_58_1_ok (i := 5) rfl
theorem dX7_next_68 : decode cX7_next 68 = .ok (.iconst (-1), 1) := dc_of dtX7_next_58_1_ok (i := 6) rfl
theorem dX7_next_69 : decode cX7_next 69 = .ok (.if_icmp .ne 16, 3) := dc_of dtX7_next_58_1_ok (i := 7) rfl
theorem dX7_next_72 : decode cX7_next 72 = .ok (.aload_n 0, 1) := dc_of dtX7_next_58_1_ok (i := 8) rfl
theorem dX7_next_73 : decode cX7_next 73 = .ok (.iconst 0, 1) := dc_of dtX7_next_58_1_ok (i := 9) rfl
theorem dX7_next_74 : decode cX7_next 74 = .ok (.putfield 94, 3) := dc_of dtX7_next_58_1_ok (i := 10) rfl
theorem dX7_next_77 : decode cX7_next 77 = .ok (.aload_n 0, 1) := dc_of dtX7_next_58_1_ok (i := 11) rfl
theorem dX7_next_78 : decode cX7_next 78 = .ok (.iload_n 1, 1) := dc_of dtX7_next_58_1_ok (i := 12) rfl
theorem dX7_next_79 : decode cX7_next 79 = .ok (.putfield 84, 3) := dc_of dtX7_next_58_1_ok (i := 13) rfl
theorem dX7_next_82 : decode cX7_next 82 = .ok (.goto 72, 3) := dc_of dtX7_next_58_1_ok (i := 14) rfl
theorem dX7_next_85 : decode cX7_next 85 = .ok (.iload_n 2, 1) := dc_of dtX7_next_58_1_ok (i := 15) rfl
theorem dX7_next_86 : decode cX7_next 86 = .ok (.bipush 61, 2) := dc_of dtX7_next_58_1_ok (i := 16) rfl
theorem dX7_next_88 : decode cX7_next 88 = .ok (.if_icmp .eq 39, 3) := dc_of dtX7_next_58_1_ok (i := 17) rfl
theorem dX7_next_91 : decode cX7_next 91 = .ok (.iload_n 2, 1) := dc_of dtX7_next_58_1_ok (i := 18) rfl
theorem dX7_next_92 : decode cX7_next 92 = .ok (.bipush 60, 2) := dc_of dtX7_next_58_1_ok (i := 19) rfl
theorem dX7_next_94 : decode cX7_next 94 = .ok (.if_icmp .eq 33, 3) := dc_of dtX7_next_58_1_ok (i := 20) rfl
theorem dX7_next_97 : decode cX7_next 97 = .ok (.iload_n 2, 1) := dc_of dtX7_next_58_1_ok (i := 21) rfl
theorem dX7_next_98 : decode cX7_next 98 = .ok (.bipush 62, 2) := dc_of dtX7_next_58_1_ok (i := 22) rfl
theorem dX7_next_100 : decode cX7_next 100 = .ok (.if_icmp .eq 27, 3) := dc_of dtX7_next_58_1_ok (i := 23) rfl
theorem dX7_next_103 : decode cX7_next 103 = .ok (.iload_n 2, 1) := dc_of dtX7_next_58_1_ok (i := 24) rfl
theorem dX7_next_104 : decode cX7_next 104 = .ok (.bipush 43, 2) := dc_of dtX7_next_58_1_ok (i := 25) rfl
theorem dX7_next_106 : decode cX7_next 106 = .ok (.if_icmp .eq 21, 3) := dc_of dtX7_next_58_1_ok (i := 26) rfl
theorem dX7_next_109 : decode cX7_next 109 = .ok (.iload_n 2, 1) := dc_of dtX7_next_58_1_ok (i := 27) rfl
theorem dX7_next_110 : decode cX7_next 110 = .ok (.bipush 45, 2) := dc_of dtX7_next_58_1_ok (i := 28) rfl
theorem dX7_next_112 : decode cX7_next 112 = .ok (.if_icmp .eq 15, 3) := dc_of dtX7_next_58_1_ok (i := 29) rfl
theorem dX7_next_115 : decode cX7_next 115 = .ok (.iload_n 2, 1) := dc_of dtX7_next_58_1_ok (i := 30) rfl
theorem dX7_next_116 : decode cX7_next 116 = .ok (.bipush 44, 2) := dc_of dtX7_next_58_1_ok (i := 31) rfl
def dtX7_next_118_2 : List (Nat × Instr × Nat) := [(118, .if_icmp .eq 9, 3), (121, .iload_n 2, 1), (122, .bipush 59, 2), (124, .if_icmp .ne 11, 3), (127, .aload_n 0, 1), (128, .iconst 4, 1), (129, .putfield 94, 3), (132, .goto 22, 3), (135, .iload_n 2, 1), (136, .invokestatic 100, 3), (139, .ifCond .ne 10, 3), (142, .iload_n 2, 1), (143, .invokestatic 104, 3), (146, .ifCond .eq 8, 3), (149, .aload_n 0, 1), (150, .iload_n 1, 1), (151, .invokevirtual 107, 3), (154, .return_, 1)]
theorem dtX7_next_118_2_ok : dcAll cX7_next dtX7_next_118_2 = true := by decide +kernel
theorem dX7_next_118 : decode cX7_next 118 = .ok (.if_icmp .eq 9, 3) := dc_of dtX7_next_118_2_ok (i := 0) rfl
theorem dX7_next_121 : decode cX7_next 121 = .ok (.iload_n 2, 1) := dc_of dtX7_next_118_2_ok (i := 1) rfl
theorem dX7_next_122 : decode cX7_next 122 = .ok (.bipush 59, 2) := dc_of dtX7_next_118_2_ok (i := 2) rfl
theorem dX7_next_124 : decode cX7_next 124 = .ok (.if_icmp .ne 11, 3) := dc_of dtX7_next_118_2_ok (i := 3) rfl
theorem dX7_next_127 : decode cX7_next 127 = .ok (.aload_n 0, 1) := dc_of dtX7_next_118_2_ok (i := 4) rfl
theorem dX7_next_128 : decode cX7_next 128 = .ok (.iconst 4, 1) := dc_of dtX7_next_118_2_ok (i := 5) rfl
theorem dX7_next_129 : decode cX7_next 129 = .ok (.putfield 94, 3) := dc_of dtX7_next_118_2_ok (i := 6) rfl
theorem dX7_next_132 : decode cX7_next 132 = .ok (.goto 22, 3) := dc_of dtX7_next_118_2_ok (i := 7) rfl
theorem dX7_next_135 : decode cX7_next 135 = .ok (.iload_n 2, 1) := dc_of dtX7_next_118_2_ok (i := 8) rfl
theorem dX7_next_136 : decode cX7_next 136 = .ok (.invokestatic 100, 3) := dc_of dtX7_next_118_2_ok (i := 9) rfl
theorem dX7_next_139 : decode cX7_next 139 = .ok (.ifCond .ne 10, 3) := dc_of dtX7_next_118_2_ok (i := 10) rfl
theorem dX7_next_142 : decode cX7_next 142 = .ok (.iload_n 2, 1) := dc_of dtX7_next_118_2_ok (i := 11) rfl
theorem dX7_next_143 : decode cX7_next 143 = .ok (.invokestatic 104, 3) := dc_of dtX7_next_118_2_ok (i := 12) rfl
theorem dX7_next_146 : decode cX7_next 146 = .ok (.ifCond .eq 8, 3) := dc_of dtX7_next_118_2_ok (i := 13) rfl
theorem dX7_next_149 : decode cX7_next 149 = .ok (.aload_n 0, 1) := dc_of dtX7_next_118_2_ok (i := 14) rfl
theorem dX7_next_150 : decode cX7_next 150 = .ok (.iload_n 1, 1) := dc_of dtX7_next_118_2_ok (i := 15) rfl
theorem dX7_next_151 : decode cX7_next 151 = .ok (.invokevirtual 107, 3) := dc_of dtX7_next_118_2_ok (i := 16) rfl
theorem dX7_next_154 : decode cX7_next 154 = .ok (.return_, 1) := dc_of dtX7_next_118_2_ok (i := 17) rfl
set_option maxRecDepth 20000 in
set_option maxRecDepth 20000 in
set_option maxRecDepth 20000 in
set_option maxRecDepth 20000 in
set_option maxRecDepth 20000 in
set_option maxRecDepth 20000 in
def dtX7_runs_0_0 : List (Nat × Instr × Nat) := [(0, .iconst 0, 1), (1, .istore_n 2, 1), (2, .iload_n 1, 1), (3, .istore_n 3, 1), (4, .aload_n 0, 1), (5, .lconst 0, 1), (6, .putfield 111, 3), (9, .aload_n 0, 1), (10, .iconst 0, 1), (11, .putfield 97, 3), (14, .aload_n 0, 1), (15, .iload_n 3, 1), (16, .invokevirtual 87, 3), (19, .invokestatic 100, 3), (22, .ifCond .ne 14, 3), (25, .aload_n 0, 1), (26, .iload_n 3, 1), (27, .invokevirtual 87, 3), (30, .invokestatic 104, 3), (33, .ifCond .eq 83, 3), (36, .aload_n 0, 1), (37, .iload_n 3, 1), (38, .invokevirtual 87, 3), (41, .istore 4, 2), (43, .iload 4, 2), (45, .invokestatic 100, 3), (48, .ifCond .eq 6, 3), (51, .iinc 2 1, 3), (54, .iload_n 3, 1), (55, .iload_n 1, 1), (56, .isub, 1), (57, .bipush 8, 2)]
theorem dtX7_runs_0_0_ok : dcAll cX7_runs dtX7_runs_0_0 = true := by decide +kernel
theorem dX7_runs_0 : decode cX7_runs 0 = .ok (.iconst 0, 1) := dc_of dtX7_runs_0_0_ok (i := 0) rfl
theorem dX7_runs_1 : decode cX7_runs 1 = .ok (.istore_n 2, 1) := dc_of dtX7_runs_0_0_ok (i := 1) rfl
theorem dX7_runs_2 : decode cX7_runs 2 = .ok (.iload_n 1, 1) := dc_of dtX7_runs_0_0_ok (i := 2) rfl
theorem dX7_runs_3 : decode cX7_runs 3 = .ok (.istore_n 3, 1) := dc_of dtX7_runs_0_0_ok (i := 3) rfl
theorem dX7_runs_4 : decode cX7_runs 4 = .ok (.aload_n 0, 1) := dc_of dtX7_runs_0_0_ok (i := 4) rfl
theorem dX7_runs_5 : decode cX7_runs 5 = .ok (.lconst 0, 1) := dc_of dtX7_runs_0_0_ok (i := 5) rfl
theorem dX7_runs_6 : decode cX7_runs 6 = .ok (.putfield 111, 3) := dc_of dtX7_runs_0_0_ok (i := 6) rfl
theorem dX7_runs_9 : decode cX7_runs 9 = .ok (.aload_n 0, 1) := dc_of dtX7_runs_0_0_ok (i := 7) rfl
theorem dX7_runs_10 : decode cX7_runs 10 = .ok (.iconst 0, 1) := dc_of dtX7_runs_0_0_ok (i := 8) rfl
theorem dX7_runs_11 : decode cX7_runs 11 = .ok (.putfield 97, 3) := dc_of dtX7_runs_0_0_ok (i := 9) rfl
theorem dX7_runs_14 : decode cX7_runs 14 = .ok (.aload_n 0, 1) := dc_of dtX7_runs_0_0_ok (i := 10) rfl
theorem dX7_runs_15 : decode cX7_runs 15 = .ok (.iload_n 3, 1) := dc_of dtX7_runs_0_0_ok (i := 11) rfl
theorem dX7_runs_16 : decode cX7_runs 16 = .ok (.invokevirtual 87, 3) := dc_of dtX7_runs_0_0_ok (i := 12) rfl
theorem dX7_runs_19 : decode cX7_runs 19 = .ok (.invokestatic 100, 3) := dc_of dtX7_runs_0_0_ok (i := 13) rfl
theorem dX7_runs_22 : decode cX7_runs 22 = .ok (.ifCond .ne 14, 3) := dc_of dtX7_runs_0_0_ok (i := 14) rfl
theorem dX7_runs_25 : decode cX7_runs 25 = .ok (.aload_n 0, 1) := dc_of dtX7_runs_0_0_ok (i := 15) rfl
theorem dX7_runs_26 : decode cX7_runs 26 = .ok (.iload_n 3, 1) := dc_of dtX7_runs_0_0_ok (i := 16) rfl
theorem dX7_runs_27 : decode cX7_runs 27 = .ok (.invokevirtual 87, 3) := dc_of dtX7_runs_0_0_ok (i := 17) rfl
theorem dX7_runs_30 : decode cX7_runs 30 = .ok (.invokestatic 104, 3) := dc_of dtX7_runs_0_0_ok (i := 18) rfl
theorem dX7_runs_33 : decode cX7_runs 33 = .ok (.ifCond .eq 83, 3) := dc_of dtX7_runs_0_0_ok (i := 19) rfl
theorem dX7_runs_36 : decode cX7_runs 36 = .ok (.aload_n 0, 1) := dc_of dtX7_runs_0_0_ok (i := 20) rfl
theorem dX7_runs_37 : decode cX7_runs 37 = .ok (.iload_n 3, 1) := dc_of dtX7_runs_0_0_ok (i := 21) rfl
theorem dX7_runs_38 : decode cX7_runs 38 = .ok (.invokevirtual 87, 3) := dc_of dtX7_runs_0_0_ok (i := 22) rfl
theorem dX7_runs_41 : decode cX7_runs 41 = .ok (.istore 4, 2) := dc_of dtX7_runs_0_0_ok (i := 23) rfl
theorem dX7_runs_43 : decode cX7_runs 43 = .ok (.iload 4, 2) := dc_of dtX7_runs_0_0_ok (i := 24) rfl
theorem dX7_runs_45 : decode cX7_runs 45 = .ok (.invokestatic 100, 3) := dc_of dtX7_runs_0_0_ok (i := 25) rfl
theorem dX7_runs_48 : decode cX7_runs 48 = .ok (.ifCond .eq 6, 3) := dc_of dtX7_runs_0_0_ok (i := 26) rfl
theorem dX7_runs_51 : decode cX7_runs 51 = .ok (.iinc 2 1, 3) := dc_of dtX7_runs_0_0_ok (i := 27) rfl
theorem dX7_runs_54 : decode cX7_runs 54 = .ok (.iload_n 3, 1) := dc_of dtX7_runs_0_0_ok (i := 28) rfl
theorem dX7_runs_55 : decode cX7_runs 55 = .ok (.iload_n 1, 1) := dc_of dtX7_runs_0_0_ok (i := 29) rfl
theorem dX7_runs_56 : decode cX7_runs 56 = .ok (.isub, 1) := dc_of dtX7_runs_0_0_ok (i := 30) rfl
theorem dX7_runs_57 : decode cX7_runs 57 = .ok (.bipush 8, 2) := dc_of dtX7_runs_0_0_ok (i := 31) rfl
def dtX7_runs_59_1 : List (Nat × Instr × Nat) := [(59, .if_icmp .ge 19, 3), (62, .aload_n 0, 1), (63, .ldc2_w 115, 3), (66, .aload_n 0, 1), (67, .getfield 111, 3), (70, .lmul, 1), (71, .iload 4, 2), (73, .i2l, 1), (74, .ladd, 1), (75, .putfield 111, 3), (78, .iload_n 3, 1), (79, .iload_n 1, 1), (80, .isub, 1), (81, .iconst 4, 1), (82, .if_icmp .ge 28, 3), (85, .iload 4, 2), (87, .invokestatic 104, 3), (90, .ifCond .eq 20, 3), (93, .aload_n 0, 1), (94, .bipush 10, 2), (96, .aload_n 0, 1), (97, .getfield 97, 3), (100, .imul, 1), (101, .iload 4, 2), (103, .iadd, 1), (104, .bipush 48, 2), (106, .isub, 1), (107, .putfield 97, 3), (110, .iinc 3 1, 3), (113, .goto (-99), 3), (116, .aload_n 0, 1), (117, .iload_n 3, 1)]
theorem dtX7_runs_59_1_ok : dcAll cX7_runs dtX7_runs_59_1 = true := by decide +kernel
theorem dX7_runs_59 : decode cX7_runs 59 = .ok (.if_icmp .ge 19, 3) := dc_of dtX7_runs_59_1_ok (i := 0) rfl
theorem dX7_runs_62 : decode cX7_runs 62 = .ok (.aload_n 0, 1) := dc_of dtX7_runs_59_1_ok (i := 1) rfl
theorem dX7_runs_63 : decode cX7_runs 63 = .ok (.ldc2_w 115, 3) := dc_of dtX7_runs_59_1_ok (i := 2) rfl
theorem dX7_runs_66 : decode cX7_runs 66 = .ok (.aload_n 0, 1) := dc_of dtX7_runs_59_1_ok (i := 3) rfl
theorem dX7_runs_67 : decode cX7_runs 67 = .ok (.getfield 111, 3) := dc_of dtX7_runs_59_1_ok (i := 4) rfl
theorem dX7_runs_70 : decode cX7_runs 70 = .ok (.lmul, 1) := dc_of dtX7_runs_59_1_ok (i := 5) rfl
theorem dX7_runs_71 : decode cX7_runs 71 = .ok (.iload 4, 2) := dc_of dtX7_runs_59_1_ok (i := 6) rfl
theorem dX7_runs_73 : decode cX7_runs 73 = .ok (.i2l, 1) := dc_of dtX7_runs_59_1_ok (i := 7) rfl
theorem dX7_runs_74 : decode cX7_runs 74 = .ok (.ladd, 1) := dc_of dtX7_runs_59_1_ok (i := 8) rfl
theorem dX7_runs_75 : decode cX7_runs 75 = .ok (.putfield 111, 3) := dc_of dtX7_runs_59_1_ok (i := 9) rfl
theorem dX7_runs_78 : decode cX7_runs 78 = .ok (.iload_n 3, 1) := dc_of dtX7_runs_59_1_ok (i := 10) rfl
theorem dX7_runs_79 : decode cX7_runs 79 = .ok (.iload_n 1, 1) := dc_of dtX7_runs_59_1_ok (i := 11) rfl
theorem dX7_runs_80 : decode cX7_runs 80 = .ok (.isub, 1) := dc_of dtX7_runs_59_1_ok (i := 12) rfl
theorem dX7_runs_81 : decode cX7_runs 81 = .ok (.iconst 4, 1) := dc_of dtX7_runs_59_1_ok (i := 13) rfl
theorem dX7_runs_82 : decode cX7_runs 82 = .ok (.if_icmp .ge 28, 3) := dc_of dtX7_runs_59_1_ok (i := 14) rfl
theorem dX7_runs_85 : decode cX7_runs 85 = .ok (.iload 4, 2) := dc_of dtX7_runs_59_1_ok (i := 15) rfl
theorem dX7_runs_87 : decode cX7_runs 87 = .ok (.invokestatic 104, 3) := dc_of dtX7_runs_59_1_ok (i := 16) rfl
theorem dX7_runs_90 : decode cX7_runs 90 = .ok (.ifCond .eq 20, 3) := dc_of dtX7_runs_59_1_ok (i := 17) rfl
theorem dX7_runs_93 : decode cX7_runs 93 = .ok (.aload_n 0, 1) := dc_of dtX7_runs_59_1_ok (i := 18) rfl
theorem dX7_runs_94 : decode cX7_runs 94 = .ok (.bipush 10, 2) := dc_of dtX7_runs_59_1_ok (i := 19) rfl
theorem dX7_runs_96 : decode cX7_runs 96 = .ok (.aload_n 0, 1) := dc_of dtX7_runs_59_1_ok (i := 20) rfl
theorem dX7_runs_97 : decode cX7_runs 97 = .ok (.getfield 97, 3) := dc_of dtX7_runs_59_1_ok (i := 21) rfl
theorem dX7_runs_100 : decode cX7_runs 100 = .ok (.imul, 1) := dc_of dtX7_runs_59_1_ok (i := 22) rfl
theorem dX7_runs_101 : decode cX7_runs 101 = .ok (.iload 4, 2) := dc_of dtX7_runs_59_1_ok (i := 23) rfl
theorem dX7_runs_103 : decode cX7_runs 103 = .ok (.iadd, 1) := dc_of dtX7_runs_59_1_ok (i := 24) rfl
theorem dX7_runs_104 : decode cX7_runs 104 = .ok (.bipush 48, 2) := dc_of dtX7_runs_59_1_ok (i := 25) rfl
theorem dX7_runs_106 : decode cX7_runs 106 = .ok (.isub, 1) := dc_of dtX7_runs_59_1_ok (i := 26) rfl
theorem dX7_runs_107 : decode cX7_runs 107 = .ok (.putfield 97, 3) := dc_of dtX7_runs_59_1_ok (i := 27) rfl
theorem dX7_runs_110 : decode cX7_runs 110 = .ok (.iinc 3 1, 3) := dc_of dtX7_runs_59_1_ok (i := 28) rfl
theorem dX7_runs_113 : decode cX7_runs 113 = .ok (.goto (-99), 3) := dc_of dtX7_runs_59_1_ok (i := 29) rfl
theorem dX7_runs_116 : decode cX7_runs 116 = .ok (.aload_n 0, 1) := dc_of dtX7_runs_59_1_ok (i := 30) rfl
theorem dX7_runs_117 : decode cX7_runs 117 = .ok (.iload_n 3, 1) := dc_of dtX7_runs_59_1_ok (i := 31) rfl
def dtX7_runs_118_2 : List (Nat × Instr × Nat) := [(118, .putfield 84, 3), (121, .iload_n 3, 1), (122, .iload_n 1, 1), (123, .isub, 1), (124, .istore 4, 2), (126, .iload_n 2, 1), (127, .iload 4, 2), (129, .if_icmp .ne 15, 3), (132, .iload 4, 2), (134, .bipush 9, 2), (136, .if_icmp .ge 8, 3), (139, .aload_n 0, 1), (140, .iconst 2, 1), (141, .putfield 94, 3), (144, .iload_n 2, 1), (145, .ifCond .ne 14, 3), (148, .iload 4, 2), (150, .iconst 5, 1), (151, .if_icmp .ge 8, 3), (154, .aload_n 0, 1), (155, .iconst 3, 1), (156, .putfield 94, 3), (159, .iload 4, 2), (161, .iconst 2, 1), (162, .if_icmp .ne 32, 3), (165, .aload_n 0, 1), (166, .getfield 39, 3), (169, .iload_n 1, 1), (170, .iaload, 1), (171, .bipush 99, 2), (173, .if_icmp .ne 21, 3), (176, .iload_n 2, 1)]
theorem dtX7_runs_118_2_ok : dcAll cX7_runs dtX7_runs_118_2 = true := by decide +kernel
theorem dX7_runs_118 : decode cX7_runs 118 = .ok (.putfield 84, 3) := dc_of dtX7_runs_118_2_ok (i := 0) rfl
theorem dX7_runs_121 : decode cX7_runs 121 = .ok (.iload_n 3, 1) := dc_of dtX7_runs_118_2_ok (i := 1) rfl
theorem dX7_runs_122 : decode cX7_runs 122 = .ok (.iload_n 1, 1) := dc_of dtX7_runs_118_2_ok (i := 2) rfl
theorem dX7_runs_123 : decode cX7_runs 123 = .ok (.isub, 1) := dc_of dtX7_runs_118_2_ok (i := 3) rfl
theorem dX7_runs_124 : decode cX7_runs 124 = .ok (.istore 4, 2) := dc_of dtX7_runs_118_2_ok (i := 4) rfl
theorem dX7_runs_126 : decode cX7_runs 126 = .ok (.iload_n 2, 1) := dc_of dtX7_runs_118_2_ok (i := 5) rfl
theorem dX7_runs_127 : decode cX7_runs 127 = .ok (.iload 4, 2) := dc_of dtX7_runs_118_2_ok (i := 6) rfl
theorem dX7_runs_129 : decode cX7_runs 129 = .ok (.if_icmp .ne 15, 3) := dc_of dtX7_runs_118_2_ok (i := 7) rfl
theorem dX7_runs_132 : decode cX7_runs 132 = .ok (.iload 4, 2) := dc_of dtX7_runs_118_2_ok (i := 8) rfl
theorem dX7_runs_134 : decode cX7_runs 134 = .ok (.bipush 9, 2) := dc_of dtX7_runs_118_2_ok (i := 9) rfl
theorem dX7_runs_136 : decode cX7_runs 136 = .ok (.if_icmp .ge 8, 3) := dc_of dtX7_runs_118_2_ok (i := 10) rfl
theorem dX7_runs_139 : decode cX7_runs 139 = .ok (.aload_n 0, 1) := dc_of dtX7_runs_118_2_ok (i := 11) rfl
theorem dX7_runs_140 : decode cX7_runs 140 = .ok (.iconst 2, 1) := dc_of dtX7_runs_118_2_ok (i := 12) rfl
theorem dX7_runs_141 : decode cX7_runs 141 = .ok (.putfield 94, 3) := dc_of dtX7_runs_118_2_ok (i := 13) rfl
theorem dX7_runs_144 : decode cX7_runs 144 = .ok (.iload_n 2, 1) := dc_of dtX7_runs_118_2_ok (i := 14) rfl
theorem dX7_runs_145 : decode cX7_runs 145 = .ok (.ifCond .ne 14, 3) := dc_of dtX7_runs_118_2_ok (i := 15) rfl
theorem dX7_runs_148 : decode cX7_runs 148 = .ok (.iload 4, 2) := dc_of dtX7_runs_118_2_ok (i := 16) rfl
theorem dX7_runs_150 : decode cX7_runs 150 = .ok (.iconst 5, 1) := dc_of dtX7_runs_118_2_ok (i := 17) rfl
theorem dX7_runs_151 : decode cX7_runs 151 = .ok (.if_icmp .ge 8, 3) := dc_of dtX7_runs_118_2_ok (i := 18) rfl
theorem dX7_runs_154 : decode cX7_runs 154 = .ok (.aload_n 0, 1) := dc_of dtX7_runs_118_2_ok (i := 19) rfl
theorem dX7_runs_155 : decode cX7_runs 155 = .ok (.iconst 3, 1) := dc_of dtX7_runs_118_2_ok (i := 20) rfl
theorem dX7_runs_156 : decode cX7_runs 156 = .ok (.putfield 94, 3) := dc_of dtX7_runs_118_2_ok (i := 21) rfl
theorem dX7_runs_159 : decode cX7_runs 159 = .ok (.iload 4, 2) := dc_of dtX7_runs_118_2_ok (i := 22) rfl
theorem dX7_runs_161 : decode cX7_runs 161 = .ok (.iconst 2, 1) := dc_of dtX7_runs_118_2_ok (i := 23) rfl
theorem dX7_runs_162 : decode cX7_runs 162 = .ok (.if_icmp .ne 32, 3) := dc_of dtX7_runs_118_2_ok (i := 24) rfl
theorem dX7_runs_165 : decode cX7_runs 165 = .ok (.aload_n 0, 1) := dc_of dtX7_runs_118_2_ok (i := 25) rfl
theorem dX7_runs_166 : decode cX7_runs 166 = .ok (.getfield 39, 3) := dc_of dtX7_runs_118_2_ok (i := 26) rfl
theorem dX7_runs_169 : decode cX7_runs 169 = .ok (.iload_n 1, 1) := dc_of dtX7_runs_118_2_ok (i := 27) rfl
theorem dX7_runs_170 : decode cX7_runs 170 = .ok (.iaload, 1) := dc_of dtX7_runs_118_2_ok (i := 28) rfl
theorem dX7_runs_171 : decode cX7_runs 171 = .ok (.bipush 99, 2) := dc_of dtX7_runs_118_2_ok (i := 29) rfl
theorem dX7_runs_173 : decode cX7_runs 173 = .ok (.if_icmp .ne 21, 3) := dc_of dtX7_runs_118_2_ok (i := 30) rfl
theorem dX7_runs_176 : decode cX7_runs 176 = .ok (.iload_n 2, 1) := dc_of dtX7_runs_118_2_ok (i := 31) rfl
def dtX7_runs_177_3 : List (Nat × Instr × Nat) := [(177, .iconst 1, 1), (178, .if_icmp .ne 16, 3), (181, .aload_n 0, 1), (182, .getfield 97, 3), (185, .iconst 4, 1), (186, .if_icmp .ge 8, 3), (189, .aload_n 0, 1), (190, .iconst 1, 1), (191, .putfield 94, 3), (194, .return_, 1)]
theorem dtX7_runs_177_3_ok : dcAll cX7_runs dtX7_runs_177_3 = true := by decide +kernel
theorem dX7_runs_177 : decode cX7_runs 177 = .ok (.iconst 1, 1) := dc_of dtX7_runs_177_3_ok (i := 0) rfl
theorem dX7_runs_178 : decode cX7_runs 178 = .ok (.if_icmp .ne 16, 3) := dc_of dtX7_runs_177_3_ok (i := 1) rfl
theorem dX7_runs_181 : decode cX7_runs 181 = .ok (.aload_n 0, 1) := dc_of dtX7_runs_177_3_ok (i := 2) rfl
theorem dX7_runs_182 : decode cX7_runs 182 = .ok (.getfield 97, 3) := dc_of dtX7_runs_177_3_ok (i := 3) rfl
theorem dX7_runs_185 : decode cX7_runs 185 = .ok (.iconst 4, 1) := dc_of dtX7_runs_177_3_ok (i := 4) rfl
theorem dX7_runs_186 : decode cX7_runs 186 = .ok (.if_icmp .ge 8, 3) := dc_of dtX7_runs_177_3_ok (i := 5) rfl
theorem dX7_runs_189 : decode cX7_runs 189 = .ok (.aload_n 0, 1) := dc_of dtX7_runs_177_3_ok (i := 6) rfl
theorem dX7_runs_190 : decode cX7_runs 190 = .ok (.iconst 1, 1) := dc_of dtX7_runs_177_3_ok (i := 7) rfl
theorem dX7_runs_191 : decode cX7_runs 191 = .ok (.putfield 94, 3) := dc_of dtX7_runs_177_3_ok (i := 8) rfl
theorem dX7_runs_194 : decode cX7_runs 194 = .ok (.return_, 1) := dc_of dtX7_runs_177_3_ok (i := 9) rfl
def dtX7_wrong_0_0 : List (Nat × Instr × Nat) := [(0, .aload_n 0, 1), (1, .getfield 81, 3), (4, .ifCond .ne 16, 3), (7, .aload_n 0, 1), (8, .bipush 8, 2), (10, .aload_n 0, 1), (11, .getfield 91, 3), (14, .imul, 1), (15, .iload_n 1, 1), (16, .iadd, 1), (17, .putfield 81, 3), (20, .return_, 1)]
theorem dtX7_wrong_0_0_ok : dcAll cX7_wrong dtX7_wrong_0_0 = true := by decide +kernel
theorem dX7_wrong_0 : decode cX7_wrong 0 = .ok (.aload_n 0, 1) := dc_of dtX7_wrong_0_0_ok (i := 0) rfl
theorem dX7_wrong_1 : decode cX7_wrong 1 = .ok (.getfield 81, 3) := dc_of dtX7_wrong_0_0_ok (i := 1) rfl
theorem dX7_wrong_4 : decode cX7_wrong 4 = .ok (.ifCond .ne 16, 3) := dc_of dtX7_wrong_0_0_ok (i := 2) rfl
theorem dX7_wrong_7 : decode cX7_wrong 7 = .ok (.aload_n 0, 1) := dc_of dtX7_wrong_0_0_ok (i := 3) rfl
theorem dX7_wrong_8 : decode cX7_wrong 8 = .ok (.bipush 8, 2) := dc_of dtX7_wrong_0_0_ok (i := 4) rfl
theorem dX7_wrong_10 : decode cX7_wrong 10 = .ok (.aload_n 0, 1) := dc_of dtX7_wrong_0_0_ok (i := 5) rfl
theorem dX7_wrong_11 : decode cX7_wrong 11 = .ok (.getfield 91, 3) := dc_of dtX7_wrong_0_0_ok (i := 6) rfl
theorem dX7_wrong_14 : decode cX7_wrong 14 = .ok (.imul, 1) := dc_of dtX7_wrong_0_0_ok (i := 7) rfl
theorem dX7_wrong_15 : decode cX7_wrong 15 = .ok (.iload_n 1, 1) := dc_of dtX7_wrong_0_0_ok (i := 8) rfl
theorem dX7_wrong_16 : decode cX7_wrong 16 = .ok (.iadd, 1) := dc_of dtX7_wrong_0_0_ok (i := 9) rfl
theorem dX7_wrong_17 : decode cX7_wrong 17 = .ok (.putfield 81, 3) := dc_of dtX7_wrong_0_0_ok (i := 10) rfl
theorem dX7_wrong_20 : decode cX7_wrong 20 = .ok (.return_, 1) := dc_of dtX7_wrong_0_0_ok (i := 11) rfl
set_option maxRecDepth 20000 in
set_option maxRecDepth 20000 in
set_option maxRecDepth 20000 in
set_option maxRecDepth 20000 in
def dtX7_packed_0_0 : List (Nat × Instr × Nat) := [(0, .lconst 0, 1), (1, .lstore_n 1, 1), (2, .iconst 0, 1), (3, .istore_n 3, 1), (4, .iload_n 3, 1), (5, .aload_n 0, 1), (6, .invokevirtual 117, 3), (9, .if_icmp .ge 22, 3), (12, .ldc2_w 115, 3), (15, .lload_n 1, 1), (16, .lmul, 1), (17, .aload_n 0, 1), (18, .iload_n 3, 1), (19, .invokevirtual 123, 3), (22, .i2l, 1), (23, .ladd, 1), (24, .lstore_n 1, 1), (25, .iinc 3 1, 3), (28, .goto (-24), 3), (31, .lload_n 1, 1), (32, .lreturn, 1)]
theorem dtX7_packed_0_0_ok : dcAll cX7_packed dtX7_packed_0_0 = true := by decide +kernel
theorem dX7_packed_0 : decode cX7_packed 0 = .ok (.lconst 0, 1) := dc_of dtX7_packed_0_0_ok (i := 0) rfl
theorem dX7_packed_1 : decode cX7_packed 1 = .ok (.lstore_n 1, 1) := dc_of dtX7_packed_0_0_ok (i := 1) rfl
theorem dX7_packed_2 : decode cX7_packed 2 = .ok (.iconst 0, 1) := dc_of dtX7_packed_0_0_ok (i := 2) rfl
theorem dX7_packed_3 : decode cX7_packed 3 = .ok (.istore_n 3, 1) := dc_of dtX7_packed_0_0_ok (i := 3) rfl
theorem dX7_packed_4 : decode cX7_packed 4 = .ok (.iload_n 3, 1) := dc_of dtX7_packed_0_0_ok (i := 4) rfl
theorem dX7_packed_5 : decode cX7_packed 5 = .ok (.aload_n 0, 1) := dc_of dtX7_packed_0_0_ok (i := 5) rfl
theorem dX7_packed_6 : decode cX7_packed 6 = .ok (.invokevirtual 117, 3) := dc_of dtX7_packed_0_0_ok (i := 6) rfl
theorem dX7_packed_9 : decode cX7_packed 9 = .ok (.if_icmp .ge 22, 3) := dc_of dtX7_packed_0_0_ok (i := 7) rfl
theorem dX7_packed_12 : decode cX7_packed 12 = .ok (.ldc2_w 115, 3) := dc_of dtX7_packed_0_0_ok (i := 8) rfl
theorem dX7_packed_15 : decode cX7_packed 15 = .ok (.lload_n 1, 1) := dc_of dtX7_packed_0_0_ok (i := 9) rfl
theorem dX7_packed_16 : decode cX7_packed 16 = .ok (.lmul, 1) := dc_of dtX7_packed_0_0_ok (i := 10) rfl
theorem dX7_packed_17 : decode cX7_packed 17 = .ok (.aload_n 0, 1) := dc_of dtX7_packed_0_0_ok (i := 11) rfl
theorem dX7_packed_18 : decode cX7_packed 18 = .ok (.iload_n 3, 1) := dc_of dtX7_packed_0_0_ok (i := 12) rfl
theorem dX7_packed_19 : decode cX7_packed 19 = .ok (.invokevirtual 123, 3) := dc_of dtX7_packed_0_0_ok (i := 13) rfl
theorem dX7_packed_22 : decode cX7_packed 22 = .ok (.i2l, 1) := dc_of dtX7_packed_0_0_ok (i := 14) rfl
theorem dX7_packed_23 : decode cX7_packed 23 = .ok (.ladd, 1) := dc_of dtX7_packed_0_0_ok (i := 15) rfl
theorem dX7_packed_24 : decode cX7_packed 24 = .ok (.lstore_n 1, 1) := dc_of dtX7_packed_0_0_ok (i := 16) rfl
theorem dX7_packed_25 : decode cX7_packed 25 = .ok (.iinc 3 1, 3) := dc_of dtX7_packed_0_0_ok (i := 17) rfl
theorem dX7_packed_28 : decode cX7_packed 28 = .ok (.goto (-24), 3) := dc_of dtX7_packed_0_0_ok (i := 18) rfl
theorem dX7_packed_31 : decode cX7_packed 31 = .ok (.lload_n 1, 1) := dc_of dtX7_packed_0_0_ok (i := 19) rfl
theorem dX7_packed_32 : decode cX7_packed 32 = .ok (.lreturn, 1) := dc_of dtX7_packed_0_0_ok (i := 20) rfl
set_option maxRecDepth 20000 in
set_option maxRecDepth 20000 in
def dtX7_isWord_0_0 : List (Nat × Instr × Nat) := [(0, .aload_n 0, 1), (1, .getfield 81, 3), (4, .ifCond .ne 27, 3), (7, .aload_n 0, 1), (8, .getfield 94, 3), (11, .iconst 2, 1), (12, .if_icmp .ne 19, 3), (15, .aload_n 0, 1), (16, .getfield 111, 3), (19, .aload_n 1, 1), (20, .invokestatic 127, 3), (23, .lcmp, 1), (24, .ifCond .ne 7, 3), (27, .iconst 1, 1), (28, .goto 4, 3), (31, .iconst 0, 1), (32, .ireturn, 1)]
theorem dtX7_isWord_0_0_ok : dcAll cX7_isWord dtX7_isWord_0_0 = true := by decide +kernel
theorem dX7_isWord_0 : decode cX7_isWord 0 = .ok (.aload_n 0, 1) := dc_of dtX7_isWord_0_0_ok (i := 0) rfl
theorem dX7_isWord_1 : decode cX7_isWord 1 = .ok (.getfield 81, 3) := dc_of dtX7_isWord_0_0_ok (i := 1) rfl
theorem dX7_isWord_4 : decode cX7_isWord 4 = .ok (.ifCond .ne 27, 3) := dc_of dtX7_isWord_0_0_ok (i := 2) rfl
theorem dX7_isWord_7 : decode cX7_isWord 7 = .ok (.aload_n 0, 1) := dc_of dtX7_isWord_0_0_ok (i := 3) rfl
theorem dX7_isWord_8 : decode cX7_isWord 8 = .ok (.getfield 94, 3) := dc_of dtX7_isWord_0_0_ok (i := 4) rfl
theorem dX7_isWord_11 : decode cX7_isWord 11 = .ok (.iconst 2, 1) := dc_of dtX7_isWord_0_0_ok (i := 5) rfl
theorem dX7_isWord_12 : decode cX7_isWord 12 = .ok (.if_icmp .ne 19, 3) := dc_of dtX7_isWord_0_0_ok (i := 6) rfl
theorem dX7_isWord_15 : decode cX7_isWord 15 = .ok (.aload_n 0, 1) := dc_of dtX7_isWord_0_0_ok (i := 7) rfl
theorem dX7_isWord_16 : decode cX7_isWord 16 = .ok (.getfield 111, 3) := dc_of dtX7_isWord_0_0_ok (i := 8) rfl
theorem dX7_isWord_19 : decode cX7_isWord 19 = .ok (.aload_n 1, 1) := dc_of dtX7_isWord_0_0_ok (i := 9) rfl
theorem dX7_isWord_20 : decode cX7_isWord 20 = .ok (.invokestatic 127, 3) := dc_of dtX7_isWord_0_0_ok (i := 10) rfl
theorem dX7_isWord_23 : decode cX7_isWord 23 = .ok (.lcmp, 1) := dc_of dtX7_isWord_0_0_ok (i := 11) rfl
theorem dX7_isWord_24 : decode cX7_isWord 24 = .ok (.ifCond .ne 7, 3) := dc_of dtX7_isWord_0_0_ok (i := 12) rfl
theorem dX7_isWord_27 : decode cX7_isWord 27 = .ok (.iconst 1, 1) := dc_of dtX7_isWord_0_0_ok (i := 13) rfl
theorem dX7_isWord_28 : decode cX7_isWord 28 = .ok (.goto 4, 3) := dc_of dtX7_isWord_0_0_ok (i := 14) rfl
theorem dX7_isWord_31 : decode cX7_isWord 31 = .ok (.iconst 0, 1) := dc_of dtX7_isWord_0_0_ok (i := 15) rfl
theorem dX7_isWord_32 : decode cX7_isWord 32 = .ok (.ireturn, 1) := dc_of dtX7_isWord_0_0_ok (i := 16) rfl
def dtX7_isSign_0_0 : List (Nat × Instr × Nat) := [(0, .aload_n 0, 1), (1, .getfield 81, 3), (4, .ifCond .ne 23, 3), (7, .aload_n 0, 1), (8, .getfield 94, 3), (11, .iconst 4, 1), (12, .if_icmp .ne 15, 3), (15, .aload_n 0, 1), (16, .getfield 97, 3), (19, .iload_n 1, 1), (20, .if_icmp .ne 7, 3), (23, .iconst 1, 1), (24, .goto 4, 3), (27, .iconst 0, 1), (28, .ireturn, 1)]
theorem dtX7_isSign_0_0_ok : dcAll cX7_isSign dtX7_isSign_0_0 = true := by decide +kernel
theorem dX7_isSign_0 : decode cX7_isSign 0 = .ok (.aload_n 0, 1) := dc_of dtX7_isSign_0_0_ok (i := 0) rfl
theorem dX7_isSign_1 : decode cX7_isSign 1 = .ok (.getfield 81, 3) := dc_of dtX7_isSign_0_0_ok (i := 1) rfl
theorem dX7_isSign_4 : decode cX7_isSign 4 = .ok (.ifCond .ne 23, 3) := dc_of dtX7_isSign_0_0_ok (i := 2) rfl
theorem dX7_isSign_7 : decode cX7_isSign 7 = .ok (.aload_n 0, 1) := dc_of dtX7_isSign_0_0_ok (i := 3) rfl
theorem dX7_isSign_8 : decode cX7_isSign 8 = .ok (.getfield 94, 3) := dc_of dtX7_isSign_0_0_ok (i := 4) rfl
theorem dX7_isSign_11 : decode cX7_isSign 11 = .ok (.iconst 4, 1) := dc_of dtX7_isSign_0_0_ok (i := 5) rfl
theorem dX7_isSign_12 : decode cX7_isSign 12 = .ok (.if_icmp .ne 15, 3) := dc_of dtX7_isSign_0_0_ok (i := 6) rfl
theorem dX7_isSign_15 : decode cX7_isSign 15 = .ok (.aload_n 0, 1) := dc_of dtX7_isSign_0_0_ok (i := 7) rfl
theorem dX7_isSign_16 : decode cX7_isSign 16 = .ok (.getfield 97, 3) := dc_of dtX7_isSign_0_0_ok (i := 8) rfl
theorem dX7_isSign_19 : decode cX7_isSign 19 = .ok (.iload_n 1, 1) := dc_of dtX7_isSign_0_0_ok (i := 9) rfl
theorem dX7_isSign_20 : decode cX7_isSign 20 = .ok (.if_icmp .ne 7, 3) := dc_of dtX7_isSign_0_0_ok (i := 10) rfl
theorem dX7_isSign_23 : decode cX7_isSign 23 = .ok (.iconst 1, 1) := dc_of dtX7_isSign_0_0_ok (i := 11) rfl
theorem dX7_isSign_24 : decode cX7_isSign 24 = .ok (.goto 4, 3) := dc_of dtX7_isSign_0_0_ok (i := 12) rfl
theorem dX7_isSign_27 : decode cX7_isSign 27 = .ok (.iconst 0, 1) := dc_of dtX7_isSign_0_0_ok (i := 13) rfl
theorem dX7_isSign_28 : decode cX7_isSign 28 = .ok (.ireturn, 1) := dc_of dtX7_isSign_0_0_ok (i := 14) rfl
set_option maxRecDepth 20000 in
set_option maxRecDepth 20000 in
set_option maxRecDepth 20000 in
set_option maxRecDepth 20000 in
set_option maxRecDepth 20000 in
set_option maxRecDepth 20000 in
def dtX7_mustSign_0_0 : List (Nat × Instr × Nat) := [(0, .aload_n 0, 1), (1, .getfield 81, 3), (4, .ifCond .ne 16, 3), (7, .aload_n 0, 1), (8, .iload_n 1, 1), (9, .invokevirtual 131, 3), (12, .ifCond .ne 8, 3), (15, .aload_n 0, 1), (16, .iconst 1, 1), (17, .invokevirtual 134, 3), (20, .aload_n 0, 1), (21, .invokevirtual 137, 3), (24, .return_, 1)]
theorem dtX7_mustSign_0_0_ok : dcAll cX7_mustSign dtX7_mustSign_0_0 = true := by decide +kernel
theorem dX7_mustSign_0 : decode cX7_mustSign 0 = .ok (.aload_n 0, 1) := dc_of dtX7_mustSign_0_0_ok (i := 0) rfl
theorem dX7_mustSign_1 : decode cX7_mustSign 1 = .ok (.getfield 81, 3) := dc_of dtX7_mustSign_0_0_ok (i := 1) rfl
theorem dX7_mustSign_4 : decode cX7_mustSign 4 = .ok (.ifCond .ne 16, 3) := dc_of dtX7_mustSign_0_0_ok (i := 2) rfl
theorem dX7_mustSign_7 : decode cX7_mustSign 7 = .ok (.aload_n 0, 1) := dc_of dtX7_mustSign_0_0_ok (i := 3) rfl
theorem dX7_mustSign_8 : decode cX7_mustSign 8 = .ok (.iload_n 1, 1) := dc_of dtX7_mustSign_0_0_ok (i := 4) rfl
theorem dX7_mustSign_9 : decode cX7_mustSign 9 = .ok (.invokevirtual 131, 3) := dc_of dtX7_mustSign_0_0_ok (i := 5) rfl
theorem dX7_mustSign_12 : decode cX7_mustSign 12 = .ok (.ifCond .ne 8, 3) := dc_of dtX7_mustSign_0_0_ok (i := 6) rfl
theorem dX7_mustSign_15 : decode cX7_mustSign 15 = .ok (.aload_n 0, 1) := dc_of dtX7_mustSign_0_0_ok (i := 7) rfl
theorem dX7_mustSign_16 : decode cX7_mustSign 16 = .ok (.iconst 1, 1) := dc_of dtX7_mustSign_0_0_ok (i := 8) rfl
theorem dX7_mustSign_17 : decode cX7_mustSign 17 = .ok (.invokevirtual 134, 3) := dc_of dtX7_mustSign_0_0_ok (i := 9) rfl
theorem dX7_mustSign_20 : decode cX7_mustSign 20 = .ok (.aload_n 0, 1) := dc_of dtX7_mustSign_0_0_ok (i := 10) rfl
theorem dX7_mustSign_21 : decode cX7_mustSign 21 = .ok (.invokevirtual 137, 3) := dc_of dtX7_mustSign_0_0_ok (i := 11) rfl
theorem dX7_mustSign_24 : decode cX7_mustSign 24 = .ok (.return_, 1) := dc_of dtX7_mustSign_0_0_ok (i := 12) rfl
set_option maxRecDepth 20000 in
set_option maxRecDepth 20000 in
set_option maxRecDepth 20000 in
set_option maxRecDepth 20000 in
set_option maxRecDepth 20000 in
set_option maxRecDepth 20000 in
def dtX7_mustWord_0_0 : List (Nat × Instr × Nat) := [(0, .aload_n 0, 1), (1, .getfield 81, 3), (4, .ifCond .ne 16, 3), (7, .aload_n 0, 1), (8, .aload_n 1, 1), (9, .invokevirtual 140, 3), (12, .ifCond .ne 8, 3), (15, .aload_n 0, 1), (16, .iconst 1, 1), (17, .invokevirtual 134, 3), (20, .aload_n 0, 1), (21, .invokevirtual 137, 3), (24, .return_, 1)]
theorem dtX7_mustWord_0_0_ok : dcAll cX7_mustWord dtX7_mustWord_0_0 = true := by decide +kernel
theorem dX7_mustWord_0 : decode cX7_mustWord 0 = .ok (.aload_n 0, 1) := dc_of dtX7_mustWord_0_0_ok (i := 0) rfl
theorem dX7_mustWord_1 : decode cX7_mustWord 1 = .ok (.getfield 81, 3) := dc_of dtX7_mustWord_0_0_ok (i := 1) rfl
theorem dX7_mustWord_4 : decode cX7_mustWord 4 = .ok (.ifCond .ne 16, 3) := dc_of dtX7_mustWord_0_0_ok (i := 2) rfl
theorem dX7_mustWord_7 : decode cX7_mustWord 7 = .ok (.aload_n 0, 1) := dc_of dtX7_mustWord_0_0_ok (i := 3) rfl
theorem dX7_mustWord_8 : decode cX7_mustWord 8 = .ok (.aload_n 1, 1) := dc_of dtX7_mustWord_0_0_ok (i := 4) rfl
theorem dX7_mustWord_9 : decode cX7_mustWord 9 = .ok (.invokevirtual 140, 3) := dc_of dtX7_mustWord_0_0_ok (i := 5) rfl
theorem dX7_mustWord_12 : decode cX7_mustWord 12 = .ok (.ifCond .ne 8, 3) := dc_of dtX7_mustWord_0_0_ok (i := 6) rfl
theorem dX7_mustWord_15 : decode cX7_mustWord 15 = .ok (.aload_n 0, 1) := dc_of dtX7_mustWord_0_0_ok (i := 7) rfl
theorem dX7_mustWord_16 : decode cX7_mustWord 16 = .ok (.iconst 1, 1) := dc_of dtX7_mustWord_0_0_ok (i := 8) rfl
theorem dX7_mustWord_17 : decode cX7_mustWord 17 = .ok (.invokevirtual 134, 3) := dc_of dtX7_mustWord_0_0_ok (i := 9) rfl
theorem dX7_mustWord_20 : decode cX7_mustWord 20 = .ok (.aload_n 0, 1) := dc_of dtX7_mustWord_0_0_ok (i := 10) rfl
theorem dX7_mustWord_21 : decode cX7_mustWord 21 = .ok (.invokevirtual 137, 3) := dc_of dtX7_mustWord_0_0_ok (i := 11) rfl
theorem dX7_mustWord_24 : decode cX7_mustWord 24 = .ok (.return_, 1) := dc_of dtX7_mustWord_0_0_ok (i := 12) rfl
set_option maxRecDepth 20000 in
set_option maxRecDepth 20000 in
def dtX7_isReserved_0_0 : List (Nat × Instr × Nat) := [(0, .aload_n 0, 1), (1, .ldc 144, 2), (3, .invokevirtual 140, 3), (6, .ifCond .ne 48, 3), (9, .aload_n 0, 1), (10, .ldc 146, 2), (12, .invokevirtual 140, 3), (15, .ifCond .ne 39, 3), (18, .aload_n 0, 1), (19, .ldc 148, 2), (21, .invokevirtual 140, 3), (24, .ifCond .ne 30, 3), (27, .aload_n 0, 1), (28, .ldc 150, 2), (30, .invokevirtual 140, 3), (33, .ifCond .ne 21, 3), (36, .aload_n 0, 1), (37, .ldc 152, 2), (39, .invokevirtual 140, 3), (42, .ifCond .ne 12, 3), (45, .aload_n 0, 1), (46, .ldc 154, 2), (48, .invokevirtual 140, 3), (51, .ifCond .eq 5, 3), (54, .iconst 1, 1), (55, .ireturn, 1), (56, .aload_n 0, 1), (57, .ldc 156, 2), (59, .invokevirtual 140, 3), (62, .ifCond .ne 48, 3), (65, .aload_n 0, 1), (66, .ldc 158, 2)]
theorem dtX7_isReserved_0_0_ok : dcAll cX7_isReserved dtX7_isReserved_0_0 = true := by decide +kernel
theorem dX7_isReserved_0 : decode cX7_isReserved 0 = .ok (.aload_n 0, 1) := dc_of dtX7_isReserved_0_0_ok (i := 0) rfl
theorem dX7_isReserved_1 : decode cX7_isReserved 1 = .ok (.ldc 144, 2) := dc_of dtX7_isReserved_0_0_ok (i := 1) rfl
theorem dX7_isReserved_3 : decode cX7_isReserved 3 = .ok (.invokevirtual 140, 3) := dc_of dtX7_isReserved_0_0_ok (i := 2) rfl
theorem dX7_isReserved_6 : decode cX7_isReserved 6 = .ok (.ifCond .ne 48, 3) := dc_of dtX7_isReserved_0_0_ok (i := 3) rfl
theorem dX7_isReserved_9 : decode cX7_isReserved 9 = .ok (.aload_n 0, 1) := dc_of dtX7_isReserved_0_0_ok (i := 4) rfl
theorem dX7_isReserved_10 : decode cX7_isReserved 10 = .ok (.ldc 146, 2) := dc_of dtX7_isReserved_0_0_ok (i := 5) rfl
theorem dX7_isReserved_12 : decode cX7_isReserved 12 = .ok (.invokevirtual 140, 3) := dc_of dtX7_isReserved_0_0_ok (i := 6) rfl
theorem dX7_isReserved_15 : decode cX7_isReserved 15 = .ok (.ifCond .ne 39, 3) := dc_of dtX7_isReserved_0_0_ok (i := 7) rfl
theorem dX7_isReserved_18 : decode cX7_isReserved 18 = .ok (.aload_n 0, 1) := dc_of dtX7_isReserved_0_0_ok (i := 8) rfl
theorem dX7_isReserved_19 : decode cX7_isReserved 19 = .ok (.ldc 148, 2) := dc_of dtX7_isReserved_0_0_ok (i := 9) rfl
theorem dX7_isReserved_21 : decode cX7_isReserved 21 = .ok (.invokevirtual 140, 3) := dc_of dtX7_isReserved_0_0_ok (i := 10) rfl
theorem dX7_isReserved_24 : decode cX7_isReserved 24 = .ok (.ifCond .ne 30, 3) := dc_of dtX7_isReserved_0_0_ok (i := 11) rfl
theorem dX7_isReserved_27 : decode cX7_isReserved 27 = .ok (.aload_n 0, 1) := dc_of dtX7_isReserved_0_0_ok (i := 12) rfl
theorem dX7_isReserved_28 : decode cX7_isReserved 28 = .ok (.ldc 150, 2) := dc_of dtX7_isReserved_0_0_ok (i := 13) rfl
theorem dX7_isReserved_30 : decode cX7_isReserved 30 = .ok (.invokevirtual 140, 3) := dc_of dtX7_isReserved_0_0_ok (i := 14) rfl
theorem dX7_isReserved_33 : decode cX7_isReserved 33 = .ok (.ifCond .ne 21, 3) := dc_of dtX7_isReserved_0_0_ok (i := 15) rfl
theorem dX7_isReserved_36 : decode cX7_isReserved 36 = .ok (.aload_n 0, 1) := dc_of dtX7_isReserved_0_0_ok (i := 16) rfl
theorem dX7_isReserved_37 : decode cX7_isReserved 37 = .ok (.ldc 152, 2) := dc_of dtX7_isReserved_0_0_ok (i := 17) rfl
theorem dX7_isReserved_39 : decode cX7_isReserved 39 = .ok (.invokevirtual 140, 3) := dc_of dtX7_isReserved_0_0_ok (i := 18) rfl
theorem dX7_isReserved_42 : decode cX7_isReserved 42 = .ok (.ifCond .ne 12, 3) := dc_of dtX7_isReserved_0_0_ok (i := 19) rfl
theorem dX7_isReserved_45 : decode cX7_isReserved 45 = .ok (.aload_n 0, 1) := dc_of dtX7_isReserved_0_0_ok (i := 20) rfl
theorem dX7_isReserved_46 : decode cX7_isReserved 46 = .ok (.ldc 154, 2) := dc_of dtX7_isReserved_0_0_ok (i := 21) rfl
theorem dX7_isReserved_48 : decode cX7_isReserved 48 = .ok (.invokevirtual 140, 3) := dc_of dtX7_isReserved_0_0_ok (i := 22) rfl
theorem dX7_isReserved_51 : decode cX7_isReserved 51 = .ok (.ifCond .eq 5, 3) := dc_of dtX7_isReserved_0_0_ok (i := 23) rfl
theorem dX7_isReserved_54 : decode cX7_isReserved 54 = .ok (.iconst 1, 1) := dc_of dtX7_isReserved_0_0_ok (i := 24) rfl
theorem dX7_isReserved_55 : decode cX7_isReserved 55 = .ok (.ireturn, 1) := dc_of dtX7_isReserved_0_0_ok (i := 25) rfl
theorem dX7_isReserved_56 : decode cX7_isReserved 56 = .ok (.aload_n 0, 1) := dc_of dtX7_isReserved_0_0_ok (i := 26) rfl
theorem dX7_isReserved_57 : decode cX7_isReserved 57 = .ok (.ldc 156, 2) := dc_of dtX7_isReserved_0_0_ok (i := 27) rfl
theorem dX7_isReserved_59 : decode cX7_isReserved 59 = .ok (.invokevirtual 140, 3) := dc_of dtX7_isReserved_0_0_ok (i := 28) rfl
theorem dX7_isReserved_62 : decode cX7_isReserved 62 = .ok (.ifCond .ne 48, 3) := dc_of dtX7_isReserved_0_0_ok (i := 29) rfl
theorem dX7_isReserved_65 : decode cX7_isReserved 65 = .ok (.aload_n 0, 1) := dc_of dtX7_isReserved_0_0_ok (i := 30) rfl
theorem dX7_isReserved_66 : decode cX7_isReserved 66 = .ok (.ldc 158, 2) := dc_of dtX7_isReserved_0_0_ok (i := 31) rfl
def dtX7_isReserved_68_1 : List (Nat × Instr × Nat) := [(68, .invokevirtual 140, 3), (71, .ifCond .ne 39, 3), (74, .aload_n 0, 1), (75, .ldc 160, 2), (77, .invokevirtual 140, 3), (80, .ifCond .ne 30, 3), (83, .aload_n 0, 1), (84, .ldc 162, 2), (86, .invokevirtual 140, 3), (89, .ifCond .ne 21, 3), (92, .aload_n 0, 1), (93, .ldc 164, 2), (95, .invokevirtual 140, 3), (98, .ifCond .ne 12, 3), (101, .aload_n 0, 1), (102, .ldc 166, 2), (104, .invokevirtual 140, 3), (107, .ifCond .eq 5, 3), (110, .iconst 1, 1), (111, .ireturn, 1), (112, .aload_n 0, 1), (113, .ldc 168, 2), (115, .invokevirtual 140, 3), (118, .ifCond .ne 39, 3), (121, .aload_n 0, 1), (122, .ldc 170, 2), (124, .invokevirtual 140, 3), (127, .ifCond .ne 30, 3), (130, .aload_n 0, 1), (131, .ldc 172, 2), (133, .invokevirtual 140, 3), (136, .ifCond .ne 21, 3)]
theorem dtX7_isReserved_68_1_ok : dcAll cX7_isReserved dtX7_isReserved_68_1 = true := by decide +kernel
theorem dX7_isReserved_68 : decode cX7_isReserved 68 = .ok (.invokevirtual 140, 3) := dc_of dtX7_isReserved_68_1_ok (i := 0) rfl
theorem dX7_isReserved_71 : decode cX7_isReserved 71 = .ok (.ifCond .ne 39, 3) := dc_of dtX7_isReserved_68_1_ok (i := 1) rfl
theorem dX7_isReserved_74 : decode cX7_isReserved 74 = .ok (.aload_n 0, 1) := dc_of dtX7_isReserved_68_1_ok (i := 2) rfl
theorem dX7_isReserved_75 : decode cX7_isReserved 75 = .ok (.ldc 160, 2) := dc_of dtX7_isReserved_68_1_ok (i := 3) rfl
theorem dX7_isReserved_77 : decode cX7_isReserved 77 = .ok (.invokevirtual 140, 3) := dc_of dtX7_isReserved_68_1_ok (i := 4) rfl
theorem dX7_isReserved_80 : decode cX7_isReserved 80 = .ok (.ifCond .ne 30, 3) := dc_of dtX7_isReserved_68_1_ok (i := 5) rfl
theorem dX7_isReserved_83 : decode cX7_isReserved 83 = .ok (.aload_n 0, 1) := dc_of dtX7_isReserved_68_1_ok (i := 6) rfl
theorem dX7_isReserved_84 : decode cX7_isReserved 84 = .ok (.ldc 162, 2) := dc_of dtX7_isReserved_68_1_ok (i := 7) rfl
theorem dX7_isReserved_86 : decode cX7_isReserved 86 = .ok (.invokevirtual 140, 3) := dc_of dtX7_isReserved_68_1_ok (i := 8) rfl
theorem dX7_isReserved_89 : decode cX7_isReserved 89 = .ok (.ifCond .ne 21, 3) := dc_of dtX7_isReserved_68_1_ok (i := 9) rfl
theorem dX7_isReserved_92 : decode cX7_isReserved 92 = .ok (.aload_n 0, 1) := dc_of dtX7_isReserved_68_1_ok (i := 10) rfl
theorem dX7_isReserved_93 : decode cX7_isReserved 93 = .ok (.ldc 164, 2) := dc_of dtX7_isReserved_68_1_ok (i := 11) rfl
theorem dX7_isReserved_95 : decode cX7_isReserved 95 = .ok (.invokevirtual 140, 3) := dc_of dtX7_isReserved_68_1_ok (i := 12) rfl
theorem dX7_isReserved_98 : decode cX7_isReserved 98 = .ok (.ifCond .ne 12, 3) := dc_of dtX7_isReserved_68_1_ok (i := 13) rfl
theorem dX7_isReserved_101 : decode cX7_isReserved 101 = .ok (.aload_n 0, 1) := dc_of dtX7_isReserved_68_1_ok (i := 14) rfl
theorem dX7_isReserved_102 : decode cX7_isReserved 102 = .ok (.ldc 166, 2) := dc_of dtX7_isReserved_68_1_ok (i := 15) rfl
theorem dX7_isReserved_104 : decode cX7_isReserved 104 = .ok (.invokevirtual 140, 3) := dc_of dtX7_isReserved_68_1_ok (i := 16) rfl
theorem dX7_isReserved_107 : decode cX7_isReserved 107 = .ok (.ifCond .eq 5, 3) := dc_of dtX7_isReserved_68_1_ok (i := 17) rfl
theorem dX7_isReserved_110 : decode cX7_isReserved 110 = .ok (.iconst 1, 1) := dc_of dtX7_isReserved_68_1_ok (i := 18) rfl
theorem dX7_isReserved_111 : decode cX7_isReserved 111 = .ok (.ireturn, 1) := dc_of dtX7_isReserved_68_1_ok (i := 19) rfl
theorem dX7_isReserved_112 : decode cX7_isReserved 112 = .ok (.aload_n 0, 1) := dc_of dtX7_isReserved_68_1_ok (i := 20) rfl
theorem dX7_isReserved_113 : decode cX7_isReserved 113 = .ok (.ldc 168, 2) := dc_of dtX7_isReserved_68_1_ok (i := 21) rfl
theorem dX7_isReserved_115 : decode cX7_isReserved 115 = .ok (.invokevirtual 140, 3) := dc_of dtX7_isReserved_68_1_ok (i := 22) rfl
theorem dX7_isReserved_118 : decode cX7_isReserved 118 = .ok (.ifCond .ne 39, 3) := dc_of dtX7_isReserved_68_1_ok (i := 23) rfl
theorem dX7_isReserved_121 : decode cX7_isReserved 121 = .ok (.aload_n 0, 1) := dc_of dtX7_isReserved_68_1_ok (i := 24) rfl
theorem dX7_isReserved_122 : decode cX7_isReserved 122 = .ok (.ldc 170, 2) := dc_of dtX7_isReserved_68_1_ok (i := 25) rfl
theorem dX7_isReserved_124 : decode cX7_isReserved 124 = .ok (.invokevirtual 140, 3) := dc_of dtX7_isReserved_68_1_ok (i := 26) rfl
theorem dX7_isReserved_127 : decode cX7_isReserved 127 = .ok (.ifCond .ne 30, 3) := dc_of dtX7_isReserved_68_1_ok (i := 27) rfl
theorem dX7_isReserved_130 : decode cX7_isReserved 130 = .ok (.aload_n 0, 1) := dc_of dtX7_isReserved_68_1_ok (i := 28) rfl
theorem dX7_isReserved_131 : decode cX7_isReserved 131 = .ok (.ldc 172, 2) := dc_of dtX7_isReserved_68_1_ok (i := 29) rfl
theorem dX7_isReserved_133 : decode cX7_isReserved 133 = .ok (.invokevirtual 140, 3) := dc_of dtX7_isReserved_68_1_ok (i := 30) rfl
theorem dX7_isReserved_136 : decode cX7_isReserved 136 = .ok (.ifCond .ne 21, 3) := dc_of dtX7_isReserved_68_1_ok (i := 31) rfl
def dtX7_isReserved_139_2 : List (Nat × Instr × Nat) := [(139, .aload_n 0, 1), (140, .ldc 174, 2), (142, .invokevirtual 140, 3), (145, .ifCond .ne 12, 3), (148, .aload_n 0, 1), (149, .ldc 176, 2), (151, .invokevirtual 140, 3), (154, .ifCond .eq 5, 3), (157, .iconst 1, 1), (158, .ireturn, 1), (159, .aload_n 0, 1), (160, .ldc 178, 2), (162, .invokevirtual 140, 3), (165, .ifCond .ne 21, 3), (168, .aload_n 0, 1)]
theorem dtX7_isReserved_139_2_ok : dcAll cX7_isReserved dtX7_isReserved_139_2 = true := by decide +kernel
theorem dX7_isReserved_139 : decode cX7_isReserved 139 = .ok (.aload_n 0, 1) := dc_of dtX7_isReserved_139_2_ok (i := 0) rfl
theorem dX7_isReserved_140 : decode cX7_isReserved 140 = .ok (.ldc 174, 2) := dc_of dtX7_isReserved_139_2_ok (i := 1) rfl
theorem dX7_isReserved_142 : decode cX7_isReserved 142 = .ok (.invokevirtual 140, 3) := dc_of dtX7_isReserved_139_2_ok (i := 2) rfl
theorem dX7_isReserved_145 : decode cX7_isReserved 145 = .ok (.ifCond .ne 12, 3) := dc_of dtX7_isReserved_139_2_ok (i := 3) rfl
theorem dX7_isReserved_148 : decode cX7_isReserved 148 = .ok (.aload_n 0, 1) := dc_of dtX7_isReserved_139_2_ok (i := 4) rfl
theorem dX7_isReserved_149 : decode cX7_isReserved 149 = .ok (.ldc 176, 2) := dc_of dtX7_isReserved_139_2_ok (i := 5) rfl
theorem dX7_isReserved_151 : decode cX7_isReserved 151 = .ok (.invokevirtual 140, 3) := dc_of dtX7_isReserved_139_2_ok (i := 6) rfl
theorem dX7_isReserved_154 : decode cX7_isReserved 154 = .ok (.ifCond .eq 5, 3) := dc_of dtX7_isReserved_139_2_ok (i := 7) rfl
theorem dX7_isReserved_157 : decode cX7_isReserved 157 = .ok (.iconst 1, 1) := dc_of dtX7_isReserved_139_2_ok (i := 8) rfl
theorem dX7_isReserved_158 : decode cX7_isReserved 158 = .ok (.ireturn, 1) := dc_of dtX7_isReserved_139_2_ok (i := 9) rfl
theorem dX7_isReserved_159 : decode cX7_isReserved 159 = .ok (.aload_n 0, 1) := dc_of dtX7_isReserved_139_2_ok (i := 10) rfl
theorem dX7_isReserved_160 : decode cX7_isReserved 160 = .ok (.ldc 178, 2) := dc_of dtX7_isReserved_139_2_ok (i := 11) rfl
theorem dX7_isReserved_162 : decode cX7_isReserved 162 = .ok (.invokevirtual 140, 3) := dc_of dtX7_isReserved_139_2_ok (i := 12) rfl
theorem dX7_isReserved_165 : decode cX7_isReserved 165 = .ok (.ifCond .ne 21, 3) := dc_of dtX7_isReserved_139_2_ok (i := 13) rfl
theorem dX7_isReserved_168 : decode cX7_isReserved 168 = .ok (.aload_n 0, 1) := dc_of dtX7_isReserved_139_2_ok (i := 14) rfl
