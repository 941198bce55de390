def dtX2_hang_46_0 : List (Nat × Instr × Nat) := [(46, .putfield 45, 3), (49, .return_, 1)]
theorem dtX2_hang_46_0_ok : dcAll cX2_hang dtX2_hang_46_0 = true := by decide +kernel
theorem dX2_hang_46 : decode cX2_hang 46 = .ok (.putfield 45, 3) := dc_of dtX2_hang_46_0_ok (i := 0) rfl
theorem dX2_hang_49 : decode cX2_hang 49 = .ok (.return_, 1) := dc_of dtX2_hang_46_0_ok (i := 1) rfl
def dtX3_init_0_0 : List (Nat × Instr × Nat) := [(0, .aload_n 0, 1), (1, .invokespecial 3, 3), (4, .aload_n 0, 1), (5, .iconst 5, 1), (6, .newarray .int, 2), (8, .putfield 11, 3), (11, .aload_n 0, 1), (12, .bipush 8, 2), (14, .newarray .int, 2), (16, .putfield 17, 3), (19, .aload_n 0, 1), (20, .sipush 480, 3), (23, .newarray .int, 2), (25, .putfield 20, 3), (28, .return_, 1)]
theorem dtX3_init_0_0_ok : dcAll cX3_init dtX3_init_0_0 = true := by decide +kernel
theorem dX3_init_0 : decode cX3_init 0 = .ok (.aload_n 0, 1) := dc_of dtX3_init_0_0_ok (i := 0) rfl
theorem dX3_init_1 : decode cX3_init 1 = .ok (.invokespecial 3, 3) := dc_of dtX3_init_0_0_ok (i := 1) rfl
theorem dX3_init_4 : decode cX3_init 4 = .ok (.aload_n 0, 1) := dc_of dtX3_init_0_0_ok (i := 2) rfl
theorem dX3_init_5 : decode cX3_init 5 = .ok (.iconst 5, 1) := dc_of dtX3_init_0_0_ok (i := 3) rfl
theorem dX3_init_6 : decode cX3_init 6 = .ok (.newarray .int, 2) := dc_of dtX3_init_0_0_ok (i := 4) rfl
theorem dX3_init_8 : decode cX3_init 8 = .ok (.putfield 11, 3) := dc_of dtX3_init_0_0_ok (i := 5) rfl
theorem dX3_init_11 : decode cX3_init 11 = .ok (.aload_n 0, 1) := dc_of dtX3_init_0_0_ok (i := 6) rfl
theorem dX3_init_12 : decode cX3_init 12 = .ok (.bipush 8, 2) := dc_of dtX3_init_0_0_ok (i := 7) rfl
theorem dX3_init_14 : decode cX3_init 14 = .ok (.newarray .int, 2) := dc_of dtX3_init_0_0_ok (i := 8) rfl
theorem dX3_init_16 : decode cX3_init 16 = .ok (.putfield 17, 3) := dc_of dtX3_init_0_0_ok (i := 9) rfl
theorem dX3_init_19 : decode cX3_init 19 = .ok (.aload_n 0, 1) := dc_of dtX3_init_0_0_ok (i := 10) rfl
theorem dX3_init_20 : decode cX3_init 20 = .ok (.sipush 480, 3) := dc_of dtX3_init_0_0_ok (i := 11) rfl
theorem dX3_init_23 : decode cX3_init 23 = .ok (.newarray .int, 2) := dc_of dtX3_init_0_0_ok (i := 12) rfl
theorem dX3_init_25 : decode cX3_init 25 = .ok (.putfield 20, 3) := dc_of dtX3_init_0_0_ok (i := 13) rfl
theorem dX3_init_28 : decode cX3_init 28 = .ok (.return_, 1) := dc_of dtX3_init_0_0_ok (i := 14) rfl
set_option maxRecDepth 20000 in
theorem gw_wsX3_select : wsX3_select.all goodWord = true := by decide +kernel
set_option maxRecDepth 20000 in
theorem ggX3_reckon_X3_select : GoodIn wsX3_reckon wsX3_select := goodIn_r _ [9, 1, 10, 11, 12, 13, 14, 15, 16, 17, 18, 19, 20, 21, 22, 23, 24, 25, 26, 27, 28, 29, 30, 31, 32, 33, 34, 142, 143, 144, 145, 146, 147, 148, 149, 150, 151, 152, 153, 154, 155, 156, 157, 158, 159, 160] rfl gw_wsX3_select
set_option maxRecDepth 20000 in
theorem gX3_reckon_X3_select : GoodIn wsX3_reckon (wsV RX3 38 RX3 yX3_select wsX3_select) := goodIn_app (goodIn_of _ (by decide +kernel)) ggX3_reckon_X3_select
set_option maxRecDepth 20000 in
theorem gw_wsX3_project : wsX3_project.all goodWord = true := by decide +kernel
set_option maxRecDepth 20000 in
theorem ggX3_reckon_X3_project : GoodIn wsX3_reckon wsX3_project := goodIn_r _ [38, 1, 10, 39, 40, 41, 42, 8, 43, 44, 45, 46, 14, 47, 16, 17, 18, 19, 20, 21, 22, 23, 24, 48, 49, 50, 51, 52, 53, 54, 55, 29, 56, 57, 58, 59, 60, 61, 62, 63, 30, 31, 32, 33, 34, 64, 65, 66, 67, 68, 69, 70, 71, 72, 142, 143, 144, 145, 161, 162, 163, 146, 147, 148, 149, 150, 151, 152, 153, 154, 155, 156, 157, 158, 159, 160] rfl gw_wsX3_project
set_option maxRecDepth 20000 in
theorem gX3_reckon_X3_project : GoodIn wsX3_reckon (wsV RX3 42 RX3 yX3_project wsX3_project) := goodIn_app (goodIn_of _ (by decide +kernel)) ggX3_reckon_X3_project
set_option maxRecDepth 20000 in
theorem gw_wsX3_join : wsX3_join.all goodWord = true := by decide +kernel
set_option maxRecDepth 20000 in
theorem ggX3_reckon_X3_join : GoodIn wsX3_reckon wsX3_join := goodIn_r _ [76, 1, 10, 39, 40, 41, 42, 8, 43, 77, 78, 79, 14, 80, 16, 17, 81, 82, 83, 84, 85, 86, 87, 88, 89, 21, 90, 23, 91, 92, 93, 94, 18, 19, 20, 22, 24, 48, 49, 50, 51, 52, 53, 54, 55, 29, 56, 57, 58, 59, 60, 61, 62, 63, 30, 31, 32, 33, 34, 64, 65, 66, 67, 68, 69, 70, 71, 72, 142, 143, 144, 145, 161, 162, 163, 146, 147, 148, 149, 150, 151, 152, 153, 154, 155, 156, 157, 158, 159, 160] rfl gw_wsX3_join
set_option maxRecDepth 20000 in
theorem gX3_reckon_X3_join : GoodIn wsX3_reckon (wsV RX3 45 RX3 yX3_join wsX3_join) := goodIn_app (goodIn_of _ (by decide +kernel)) ggX3_reckon_X3_join
set_option maxRecDepth 20000 in
theorem gw_wsX4_gather : wsX4_gather.all goodWord = true := by decide +kernel
set_option maxRecDepth 20000 in
theorem ggX3_reckon_X4_gather : GoodIn wsX3_reckon wsX4_gather := goodIn_r _ [98, 29, 99, 100, 21, 101, 23, 56, 57, 58, 59, 24, 64, 19, 20, 22, 102, 26, 27, 28, 30, 31, 32, 33, 34, 142, 143, 144, 145] rfl gw_wsX4_gather
set_option maxRecDepth 20000 in
theorem gX3_reckon_X4_gather : GoodIn wsX3_reckon (wsV RX3 49 RX4 yX4_gather wsX4_gather) := goodIn_app (goodIn_of _ (by decide +kernel)) ggX3_reckon_X4_gather
set_option maxRecDepth 20000 in
theorem gw_wsX3_distinct : wsX3_distinct.all goodWord = true := by decide +kernel
set_option maxRecDepth 20000 in
theorem ggX3_reckon_X3_distinct : GoodIn wsX3_reckon wsX3_distinct := goodIn_r _ [106, 1, 18, 19, 20, 21, 22, 23, 24, 25, 26, 27, 28, 29, 30, 31, 32, 33, 34, 142, 143, 144, 145] rfl gw_wsX3_distinct
set_option maxRecDepth 20000 in
theorem gX3_reckon_X3_distinct : GoodIn wsX3_reckon (wsV RX3 53 RX3 yX3_distinct wsX3_distinct) := goodIn_app (goodIn_of _ (by decide +kernel)) ggX3_reckon_X3_distinct
set_option maxRecDepth 20000 in
theorem gw_wsX3_group : wsX3_group.all goodWord = true := by decide +kernel
set_option maxRecDepth 20000 in
theorem ggX3_reckon_X3_group : GoodIn wsX3_reckon wsX3_group := goodIn_r _ [110, 1, 111, 39, 112, 113, 114, 40, 41, 42, 8, 43, 87, 88, 89, 21, 90, 23, 115, 53, 54, 55, 29, 56, 57, 58, 59, 24, 116, 61, 62, 63, 30, 31, 32, 33, 34, 18, 19, 20, 22, 117, 118, 119, 120, 70, 71, 72, 142, 143, 144, 145, 146, 147, 148, 149, 150, 151, 152, 153, 154, 155, 156, 157, 158, 159, 160, 161, 162, 163] rfl gw_wsX3_group
set_option maxRecDepth 20000 in
theorem gX3_reckon_X3_group : GoodIn wsX3_reckon (wsV RX3 57 RX3 yX3_group wsX3_group) := goodIn_app (goodIn_of _ (by decide +kernel)) ggX3_reckon_X3_group
set_option maxRecDepth 20000 in
theorem gw_wsX3_ring : wsX3_ring.all goodWord = true := by decide +kernel
set_option maxRecDepth 20000 in
theorem ggX3_reckon_X3_ring : GoodIn wsX3_reckon wsX3_ring := goodIn_r _ [124, 1, 39, 40, 41, 42, 8, 43, 18, 19, 20, 21, 22, 23, 24, 125, 126, 127, 128, 31, 32, 33, 34, 129, 130, 131, 132, 133, 134, 116, 61, 62, 63, 29, 30, 120, 70, 71, 72, 135, 136, 137, 138, 139, 140, 141, 10, 85, 86, 87, 88, 89, 90, 44, 45, 46, 14, 47, 16, 17, 115, 53, 54, 55, 56, 57, 58, 59, 142, 143, 144, 145, 161, 162, 163, 146, 147, 148, 149, 150, 151, 152, 153, 154, 155, 156, 157, 158, 159, 160] rfl gw_wsX3_ring
set_option maxRecDepth 20000 in
theorem gX3_reckon_X3_ring : GoodIn wsX3_reckon (wsV RX3 60 RX3 yX3_ring wsX3_ring) := goodIn_app (goodIn_of _ (by decide +kernel)) ggX3_reckon_X3_ring
def dtX3_reckon_0_0 : List (Nat × Instr × Nat) := [(0, .aload_n 3, 1), (1, .iconst 0, 1), (2, .putfield 23, 3), (5, .aload_n 1, 1), (6, .getfield 27, 3), (9, .iconst (-1), 1), (10, .if_icmp .ne 5, 3), (13, .iconst 0, 1), (14, .ireturn, 1), (15, .aload_n 2, 1), (16, .aload_n 1, 1), (17, .getfield 27, 3), (20, .aaload, 1), (21, .astore 4, 2), (23, .aload_n 1, 1), (24, .getfield 32, 3), (27, .iconst (-1), 1), (28, .if_icmp .ne 8, 3), (31, .aload 4, 2), (33, .goto 9, 3), (36, .aload_n 2, 1), (37, .aload_n 1, 1), (38, .getfield 32, 3), (41, .aaload, 1), (42, .astore 5, 2), (44, .aload_n 1, 1), (45, .getfield 35, 3), (48, .tableswitch 128 1 7 #[44, 53, 62, 73, 92, 111, 119], 44), (92, .aload_n 0, 1), (93, .aload_n 1, 1), (94, .aload 4, 2), (96, .aload_n 3, 1)]
theorem dtX3_reckon_0_0_ok : dcAll cX3_reckon dtX3_reckon_0_0 = true := by decide +kernel
theorem dX3_reckon_0 : decode cX3_reckon 0 = .ok (.aload_n 3, 1) := dc_of dtX3_reckon_0_0_ok (i := 0) rfl
theorem dX3_reckon_1 : decode cX3_reckon 1 = .ok (.iconst 0, 1) := dc_of dtX3_reckon_0_0_ok (i := 1) rfl
theorem dX3_reckon_2 : decode cX3_reckon 2 = .ok (.putfield 23, 3) := dc_of dtX3_reckon_0_0_ok (i := 2) rfl
theorem dX3_reckon_5 : decode cX3_reckon 5 = .ok (.aload_n 1, 1) := dc_of dtX3_reckon_0_0_ok (i := 3) rfl
theorem dX3_reckon_6 : decode cX3_reckon 6 = .ok (.getfield 27, 3) := dc_of dtX3_reckon_0_0_ok (i := 4) rfl
theorem dX3_reckon_9 : decode cX3_reckon 9 = .ok (.iconst (-1), 1) := dc_of dtX3_reckon_0_0_ok (i := 5) rfl
theorem dX3_reckon_10 : decode cX3_reckon 10 = .ok (.if_icmp .ne 5, 3) := dc_of dtX3_reckon_0_0_ok (i := 6) rfl
theorem dX3_reckon_13 : decode cX3_reckon 13 = .ok (.iconst 0, 1) := dc_of dtX3_reckon_0_0_ok (i := 7) rfl
theorem dX3_reckon_14 : decode cX3_reckon 14 = .ok (.ireturn, 1) := dc_of dtX3_reckon_0_0_ok (i := 8) rfl
theorem dX3_reckon_15 : decode cX3_reckon 15 = .ok (.aload_n 2, 1) := dc_of dtX3_reckon_0_0_ok (i := 9) rfl
theorem dX3_reckon_16 : decode cX3_reckon 16 = .ok (.aload_n 1, 1) := dc_of dtX3_reckon_0_0_ok (i := 10) rfl
theorem dX3_reckon_17 : decode cX3_reckon 17 = .ok (.getfield 27, 3) := dc_of dtX3_reckon_0_0_ok (i := 11) rfl
theorem dX3_reckon_20 : decode cX3_reckon 20 = .ok (.aaload, 1) := dc_of dtX3_reckon_0_0_ok (i := 12) rfl
theorem dX3_reckon_21 : decode cX3_reckon 21 = .ok (.astore 4, 2) := dc_of dtX3_reckon_0_0_ok (i := 13) rfl
theorem dX3_reckon_23 : decode cX3_reckon 23 = .ok (.aload_n 1, 1) := dc_of dtX3_reckon_0_0_ok (i := 14) rfl
theorem dX3_reckon_24 : decode cX3_reckon 24 = .ok (.getfield 32, 3) := dc_of dtX3_reckon_0_0_ok (i := 15) rfl
theorem dX3_reckon_27 : decode cX3_reckon 27 = .ok (.iconst (-1), 1) := dc_of dtX3_reckon_0_0_ok (i := 16) rfl
theorem dX3_reckon_28 : decode cX3_reckon 28 = .ok (.if_icmp .ne 8, 3) := dc_of dtX3_reckon_0_0_ok (i := 17) rfl
theorem dX3_reckon_31 : decode cX3_reckon 31 = .ok (.aload 4, 2) := dc_of dtX3_reckon_0_0_ok (i := 18) rfl
theorem dX3_reckon_33 : decode cX3_reckon 33 = .ok (.goto 9, 3) := dc_of dtX3_reckon_0_0_ok (i := 19) rfl
theorem dX3_reckon_36 : decode cX3_reckon 36 = .ok (.aload_n 2, 1) := dc_of dtX3_reckon_0_0_ok (i := 20) rfl
theorem dX3_reckon_37 : decode cX3_reckon 37 = .ok (.aload_n 1, 1) := dc_of dtX3_reckon_0_0_ok (i := 21) rfl
theorem dX3_reckon_38 : decode cX3_reckon 38 = .ok (.getfield 32, 3) := dc_of dtX3_reckon_0_0_ok (i := 22) rfl
theorem dX3_reckon_41 : decode cX3_reckon 41 = .ok (.aaload, 1) := dc_of dtX3_reckon_0_0_ok (i := 23) rfl
theorem dX3_reckon_42 : decode cX3_reckon 42 = .ok (.astore 5, 2) := dc_of dtX3_reckon_0_0_ok (i := 24) rfl
theorem dX3_reckon_44 : decode cX3_reckon 44 = .ok (.aload_n 1, 1) := dc_of dtX3_reckon_0_0_ok (i := 25) rfl
theorem dX3_reckon_45 : decode cX3_reckon 45 = .ok (.getfield 35, 3) := dc_of dtX3_reckon_0_0_ok (i := 26) rfl
theorem dX3_reckon_48 : decode cX3_reckon 48 = .ok (.tableswitch 128 1 7 #[44, 53, 62, 73, 92, 111, 119], 44) := dc_of dtX3_reckon_0_0_ok (i := 27) rfl
theorem dX3_reckon_92 : decode cX3_reckon 92 = .ok (.aload_n 0, 1) := dc_of dtX3_reckon_0_0_ok (i := 28) rfl
theorem dX3_reckon_93 : decode cX3_reckon 93 = .ok (.aload_n 1, 1) := dc_of dtX3_reckon_0_0_ok (i := 29) rfl
theorem dX3_reckon_94 : decode cX3_reckon 94 = .ok (.aload 4, 2) := dc_of dtX3_reckon_0_0_ok (i := 30) rfl
theorem dX3_reckon_96 : decode cX3_reckon 96 = .ok (.aload_n 3, 1) := dc_of dtX3_reckon_0_0_ok (i := 31) rfl
def dtX3_reckon_97_1 : List (Nat × Instr × Nat) := [(97, .invokevirtual 38, 3), (100, .ireturn, 1), (101, .aload_n 0, 1), (102, .aload_n 1, 1), (103, .aload 4, 2), (105, .aload_n 3, 1), (106, .invokevirtual 42, 3), (109, .ireturn, 1), (110, .aload_n 0, 1), (111, .aload_n 1, 1), (112, .aload 4, 2), (114, .aload 5, 2), (116, .aload_n 3, 1), (117, .invokevirtual 45, 3), (120, .ireturn, 1), (121, .aload_n 3, 1), (122, .aload 4, 2), (124, .aload 5, 2), (126, .iconst 1, 1), (127, .invokevirtual 49, 3), (130, .ifCond .eq 7, 3), (133, .iconst 0, 1), (134, .goto 5, 3), (137, .bipush (-3), 2), (139, .ireturn, 1), (140, .aload_n 3, 1), (141, .aload 4, 2), (143, .aload 5, 2), (145, .iconst (-1), 1), (146, .invokevirtual 49, 3), (149, .ifCond .eq 7, 3), (152, .iconst 0, 1)]
theorem dtX3_reckon_97_1_ok : dcAll cX3_reckon dtX3_reckon_97_1 = true := by decide +kernel
theorem dX3_reckon_97 : decode cX3_reckon 97 = .ok (.invokevirtual 38, 3) := dc_of dtX3_reckon_97_1_ok (i := 0) rfl
theorem dX3_reckon_100 : decode cX3_reckon 100 = .ok (.ireturn, 1) := dc_of dtX3_reckon_97_1_ok (i := 1) rfl
theorem dX3_reckon_101 : decode cX3_reckon 101 = .ok (.aload_n 0, 1) := dc_of dtX3_reckon_97_1_ok (i := 2) rfl
theorem dX3_reckon_102 : decode cX3_reckon 102 = .ok (.aload_n 1, 1) := dc_of dtX3_reckon_97_1_ok (i := 3) rfl
theorem dX3_reckon_103 : decode cX3_reckon 103 = .ok (.aload 4, 2) := dc_of dtX3_reckon_97_1_ok (i := 4) rfl
theorem dX3_reckon_105 : decode cX3_reckon 105 = .ok (.aload_n 3, 1) := dc_of dtX3_reckon_97_1_ok (i := 5) rfl
theorem dX3_reckon_106 : decode cX3_reckon 106 = .ok (.invokevirtual 42, 3) := dc_of dtX3_reckon_97_1_ok (i := 6) rfl
theorem dX3_reckon_109 : decode cX3_reckon 109 = .ok (.ireturn, 1) := dc_of dtX3_reckon_97_1_ok (i := 7) rfl
theorem dX3_reckon_110 : decode cX3_reckon 110 = .ok (.aload_n 0, 1) := dc_of dtX3_reckon_97_1_ok (i := 8) rfl
theorem dX3_reckon_111 : decode cX3_reckon 111 = .ok (.aload_n 1, 1) := dc_of dtX3_reckon_97_1_ok (i := 9) rfl
theorem dX3_reckon_112 : decode cX3_reckon 112 = .ok (.aload 4, 2) := dc_of dtX3_reckon_97_1_ok (i := 10) rfl
theorem dX3_reckon_114 : decode cX3_reckon 114 = .ok (.aload 5, 2) := dc_of dtX3_reckon_97_1_ok (i := 11) rfl
theorem dX3_reckon_116 : decode cX3_reckon 116 = .ok (.aload_n 3, 1) := dc_of dtX3_reckon_97_1_ok (i := 12) rfl
theorem dX3_reckon_117 : decode cX3_reckon 117 = .ok (.invokevirtual 45, 3) := dc_of dtX3_reckon_97_1_ok (i := 13) rfl
theorem dX3_reckon_120 : decode cX3_reckon 120 = .ok (.ireturn, 1) := dc_of dtX3_reckon_97_1_ok (i := 14) rfl
theorem dX3_reckon_121 : decode cX3_reckon 121 = .ok (.aload_n 3, 1) := dc_of dtX3_reckon_97_1_ok (i := 15) rfl
theorem dX3_reckon_122 : decode cX3_reckon 122 = .ok (.aload 4, 2) := dc_of dtX3_reckon_97_1_ok (i := 16) rfl
theorem dX3_reckon_124 : decode cX3_reckon 124 = .ok (.aload 5, 2) := dc_of dtX3_reckon_97_1_ok (i := 17) rfl
theorem dX3_reckon_126 : decode cX3_reckon 126 = .ok (.iconst 1, 1) := dc_of dtX3_reckon_97_1_ok (i := 18) rfl
theorem dX3_reckon_127 : decode cX3_reckon 127 = .ok (.invokevirtual 49, 3) := dc_of dtX3_reckon_97_1_ok (i := 19) rfl
theorem dX3_reckon_130 : decode cX3_reckon 130 = .ok (.ifCond .eq 7, 3) := dc_of dtX3_reckon_97_1_ok (i := 20) rfl
theorem dX3_reckon_133 : decode cX3_reckon 133 = .ok (.iconst 0, 1) := dc_of dtX3_reckon_97_1_ok (i := 21) rfl
theorem dX3_reckon_134 : decode cX3_reckon 134 = .ok (.goto 5, 3) := dc_of dtX3_reckon_97_1_ok (i := 22) rfl
theorem dX3_reckon_137 : decode cX3_reckon 137 = .ok (.bipush (-3), 2) := dc_of dtX3_reckon_97_1_ok (i := 23) rfl
theorem dX3_reckon_139 : decode cX3_reckon 139 = .ok (.ireturn, 1) := dc_of dtX3_reckon_97_1_ok (i := 24) rfl
theorem dX3_reckon_140 : decode cX3_reckon 140 = .ok (.aload_n 3, 1) := dc_of dtX3_reckon_97_1_ok (i := 25) rfl
theorem dX3_reckon_141 : decode cX3_reckon 141 = .ok (.aload 4, 2) := dc_of dtX3_reckon_97_1_ok (i := 26) rfl
theorem dX3_reckon_143 : decode cX3_reckon 143 = .ok (.aload 5, 2) := dc_of dtX3_reckon_97_1_ok (i := 27) rfl
theorem dX3_reckon_145 : decode cX3_reckon 145 = .ok (.iconst (-1), 1) := dc_of dtX3_reckon_97_1_ok (i := 28) rfl
theorem dX3_reckon_146 : decode cX3_reckon 146 = .ok (.invokevirtual 49, 3) := dc_of dtX3_reckon_97_1_ok (i := 29) rfl
theorem dX3_reckon_149 : decode cX3_reckon 149 = .ok (.ifCond .eq 7, 3) := dc_of dtX3_reckon_97_1_ok (i := 30) rfl
theorem dX3_reckon_152 : decode cX3_reckon 152 = .ok (.iconst 0, 1) := dc_of dtX3_reckon_97_1_ok (i := 31) rfl
def dtX3_reckon_153_2 : List (Nat × Instr × Nat) := [(153, .goto 5, 3), (156, .bipush (-3), 2), (158, .ireturn, 1), (159, .aload_n 0, 1), (160, .aload 4, 2), (162, .aload_n 3, 1), (163, .invokevirtual 53, 3), (166, .ireturn, 1), (167, .aload_n 0, 1), (168, .aload_n 1, 1), (169, .aload 4, 2), (171, .aload_n 3, 1), (172, .invokevirtual 57, 3), (175, .ireturn, 1), (176, .aload_n 0, 1), (177, .aload_n 1, 1), (178, .aload 4, 2), (180, .aload 5, 2), (182, .aload_n 3, 1), (183, .invokevirtual 60, 3), (186, .ireturn, 1)]
theorem dtX3_reckon_153_2_ok : dcAll cX3_reckon dtX3_reckon_153_2 = true := by decide +kernel
theorem dX3_reckon_153 : decode cX3_reckon 153 = .ok (.goto 5, 3) := dc_of dtX3_reckon_153_2_ok (i := 0) rfl
theorem dX3_reckon_156 : decode cX3_reckon 156 = .ok (.bipush (-3), 2) := dc_of dtX3_reckon_153_2_ok (i := 1) rfl
theorem dX3_reckon_158 : decode cX3_reckon 158 = .ok (.ireturn, 1) := dc_of dtX3_reckon_153_2_ok (i := 2) rfl
theorem dX3_reckon_159 : decode cX3_reckon 159 = .ok (.aload_n 0, 1) := dc_of dtX3_reckon_153_2_ok (i := 3) rfl
theorem dX3_reckon_160 : decode cX3_reckon 160 = .ok (.aload 4, 2) := dc_of dtX3_reckon_153_2_ok (i := 4) rfl
theorem dX3_reckon_162 : decode cX3_reckon 162 = .ok (.aload_n 3, 1) := dc_of dtX3_reckon_153_2_ok (i := 5) rfl
theorem dX3_reckon_163 : decode cX3_reckon 163 = .ok (.invokevirtual 53, 3) := dc_of dtX3_reckon_153_2_ok (i := 6) rfl
theorem dX3_reckon_166 : decode cX3_reckon 166 = .ok (.ireturn, 1) := dc_of dtX3_reckon_153_2_ok (i := 7) rfl
theorem dX3_reckon_167 : decode cX3_reckon 167 = .ok (.aload_n 0, 1) := dc_of dtX3_reckon_153_2_ok (i := 8) rfl
theorem dX3_reckon_168 : decode cX3_reckon 168 = .ok (.aload_n 1, 1) := dc_of dtX3_reckon_153_2_ok (i := 9) rfl
theorem dX3_reckon_169 : decode cX3_reckon 169 = .ok (.aload 4, 2) := dc_of dtX3_reckon_153_2_ok (i := 10) rfl
theorem dX3_reckon_171 : decode cX3_reckon 171 = .ok (.aload_n 3, 1) := dc_of dtX3_reckon_153_2_ok (i := 11) rfl
theorem dX3_reckon_172 : decode cX3_reckon 172 = .ok (.invokevirtual 57, 3) := dc_of dtX3_reckon_153_2_ok (i := 12) rfl
theorem dX3_reckon_175 : decode cX3_reckon 175 = .ok (.ireturn, 1) := dc_of dtX3_reckon_153_2_ok (i := 13) rfl
theorem dX3_reckon_176 : decode cX3_reckon 176 = .ok (.aload_n 0, 1) := dc_of dtX3_reckon_153_2_ok (i := 14) rfl
theorem dX3_reckon_177 : decode cX3_reckon 177 = .ok (.aload_n 1, 1) := dc_of dtX3_reckon_153_2_ok (i := 15) rfl
theorem dX3_reckon_178 : decode cX3_reckon 178 = .ok (.aload 4, 2) := dc_of dtX3_reckon_153_2_ok (i := 16) rfl
theorem dX3_reckon_180 : decode cX3_reckon 180 = .ok (.aload 5, 2) := dc_of dtX3_reckon_153_2_ok (i := 17) rfl
theorem dX3_reckon_182 : decode cX3_reckon 182 = .ok (.aload_n 3, 1) := dc_of dtX3_reckon_153_2_ok (i := 18) rfl
theorem dX3_reckon_183 : decode cX3_reckon 183 = .ok (.invokevirtual 60, 3) := dc_of dtX3_reckon_153_2_ok (i := 19) rfl
theorem dX3_reckon_186 : decode cX3_reckon 186 = .ok (.ireturn, 1) := dc_of dtX3_reckon_153_2_ok (i := 20) rfl
def dtX3_clearKey_0_0 : List (Nat × Instr × Nat) := [(0, .iconst 0, 1), (1, .istore_n 1, 1), (2, .iload_n 1, 1), (3, .aload_n 0, 1), (4, .getfield 11, 3), (7, .arraylength, 1), (8, .if_icmp .ge 16, 3), (11, .aload_n 0, 1), (12, .getfield 11, 3), (15, .iload_n 1, 1), (16, .iconst 0, 1), (17, .iastore, 1), (18, .iinc 1 1, 3), (21, .goto (-19), 3), (24, .return_, 1)]
theorem dtX3_clearKey_0_0_ok : dcAll cX3_clearKey dtX3_clearKey_0_0 = true := by decide +kernel
theorem dX3_clearKey_0 : decode cX3_clearKey 0 = .ok (.iconst 0, 1) := dc_of dtX3_clearKey_0_0_ok (i := 0) rfl
theorem dX3_clearKey_1 : decode cX3_clearKey 1 = .ok (.istore_n 1, 1) := dc_of dtX3_clearKey_0_0_ok (i := 1) rfl
theorem dX3_clearKey_2 : decode cX3_clearKey 2 = .ok (.iload_n 1, 1) := dc_of dtX3_clearKey_0_0_ok (i := 2) rfl
theorem dX3_clearKey_3 : decode cX3_clearKey 3 = .ok (.aload_n 0, 1) := dc_of dtX3_clearKey_0_0_ok (i := 3) rfl
theorem dX3_clearKey_4 : decode cX3_clearKey 4 = .ok (.getfield 11, 3) := dc_of dtX3_clearKey_0_0_ok (i := 4) rfl
theorem dX3_clearKey_7 : decode cX3_clearKey 7 = .ok (.arraylength, 1) := dc_of dtX3_clearKey_0_0_ok (i := 5) rfl
theorem dX3_clearKey_8 : decode cX3_clearKey 8 = .ok (.if_icmp .ge 16, 3) := dc_of dtX3_clearKey_0_0_ok (i := 6) rfl
theorem dX3_clearKey_11 : decode cX3_clearKey 11 = .ok (.aload_n 0, 1) := dc_of dtX3_clearKey_0_0_ok (i := 7) rfl
theorem dX3_clearKey_12 : decode cX3_clearKey 12 = .ok (.getfield 11, 3) := dc_of dtX3_clearKey_0_0_ok (i := 8) rfl
theorem dX3_clearKey_15 : decode cX3_clearKey 15 = .ok (.iload_n 1, 1) := dc_of dtX3_clearKey_0_0_ok (i := 9) rfl
theorem dX3_clearKey_16 : decode cX3_clearKey 16 = .ok (.iconst 0, 1) := dc_of dtX3_clearKey_0_0_ok (i := 10) rfl
theorem dX3_clearKey_17 : decode cX3_clearKey 17 = .ok (.iastore, 1) := dc_of dtX3_clearKey_0_0_ok (i := 11) rfl
theorem dX3_clearKey_18 : decode cX3_clearKey 18 = .ok (.iinc 1 1, 3) := dc_of dtX3_clearKey_0_0_ok (i := 12) rfl
theorem dX3_clearKey_21 : decode cX3_clearKey 21 = .ok (.goto (-19), 3) := dc_of dtX3_clearKey_0_0_ok (i := 13) rfl
theorem dX3_clearKey_24 : decode cX3_clearKey 24 = .ok (.return_, 1) := dc_of dtX3_clearKey_0_0_ok (i := 14) rfl
set_option maxRecDepth 20000 in
theorem gw_wsX0_holds : wsX0_holds.all goodWord = true := by decide +kernel
set_option maxRecDepth 20000 in
theorem ggX3_select_X0_holds : GoodIn wsX3_select wsX0_holds := goodIn_r _ [7, 8, 9, 31, 32, 33, 34, 35, 36, 37, 38, 39, 40, 41, 42, 43, 44, 45] rfl gw_wsX0_holds
set_option maxRecDepth 20000 in
theorem gX3_select_X0_holds : GoodIn wsX3_select (wsV RX3 66 RX0 yX0_holds wsX0_holds) := goodIn_app (goodIn_of _ (by decide +kernel)) ggX3_select_X0_holds
set_option maxRecDepth 20000 in
theorem gw_wsX4_amount : wsX4_amount.all goodWord = true := by decide +kernel
set_option maxRecDepth 20000 in
theorem ggX3_select_X4_amount : GoodIn wsX3_select wsX4_amount := goodIn_r _ [14, 15, 16, 27, 28, 29, 30] rfl gw_wsX4_amount
set_option maxRecDepth 20000 in
theorem gX3_select_X4_amount : GoodIn wsX3_select (wsV RX3 70 RX4 yX4_amount wsX4_amount) := goodIn_app (goodIn_of _ (by decide +kernel)) ggX3_select_X4_amount
set_option maxRecDepth 20000 in
theorem gw_wsX4_append : wsX4_append.all goodWord = true := by decide +kernel
set_option maxRecDepth 20000 in
theorem ggX3_select_X4_append : GoodIn wsX3_select wsX4_append := goodIn_r _ [20, 21, 22, 15, 16, 23, 24, 25, 26, 27, 28, 29, 30] rfl gw_wsX4_append
set_option maxRecDepth 20000 in
theorem gX3_select_X4_append : GoodIn wsX3_select (wsV RX3 74 RX4 yX4_append wsX4_append) := goodIn_app (goodIn_of _ (by decide +kernel)) ggX3_select_X4_append
def dtX3_select_0_0 : List (Nat × Instr × Nat) := [(0, .iconst 0, 1), (1, .istore 4, 2), (3, .iload 4, 2), (5, .aload_n 2, 1), (6, .getfield 23, 3), (9, .if_icmp .ge 44, 3), (12, .aload_n 1, 1), (13, .aload_n 2, 1), (14, .getfield 63, 3), (17, .iload 4, 2), (19, .bipush 6, 2), (21, .imul, 1), (22, .invokevirtual 66, 3), (25, .ifCond .eq 22, 3), (28, .aload_n 3, 1), (29, .aload_n 2, 1), (30, .iload 4, 2), (32, .aload_n 2, 1), (33, .iload 4, 2), (35, .invokevirtual 70, 3), (38, .invokevirtual 74, 3), (41, .ifCond .ne 6, 3), (44, .bipush (-3), 2), (46, .ireturn, 1), (47, .iinc 4 1, 3), (50, .goto (-47), 3), (53, .iconst 0, 1), (54, .ireturn, 1)]
theorem dtX3_select_0_0_ok : dcAll cX3_select dtX3_select_0_0 = true := by decide +kernel
theorem dX3_select_0 : decode cX3_select 0 = .ok (.iconst 0, 1) := dc_of dtX3_select_0_0_ok (i := 0) rfl
theorem dX3_select_1 : decode cX3_select 1 = .ok (.istore 4, 2) := dc_of dtX3_select_0_0_ok (i := 1) rfl
theorem dX3_select_3 : decode cX3_select 3 = .ok (.iload 4, 2) := dc_of dtX3_select_0_0_ok (i := 2) rfl
theorem dX3_select_5 : decode cX3_select 5 = .ok (.aload_n 2, 1) := dc_of dtX3_select_0_0_ok (i := 3) rfl
theorem dX3_select_6 : decode cX3_select 6 = .ok (.getfield 23, 3) := dc_of dtX3_select_0_0_ok (i := 4) rfl
theorem dX3_select_9 : decode cX3_select 9 = .ok (.if_icmp .ge 44, 3) := dc_of dtX3_select_0_0_ok (i := 5) rfl
theorem dX3_select_12 : decode cX3_select 12 = .ok (.aload_n 1, 1) := dc_of dtX3_select_0_0_ok (i := 6) rfl
theorem dX3_select_13 : decode cX3_select 13 = .ok (.aload_n 2, 1) := dc_of dtX3_select_0_0_ok (i := 7) rfl
theorem dX3_select_14 : decode cX3_select 14 = .ok (.getfield 63, 3) := dc_of dtX3_select_0_0_ok (i := 8) rfl
theorem dX3_select_17 : decode cX3_select 17 = .ok (.iload 4, 2) := dc_of dtX3_select_0_0_ok (i := 9) rfl
theorem dX3_select_19 : decode cX3_select 19 = .ok (.bipush 6, 2) := dc_of dtX3_select_0_0_ok (i := 10) rfl
theorem dX3_select_21 : decode cX3_select 21 = .ok (.imul, 1) := dc_of dtX3_select_0_0_ok (i := 11) rfl
theorem dX3_select_22 : decode cX3_select 22 = .ok (.invokevirtual 66, 3) := dc_of dtX3_select_0_0_ok (i := 12) rfl
theorem dX3_select_25 : decode cX3_select 25 = .ok (.ifCond .eq 22, 3) := dc_of dtX3_select_0_0_ok (i := 13) rfl
theorem dX3_select_28 : decode cX3_select 28 = .ok (.aload_n 3, 1) := dc_of dtX3_select_0_0_ok (i := 14) rfl
theorem dX3_select_29 : decode cX3_select 29 = .ok (.aload_n 2, 1) := dc_of dtX3_select_0_0_ok (i := 15) rfl
theorem dX3_select_30 : decode cX3_select 30 = .ok (.iload 4, 2) := dc_of dtX3_select_0_0_ok (i := 16) rfl
theorem dX3_select_32 : decode cX3_select 32 = .ok (.aload_n 2, 1) := dc_of dtX3_select_0_0_ok (i := 17) rfl
theorem dX3_select_33 : decode cX3_select 33 = .ok (.iload 4, 2) := dc_of dtX3_select_0_0_ok (i := 18) rfl
theorem dX3_select_35 : decode cX3_select 35 = .ok (.invokevirtual 70, 3) := dc_of dtX3_select_0_0_ok (i := 19) rfl
theorem dX3_select_38 : decode cX3_select 38 = .ok (.invokevirtual 74, 3) := dc_of dtX3_select_0_0_ok (i := 20) rfl
theorem dX3_select_41 : decode cX3_select 41 = .ok (.ifCond .ne 6, 3) := dc_of dtX3_select_0_0_ok (i := 21) rfl
theorem dX3_select_44 : decode cX3_select 44 = .ok (.bipush (-3), 2) := dc_of dtX3_select_0_0_ok (i := 22) rfl
theorem dX3_select_46 : decode cX3_select 46 = .ok (.ireturn, 1) := dc_of dtX3_select_0_0_ok (i := 23) rfl
theorem dX3_select_47 : decode cX3_select 47 = .ok (.iinc 4 1, 3) := dc_of dtX3_select_0_0_ok (i := 24) rfl
theorem dX3_select_50 : decode cX3_select 50 = .ok (.goto (-47), 3) := dc_of dtX3_select_0_0_ok (i := 25) rfl
theorem dX3_select_53 : decode cX3_select 53 = .ok (.iconst 0, 1) := dc_of dtX3_select_0_0_ok (i := 26) rfl
theorem dX3_select_54 : decode cX3_select 54 = .ok (.ireturn, 1) := dc_of dtX3_select_0_0_ok (i := 27) rfl
set_option maxRecDepth 20000 in
theorem gw_wsX3_clearKey : wsX3_clearKey.all goodWord = true := by decide +kernel
set_option maxRecDepth 20000 in
theorem ggX3_project_X3_clearKey : GoodIn wsX3_project wsX3_clearKey := goodIn_r _ [8, 3, 58, 59, 60] rfl gw_wsX3_clearKey
set_option maxRecDepth 20000 in
theorem gX3_project_X3_clearKey : GoodIn wsX3_project (wsV RX3 78 RX3 yX3_clearKey wsX3_clearKey) := goodIn_app (goodIn_of _ (by decide +kernel)) ggX3_project_X3_clearKey
set_option maxRecDepth 20000 in
theorem gw_wsX0_fillTerms : wsX0_fillTerms.all goodWord = true := by decide +kernel
set_option maxRecDepth 20000 in
theorem ggX3_project_X0_fillTerms : GoodIn wsX3_project wsX0_fillTerms := goodIn_r _ [13, 14, 15, 61, 62, 63, 64, 65, 66, 67, 68, 69, 70, 71, 72, 73, 74, 75] rfl gw_wsX0_fillTerms
set_option maxRecDepth 20000 in
theorem gX3_project_X0_fillTerms : GoodIn wsX3_project (wsV RX3 81 RX0 yX0_fillTerms wsX0_fillTerms) := goodIn_app (goodIn_of _ (by decide +kernel)) ggX3_project_X0_fillTerms
set_option maxRecDepth 20000 in
theorem ggX3_project_X4_amount : GoodIn wsX3_project wsX4_amount := goodIn_r _ [20, 21, 22, 54, 55, 56, 57] rfl gw_wsX4_amount
set_option maxRecDepth 20000 in
theorem gX3_project_X4_amount : GoodIn wsX3_project (wsV RX3 70 RX4 yX4_amount wsX4_amount) := goodIn_app (goodIn_of _ (by decide +kernel)) ggX3_project_X4_amount
set_option maxRecDepth 20000 in
theorem gw_wsX4_addAmount : wsX4_addAmount.all goodWord = true := by decide +kernel
set_option maxRecDepth 20000 in
theorem ggX3_project_X4_addAmount : GoodIn wsX3_project wsX4_addAmount := goodIn_r _ [26, 22, 27, 28, 29, 19, 30, 31, 32, 33, 34, 35, 21, 36, 37, 38, 39, 40, 41, 42, 43, 44, 45, 17, 18, 20, 46, 47, 48, 49, 50, 51, 52, 53, 54, 55, 56, 57] rfl gw_wsX4_addAmount
set_option maxRecDepth 20000 in
theorem gX3_project_X4_addAmount : GoodIn wsX3_project (wsV RX3 85 RX4 yX4_addAmount wsX4_addAmount) := goodIn_app (goodIn_of _ (by decide +kernel)) ggX3_project_X4_addAmount
def dtX3_project_0_0 : List (Nat × Instr × Nat) := [(0, .aload_n 0, 1), (1, .invokevirtual 78, 3), (4, .iconst 0, 1), (5, .istore 4, 2), (7, .iload 4, 2), (9, .aload_n 2, 1), (10, .getfield 23, 3), (13, .if_icmp .ge 46, 3), (16, .aload_n 1, 1), (17, .aload_n 2, 1), (18, .getfield 63, 3), (21, .iload 4, 2), (23, .bipush 6, 2), (25, .imul, 1), (26, .aload_n 0, 1), (27, .getfield 11, 3), (30, .invokevirtual 81, 3), (33, .aload_n 3, 1), (34, .aload_n 0, 1), (35, .getfield 11, 3), (38, .aload_n 2, 1), (39, .iload 4, 2), (41, .invokevirtual 70, 3), (44, .invokevirtual 85, 3), (47, .ifCond .ne 6, 3), (50, .bipush (-3), 2), (52, .ireturn, 1), (53, .iinc 4 1, 3), (56, .goto (-49), 3), (59, .iconst 0, 1), (60, .ireturn, 1)]
theorem dtX3_project_0_0_ok : dcAll cX3_project dtX3_project_0_0 = true := by decide +kernel
theorem dX3_project_0 : decode cX3_project 0 = .ok (.aload_n 0, 1) := dc_of dtX3_project_0_0_ok (i := 0) rfl
theorem dX3_project_1 : decode cX3_project 1 = .ok (.invokevirtual 78, 3) := dc_of dtX3_project_0_0_ok (i := 1) rfl
theorem dX3_project_4 : decode cX3_project 4 = .ok (.iconst 0, 1) := dc_of dtX3_project_0_0_ok (i := 2) rfl
theorem dX3_project_5 : decode cX3_project 5 = .ok (.istore 4, 2) := dc_of dtX3_project_0_0_ok (i := 3) rfl
theorem dX3_project_7 : decode cX3_project 7 = .ok (.iload 4, 2) := dc_of dtX3_project_0_0_ok (i := 4) rfl
theorem dX3_project_9 : decode cX3_project 9 = .ok (.aload_n 2, 1) := dc_of dtX3_project_0_0_ok (i := 5) rfl
theorem dX3_project_10 : decode cX3_project 10 = .ok (.getfield 23, 3) := dc_of dtX3_project_0_0_ok (i := 6) rfl
theorem dX3_project_13 : decode cX3_project 13 = .ok (.if_icmp .ge 46, 3) := dc_of dtX3_project_0_0_ok (i := 7) rfl
theorem dX3_project_16 : decode cX3_project 16 = .ok (.aload_n 1, 1) := dc_of dtX3_project_0_0_ok (i := 8) rfl
theorem dX3_project_17 : decode cX3_project 17 = .ok (.aload_n 2, 1) := dc_of dtX3_project_0_0_ok (i := 9) rfl
theorem dX3_project_18 : decode cX3_project 18 = .ok (.getfield 63, 3) := dc_of dtX3_project_0_0_ok (i := 10) rfl
theorem dX3_project_21 : decode cX3_project 21 = .ok (.iload 4, 2) := dc_of dtX3_project_0_0_ok (i := 11) rfl
theorem dX3_project_23 : decode cX3_project 23 = .ok (.bipush 6, 2) := dc_of dtX3_project_0_0_ok (i := 12) rfl
theorem dX3_project_25 : decode cX3_project 25 = .ok (.imul, 1) := dc_of dtX3_project_0_0_ok (i := 13) rfl
theorem dX3_project_26 : decode cX3_project 26 = .ok (.aload_n 0, 1) := dc_of dtX3_project_0_0_ok (i := 14) rfl
theorem dX3_project_27 : decode cX3_project 27 = .ok (.getfield 11, 3) := dc_of dtX3_project_0_0_ok (i := 15) rfl
theorem dX3_project_30 : decode cX3_project 30 = .ok (.invokevirtual 81, 3) := dc_of dtX3_project_0_0_ok (i := 16) rfl
theorem dX3_project_33 : decode cX3_project 33 = .ok (.aload_n 3, 1) := dc_of dtX3_project_0_0_ok (i := 17) rfl
theorem dX3_project_34 : decode cX3_project 34 = .ok (.aload_n 0, 1) := dc_of dtX3_project_0_0_ok (i := 18) rfl
theorem dX3_project_35 : decode cX3_project 35 = .ok (.getfield 11, 3) := dc_of dtX3_project_0_0_ok (i := 19) rfl
theorem dX3_project_38 : decode cX3_project 38 = .ok (.aload_n 2, 1) := dc_of dtX3_project_0_0_ok (i := 20) rfl
theorem dX3_project_39 : decode cX3_project 39 = .ok (.iload 4, 2) := dc_of dtX3_project_0_0_ok (i := 21) rfl
theorem dX3_project_41 : decode cX3_project 41 = .ok (.invokevirtual 70, 3) := dc_of dtX3_project_0_0_ok (i := 22) rfl
theorem dX3_project_44 : decode cX3_project 44 = .ok (.invokevirtual 85, 3) := dc_of dtX3_project_0_0_ok (i := 23) rfl
theorem dX3_project_47 : decode cX3_project 47 = .ok (.ifCond .ne 6, 3) := dc_of dtX3_project_0_0_ok (i := 24) rfl
theorem dX3_project_50 : decode cX3_project 50 = .ok (.bipush (-3), 2) := dc_of dtX3_project_0_0_ok (i := 25) rfl
theorem dX3_project_52 : decode cX3_project 52 = .ok (.ireturn, 1) := dc_of dtX3_project_0_0_ok (i := 26) rfl
theorem dX3_project_53 : decode cX3_project 53 = .ok (.iinc 4 1, 3) := dc_of dtX3_project_0_0_ok (i := 27) rfl
theorem dX3_project_56 : decode cX3_project 56 = .ok (.goto (-49), 3) := dc_of dtX3_project_0_0_ok (i := 28) rfl
theorem dX3_project_59 : decode cX3_project 59 = .ok (.iconst 0, 1) := dc_of dtX3_project_0_0_ok (i := 29) rfl
theorem dX3_project_60 : decode cX3_project 60 = .ok (.ireturn, 1) := dc_of dtX3_project_0_0_ok (i := 30) rfl
set_option maxRecDepth 20000 in
theorem ggX3_join_X3_clearKey : GoodIn wsX3_join wsX3_clearKey := goodIn_r _ [8, 3, 72, 73, 74] rfl gw_wsX3_clearKey
set_option maxRecDepth 20000 in
theorem gX3_join_X3_clearKey : GoodIn wsX3_join (wsV RX3 78 RX3 yX3_clearKey wsX3_clearKey) := goodIn_app (goodIn_of _ (by decide +kernel)) ggX3_join_X3_clearKey
set_option maxRecDepth 20000 in
theorem gw_wsX0_pairsAreAlike : wsX0_pairsAreAlike.all goodWord = true := by decide +kernel
set_option maxRecDepth 20000 in
theorem ggX3_join_X0_pairsAreAlike : GoodIn wsX3_join wsX0_pairsAreAlike := goodIn_r _ [13, 14, 15, 75, 76, 77, 78, 79, 80, 81, 82, 83, 84, 85, 86, 87, 88, 89] rfl gw_wsX0_pairsAreAlike
set_option maxRecDepth 20000 in
theorem gX3_join_X0_pairsAreAlike : GoodIn wsX3_join (wsV RX3 88 RX0 yX0_pairsAreAlike wsX0_pairsAreAlike) := goodIn_app (goodIn_of _ (by decide +kernel)) ggX3_join_X0_pairsAreAlike
set_option maxRecDepth 20000 in
theorem gw_wsX3_fillJoined : wsX3_fillJoined.all goodWord = true := by decide +kernel
set_option maxRecDepth 20000 in
theorem ggX3_join_X3_fillJoined : GoodIn wsX3_join wsX3_fillJoined := goodIn_r _ [19, 20, 3, 21, 22, 23, 24, 25, 26, 27, 28, 29, 30, 12, 31, 14, 15, 75, 76, 77, 78, 79, 80, 81, 82, 83, 84, 85, 86, 87, 88, 89, 72, 73, 74, 68, 69, 70, 71] rfl gw_wsX3_fillJoined
set_option maxRecDepth 20000 in
theorem gX3_join_X3_fillJoined : GoodIn wsX3_join (wsV RX3 92 RX3 yX3_fillJoined wsX3_fillJoined) := goodIn_app (goodIn_of _ (by decide +kernel)) ggX3_join_X3_fillJoined
set_option maxRecDepth 20000 in
theorem ggX3_join_X4_amount : GoodIn wsX3_join wsX4_amount := goodIn_r _ [35, 27, 36, 68, 69, 70, 71] rfl gw_wsX4_amount
set_option maxRecDepth 20000 in
theorem gX3_join_X4_amount : GoodIn wsX3_join (wsV RX3 70 RX4 yX4_amount wsX4_amount) := goodIn_app (goodIn_of _ (by decide +kernel)) ggX3_join_X4_amount
set_option maxRecDepth 20000 in
theorem ggX3_join_X4_addAmount : GoodIn wsX3_join wsX4_addAmount := goodIn_r _ [40, 36, 41, 42, 43, 25, 44, 45, 46, 47, 48, 49, 27, 50, 51, 52, 53, 54, 55, 56, 57, 58, 59, 33, 34, 35, 60, 61, 62, 63, 64, 65, 66, 67, 68, 69, 70, 71] rfl gw_wsX4_addAmount
set_option maxRecDepth 20000 in
theorem gX3_join_X4_addAmount : GoodIn wsX3_join (wsV RX3 85 RX4 yX4_addAmount wsX4_addAmount) := goodIn_app (goodIn_of _ (by decide +kernel)) ggX3_join_X4_addAmount
def dtX3_join_0_0 : List (Nat × Instr × Nat) := [(0, .iconst 0, 1), (1, .istore 5, 2), (3, .aload_n 0, 1), (4, .invokevirtual 78, 3), (7, .iconst 0, 1), (8, .istore 6, 2), (10, .iload 6, 2), (12, .aload_n 2, 1), (13, .getfield 23, 3), (16, .if_icmp .ge 102, 3), (19, .iconst 0, 1), (20, .istore 7, 2), (22, .iload 7, 2), (24, .aload_n 3, 1), (25, .getfield 23, 3), (28, .if_icmp .ge 84, 3), (31, .aload_n 1, 1), (32, .aload_n 2, 1), (33, .getfield 63, 3), (36, .iload 6, 2), (38, .bipush 6, 2), (40, .imul, 1), (41, .aload_n 3, 1), (42, .getfield 63, 3), (45, .iload 7, 2), (47, .bipush 6, 2), (49, .imul, 1), (50, .invokevirtual 88, 3), (53, .ifCond .eq 53, 3), (56, .iinc 5 1, 3), (59, .aload_n 0, 1), (60, .aload_n 1, 1)]
theorem dtX3_join_0_0_ok : dcAll cX3_join dtX3_join_0_0 = true := by decide +kernel
theorem dX3_join_0 : decode cX3_join 0 = .ok (.iconst 0, 1) := dc_of dtX3_join_0_0_ok (i := 0) rfl
theorem dX3_join_1 : decode cX3_join 1 = .ok (.istore 5, 2) := dc_of dtX3_join_0_0_ok (i := 1) rfl
theorem dX3_join_3 : decode cX3_join 3 = .ok (.aload_n 0, 1) := dc_of dtX3_join_0_0_ok (i := 2) rfl
theorem dX3_join_4 : decode cX3_join 4 = .ok (.invokevirtual 78, 3) := dc_of dtX3_join_0_0_ok (i := 3) rfl
theorem dX3_join_7 : decode cX3_join 7 = .ok (.iconst 0, 1) := dc_of dtX3_join_0_0_ok (i := 4) rfl
theorem dX3_join_8 : decode cX3_join 8 = .ok (.istore 6, 2) := dc_of dtX3_join_0_0_ok (i := 5) rfl
theorem dX3_join_10 : decode cX3_join 10 = .ok (.iload 6, 2) := dc_of dtX3_join_0_0_ok (i := 6) rfl
theorem dX3_join_12 : decode cX3_join 12 = .ok (.aload_n 2, 1) := dc_of dtX3_join_0_0_ok (i := 7) rfl
theorem dX3_join_13 : decode cX3_join 13 = .ok (.getfield 23, 3) := dc_of dtX3_join_0_0_ok (i := 8) rfl
theorem dX3_join_16 : decode cX3_join 16 = .ok (.if_icmp .ge 102, 3) := dc_of dtX3_join_0_0_ok (i := 9) rfl
theorem dX3_join_19 : decode cX3_join 19 = .ok (.iconst 0, 1) := dc_of dtX3_join_0_0_ok (i := 10) rfl
theorem dX3_join_20 : decode cX3_join 20 = .ok (.istore 7, 2) := dc_of dtX3_join_0_0_ok (i := 11) rfl
theorem dX3_join_22 : decode cX3_join 22 = .ok (.iload 7, 2) := dc_of dtX3_join_0_0_ok (i := 12) rfl
theorem dX3_join_24 : decode cX3_join 24 = .ok (.aload_n 3, 1) := dc_of dtX3_join_0_0_ok (i := 13) rfl
theorem dX3_join_25 : decode cX3_join 25 = .ok (.getfield 23, 3) := dc_of dtX3_join_0_0_ok (i := 14) rfl
theorem dX3_join_28 : decode cX3_join 28 = .ok (.if_icmp .ge 84, 3) := dc_of dtX3_join_0_0_ok (i := 15) rfl
theorem dX3_join_31 : decode cX3_join 31 = .ok (.aload_n 1, 1) := dc_of dtX3_join_0_0_ok (i := 16) rfl
theorem dX3_join_32 : decode cX3_join 32 = .ok (.aload_n 2, 1) := dc_of dtX3_join_0_0_ok (i := 17) rfl
theorem dX3_join_33 : decode cX3_join 33 = .ok (.getfield 63, 3) := dc_of dtX3_join_0_0_ok (i := 18) rfl
theorem dX3_join_36 : decode cX3_join 36 = .ok (.iload 6, 2) := dc_of dtX3_join_0_0_ok (i := 19) rfl
theorem dX3_join_38 : decode cX3_join 38 = .ok (.bipush 6, 2) := dc_of dtX3_join_0_0_ok (i := 20) rfl
theorem dX3_join_40 : decode cX3_join 40 = .ok (.imul, 1) := dc_of dtX3_join_0_0_ok (i := 21) rfl
theorem dX3_join_41 : decode cX3_join 41 = .ok (.aload_n 3, 1) := dc_of dtX3_join_0_0_ok (i := 22) rfl
theorem dX3_join_42 : decode cX3_join 42 = .ok (.getfield 63, 3) := dc_of dtX3_join_0_0_ok (i := 23) rfl
theorem dX3_join_45 : decode cX3_join 45 = .ok (.iload 7, 2) := dc_of dtX3_join_0_0_ok (i := 24) rfl
theorem dX3_join_47 : decode cX3_join 47 = .ok (.bipush 6, 2) := dc_of dtX3_join_0_0_ok (i := 25) rfl
theorem dX3_join_49 : decode cX3_join 49 = .ok (.imul, 1) := dc_of dtX3_join_0_0_ok (i := 26) rfl
theorem dX3_join_50 : decode cX3_join 50 = .ok (.invokevirtual 88, 3) := dc_of dtX3_join_0_0_ok (i := 27) rfl
theorem dX3_join_53 : decode cX3_join 53 = .ok (.ifCond .eq 53, 3) := dc_of dtX3_join_0_0_ok (i := 28) rfl
theorem dX3_join_56 : decode cX3_join 56 = .ok (.iinc 5 1, 3) := dc_of dtX3_join_0_0_ok (i := 29) rfl
theorem dX3_join_59 : decode cX3_join 59 = .ok (.aload_n 0, 1) := dc_of dtX3_join_0_0_ok (i := 30) rfl
theorem dX3_join_60 : decode cX3_join 60 = .ok (.aload_n 1, 1) := dc_of dtX3_join_0_0_ok (i := 31) rfl
def dtX3_join_61_1 : List (Nat × Instr × Nat) := [(61, .aload_n 2, 1), (62, .iload 6, 2), (64, .aload_n 3, 1), (65, .iload 7, 2), (67, .invokevirtual 92, 3), (70, .iload 5, 2), (72, .sipush 1500, 3), (75, .if_icmp .gt 28, 3), (78, .aload 4, 2), (80, .aload_n 0, 1), (81, .getfield 11, 3), (84, .aload_n 2, 1), (85, .iload 6, 2), (87, .invokevirtual 70, 3), (90, .aload_n 3, 1), (91, .iload 7, 2), (93, .invokevirtual 70, 3), (96, .imul, 1), (97, .invokevirtual 85, 3), (100, .ifCond .ne 6, 3), (103, .bipush (-3), 2), (105, .ireturn, 1), (106, .iinc 7 1, 3), (109, .goto (-87), 3), (112, .iinc 6 1, 3), (115, .goto (-105), 3), (118, .iconst 0, 1), (119, .ireturn, 1)]
theorem dtX3_join_61_1_ok : dcAll cX3_join dtX3_join_61_1 = true := by decide +kernel
theorem dX3_join_61 : decode cX3_join 61 = .ok (.aload_n 2, 1) := dc_of dtX3_join_61_1_ok (i := 0) rfl
theorem dX3_join_62 : decode cX3_join 62 = .ok (.iload 6, 2) := dc_of dtX3_join_61_1_ok (i := 1) rfl
theorem dX3_join_64 : decode cX3_join 64 = .ok (.aload_n 3, 1) := dc_of dtX3_join_61_1_ok (i := 2) rfl
theorem dX3_join_65 : decode cX3_join 65 = .ok (.iload 7, 2) := dc_of dtX3_join_61_1_ok (i := 3) rfl
theorem dX3_join_67 : decode cX3_join 67 = .ok (.invokevirtual 92, 3) := dc_of dtX3_join_61_1_ok (i := 4) rfl
theorem dX3_join_70 : decode cX3_join 70 = .ok (.iload 5, 2) := dc_of dtX3_join_61_1_ok (i := 5) rfl
theorem dX3_join_72 : decode cX3_join 72 = .ok (.sipush 1500, 3) := dc_of dtX3_join_61_1_ok (i := 6) rfl
theorem dX3_join_75 : decode cX3_join 75 = .ok (.if_icmp .gt 28, 3) := dc_of dtX3_join_61_1_ok (i := 7) rfl
theorem dX3_join_78 : decode cX3_join 78 = .ok (.aload 4, 2) := dc_of dtX3_join_61_1_ok (i := 8) rfl
theorem dX3_join_80 : decode cX3_join 80 = .ok (.aload_n 0, 1) := dc_of dtX3_join_61_1_ok (i := 9) rfl
theorem dX3_join_81 : decode cX3_join 81 = .ok (.getfield 11, 3) := dc_of dtX3_join_61_1_ok (i := 10) rfl
theorem dX3_join_84 : decode cX3_join 84 = .ok (.aload_n 2, 1) := dc_of dtX3_join_61_1_ok (i := 11) rfl
theorem dX3_join_85 : decode cX3_join 85 = .ok (.iload 6, 2) := dc_of dtX3_join_61_1_ok (i := 12) rfl
theorem dX3_join_87 : decode cX3_join 87 = .ok (.invokevirtual 70, 3) := dc_of dtX3_join_61_1_ok (i := 13) rfl
theorem dX3_join_90 : decode cX3_join 90 = .ok (.aload_n 3, 1) := dc_of dtX3_join_61_1_ok (i := 14) rfl
theorem dX3_join_91 : decode cX3_join 91 = .ok (.iload 7, 2) := dc_of dtX3_join_61_1_ok (i := 15) rfl
theorem dX3_join_93 : decode cX3_join 93 = .ok (.invokevirtual 70, 3) := dc_of dtX3_join_61_1_ok (i := 16) rfl
theorem dX3_join_96 : decode cX3_join 96 = .ok (.imul, 1) := dc_of dtX3_join_61_1_ok (i := 17) rfl
theorem dX3_join_97 : decode cX3_join 97 = .ok (.invokevirtual 85, 3) := dc_of dtX3_join_61_1_ok (i := 18) rfl
theorem dX3_join_100 : decode cX3_join 100 = .ok (.ifCond .ne 6, 3) := dc_of dtX3_join_61_1_ok (i := 19) rfl
theorem dX3_join_103 : decode cX3_join 103 = .ok (.bipush (-3), 2) := dc_of dtX3_join_61_1_ok (i := 20) rfl
theorem dX3_join_105 : decode cX3_join 105 = .ok (.ireturn, 1) := dc_of dtX3_join_61_1_ok (i := 21) rfl
theorem dX3_join_106 : decode cX3_join 106 = .ok (.iinc 7 1, 3) := dc_of dtX3_join_61_1_ok (i := 22) rfl
theorem dX3_join_109 : decode cX3_join 109 = .ok (.goto (-87), 3) := dc_of dtX3_join_61_1_ok (i := 23) rfl
theorem dX3_join_112 : decode cX3_join 112 = .ok (.iinc 6 1, 3) := dc_of dtX3_join_61_1_ok (i := 24) rfl
theorem dX3_join_115 : decode cX3_join 115 = .ok (.goto (-105), 3) := dc_of dtX3_join_61_1_ok (i := 25) rfl
theorem dX3_join_118 : decode cX3_join 118 = .ok (.iconst 0, 1) := dc_of dtX3_join_61_1_ok (i := 26) rfl
theorem dX3_join_119 : decode cX3_join 119 = .ok (.ireturn, 1) := dc_of dtX3_join_61_1_ok (i := 27) rfl
set_option maxRecDepth 20000 in
theorem gw_wsX4_cell : wsX4_cell.all goodWord = true := by decide +kernel
set_option maxRecDepth 20000 in
theorem ggX3_fillJoined_X4_cell : GoodIn wsX3_fillJoined wsX4_cell := goodIn_r _ [8, 9, 35, 36, 37, 38] rfl gw_wsX4_cell
set_option maxRecDepth 20000 in
theorem gX3_fillJoined_X4_cell : GoodIn wsX3_fillJoined (wsV RX3 99 RX4 yX4_cell wsX4_cell) := goodIn_app (goodIn_of _ (by decide +kernel)) ggX3_fillJoined_X4_cell
set_option maxRecDepth 20000 in
theorem ggX3_fillJoined_X0_tellsSecond : GoodIn wsX3_fillJoined wsX0_tellsSecond := goodIn_r _ [14, 15, 16, 17, 18, 19, 20, 21, 22, 23, 24, 25, 26, 27, 28, 29, 30, 31] rfl gw_wsX0_tellsSecond
set_option maxRecDepth 20000 in
theorem gX3_fillJoined_X0_tellsSecond : GoodIn wsX3_fillJoined (wsV RX3 106 RX0 yX0_tellsSecond wsX0_tellsSecond) := goodIn_app (goodIn_of _ (by decide +kernel)) ggX3_fillJoined_X0_tellsSecond
def dtX3_fillJoined_0_0 : List (Nat × Instr × Nat) := [(0, .iconst 0, 1), (1, .istore 6, 2), (3, .iconst 0, 1), (4, .istore 7, 2), (6, .iload 7, 2), (8, .aload_n 1, 1), (9, .getfield 96, 3), (12, .if_icmp .ge 26, 3), (15, .aload_n 0, 1), (16, .getfield 11, 3), (19, .iload 6, 2), (21, .aload_n 2, 1), (22, .iload_n 3, 1), (23, .iload 7, 2), (25, .invokevirtual 99, 3), (28, .iastore, 1), (29, .iinc 6 1, 3), (32, .iinc 7 1, 3), (35, .goto (-29), 3), (38, .iconst 0, 1), (39, .istore 7, 2), (41, .iload 7, 2), (43, .aload_n 1, 1), (44, .getfield 103, 3), (47, .if_icmp .ge 43, 3), (50, .iload 6, 2), (52, .iconst 4, 1), (53, .if_icmp .ge 37, 3), (56, .aload_n 1, 1), (57, .iload 7, 2), (59, .invokevirtual 106, 3), (62, .ifCond .ne 22, 3)]
theorem dtX3_fillJoined_0_0_ok : dcAll cX3_fillJoined dtX3_fillJoined_0_0 = true := by decide +kernel
theorem dX3_fillJoined_0 : decode cX3_fillJoined 0 = .ok (.iconst 0, 1) := dc_of dtX3_fillJoined_0_0_ok (i := 0) rfl
theorem dX3_fillJoined_1 : decode cX3_fillJoined 1 = .ok (.istore 6, 2) := dc_of dtX3_fillJoined_0_0_ok (i := 1) rfl
theorem dX3_fillJoined_3 : decode cX3_fillJoined 3 = .ok (.iconst 0, 1) := dc_of dtX3_fillJoined_0_0_ok (i := 2) rfl
theorem dX3_fillJoined_4 : decode cX3_fillJoined 4 = .ok (.istore 7, 2) := dc_of dtX3_fillJoined_0_0_ok (i := 3) rfl
theorem dX3_fillJoined_6 : decode cX3_fillJoined 6 = .ok (.iload 7, 2) := dc_of dtX3_fillJoined_0_0_ok (i := 4) rfl
theorem dX3_fillJoined_8 : decode cX3_fillJoined 8 = .ok (.aload_n 1, 1) := dc_of dtX3_fillJoined_0_0_ok (i := 5) rfl
theorem dX3_fillJoined_9 : decode cX3_fillJoined 9 = .ok (.getfield 96, 3) := dc_of dtX3_fillJoined_0_0_ok (i := 6) rfl
theorem dX3_fillJoined_12 : decode cX3_fillJoined 12 = .ok (.if_icmp .ge 26, 3) := dc_of dtX3_fillJoined_0_0_ok (i := 7) rfl
theorem dX3_fillJoined_15 : decode cX3_fillJoined 15 = .ok (.aload_n 0, 1) := dc_of dtX3_fillJoined_0_0_ok (i := 8) rfl
theorem dX3_fillJoined_16 : decode cX3_fillJoined 16 = .ok (.getfield 11, 3) := dc_of dtX3_fillJoined_0_0_ok (i := 9) rfl
theorem dX3_fillJoined_19 : decode cX3_fillJoined 19 = .ok (.iload 6, 2) := dc_of dtX3_fillJoined_0_0_ok (i := 10) rfl
theorem dX3_fillJoined_21 : decode cX3_fillJoined 21 = .ok (.aload_n 2, 1) := dc_of dtX3_fillJoined_0_0_ok (i := 11) rfl
theorem dX3_fillJoined_22 : decode cX3_fillJoined 22 = .ok (.iload_n 3, 1) := dc_of dtX3_fillJoined_0_0_ok (i := 12) rfl
theorem dX3_fillJoined_23 : decode cX3_fillJoined 23 = .ok (.iload 7, 2) := dc_of dtX3_fillJoined_0_0_ok (i := 13) rfl
theorem dX3_fillJoined_25 : decode cX3_fillJoined 25 = .ok (.invokevirtual 99, 3) := dc_of dtX3_fillJoined_0_0_ok (i := 14) rfl
theorem dX3_fillJoined_28 : decode cX3_fillJoined 28 = .ok (.iastore, 1) := dc_of dtX3_fillJoined_0_0_ok (i := 15) rfl
theorem dX3_fillJoined_29 : decode cX3_fillJoined 29 = .ok (.iinc 6 1, 3) := dc_of dtX3_fillJoined_0_0_ok (i := 16) rfl
theorem dX3_fillJoined_32 : decode cX3_fillJoined 32 = .ok (.iinc 7 1, 3) := dc_of dtX3_fillJoined_0_0_ok (i := 17) rfl
theorem dX3_fillJoined_35 : decode cX3_fillJoined 35 = .ok (.goto (-29), 3) := dc_of dtX3_fillJoined_0_0_ok (i := 18) rfl
theorem dX3_fillJoined_38 : decode cX3_fillJoined 38 = .ok (.iconst 0, 1) := dc_of dtX3_fillJoined_0_0_ok (i := 19) rfl
theorem dX3_fillJoined_39 : decode cX3_fillJoined 39 = .ok (.istore 7, 2) := dc_of dtX3_fillJoined_0_0_ok (i := 20) rfl
theorem dX3_fillJoined_41 : decode cX3_fillJoined 41 = .ok (.iload 7, 2) := dc_of dtX3_fillJoined_0_0_ok (i := 21) rfl
theorem dX3_fillJoined_43 : decode cX3_fillJoined 43 = .ok (.aload_n 1, 1) := dc_of dtX3_fillJoined_0_0_ok (i := 22) rfl
theorem dX3_fillJoined_44 : decode cX3_fillJoined 44 = .ok (.getfield 103, 3) := dc_of dtX3_fillJoined_0_0_ok (i := 23) rfl
theorem dX3_fillJoined_47 : decode cX3_fillJoined 47 = .ok (.if_icmp .ge 43, 3) := dc_of dtX3_fillJoined_0_0_ok (i := 24) rfl
theorem dX3_fillJoined_50 : decode cX3_fillJoined 50 = .ok (.iload 6, 2) := dc_of dtX3_fillJoined_0_0_ok (i := 25) rfl
theorem dX3_fillJoined_52 : decode cX3_fillJoined 52 = .ok (.iconst 4, 1) := dc_of dtX3_fillJoined_0_0_ok (i := 26) rfl
theorem dX3_fillJoined_53 : decode cX3_fillJoined 53 = .ok (.if_icmp .ge 37, 3) := dc_of dtX3_fillJoined_0_0_ok (i := 27) rfl
theorem dX3_fillJoined_56 : decode cX3_fillJoined 56 = .ok (.aload_n 1, 1) := dc_of dtX3_fillJoined_0_0_ok (i := 28) rfl
theorem dX3_fillJoined_57 : decode cX3_fillJoined 57 = .ok (.iload 7, 2) := dc_of dtX3_fillJoined_0_0_ok (i := 29) rfl
theorem dX3_fillJoined_59 : decode cX3_fillJoined 59 = .ok (.invokevirtual 106, 3) := dc_of dtX3_fillJoined_0_0_ok (i := 30) rfl
theorem dX3_fillJoined_62 : decode cX3_fillJoined 62 = .ok (.ifCond .ne 22, 3) := dc_of dtX3_fillJoined_0_0_ok (i := 31) rfl
def dtX3_fillJoined_65_1 : List (Nat × Instr × Nat) := [(65, .aload_n 0, 1), (66, .getfield 11, 3), (69, .iload 6, 2), (71, .aload 4, 2), (73, .iload 5, 2), (75, .iload 7, 2), (77, .invokevirtual 99, 3), (80, .iastore, 1), (81, .iinc 6 1, 3), (84, .iinc 7 1, 3), (87, .goto (-46), 3), (90, .return_, 1)]
theorem dtX3_fillJoined_65_1_ok : dcAll cX3_fillJoined dtX3_fillJoined_65_1 = true := by decide +kernel
theorem dX3_fillJoined_65 : decode cX3_fillJoined 65 = .ok (.aload_n 0, 1) := dc_of dtX3_fillJoined_65_1_ok (i := 0) rfl
theorem dX3_fillJoined_66 : decode cX3_fillJoined 66 = .ok (.getfield 11, 3) := dc_of dtX3_fillJoined_65_1_ok (i := 1) rfl
theorem dX3_fillJoined_69 : decode cX3_fillJoined 69 = .ok (.iload 6, 2) := dc_of dtX3_fillJoined_65_1_ok (i := 2) rfl
theorem dX3_fillJoined_71 : decode cX3_fillJoined 71 = .ok (.aload 4, 2) := dc_of dtX3_fillJoined_65_1_ok (i := 3) rfl
theorem dX3_fillJoined_73 : decode cX3_fillJoined 73 = .ok (.iload 5, 2) := dc_of dtX3_fillJoined_65_1_ok (i := 4) rfl
theorem dX3_fillJoined_75 : decode cX3_fillJoined 75 = .ok (.iload 7, 2) := dc_of dtX3_fillJoined_65_1_ok (i := 5) rfl
theorem dX3_fillJoined_77 : decode cX3_fillJoined 77 = .ok (.invokevirtual 99, 3) := dc_of dtX3_fillJoined_65_1_ok (i := 6) rfl
theorem dX3_fillJoined_80 : decode cX3_fillJoined 80 = .ok (.iastore, 1) := dc_of dtX3_fillJoined_65_1_ok (i := 7) rfl
theorem dX3_fillJoined_81 : decode cX3_fillJoined 81 = .ok (.iinc 6 1, 3) := dc_of dtX3_fillJoined_65_1_ok (i := 8) rfl
theorem dX3_fillJoined_84 : decode cX3_fillJoined 84 = .ok (.iinc 7 1, 3) := dc_of dtX3_fillJoined_65_1_ok (i := 9) rfl
theorem dX3_fillJoined_87 : decode cX3_fillJoined 87 = .ok (.goto (-46), 3) := dc_of dtX3_fillJoined_65_1_ok (i := 10) rfl
theorem dX3_fillJoined_90 : decode cX3_fillJoined 90 = .ok (.return_, 1) := dc_of dtX3_fillJoined_65_1_ok (i := 11) rfl
set_option maxRecDepth 20000 in
theorem ggX3_distinct_X4_amount : GoodIn wsX3_distinct wsX4_amount := goodIn_r _ [6, 7, 8, 19, 20, 21, 22] rfl gw_wsX4_amount
set_option maxRecDepth 20000 in
theorem gX3_distinct_X4_amount : GoodIn wsX3_distinct (wsV RX3 70 RX4 yX4_amount wsX4_amount) := goodIn_app (goodIn_of _ (by decide +kernel)) ggX3_distinct_X4_amount
set_option maxRecDepth 20000 in
theorem ggX3_distinct_X4_append : GoodIn wsX3_distinct wsX4_append := goodIn_r _ [12, 13, 14, 7, 8, 15, 16, 17, 18, 19, 20, 21, 22] rfl gw_wsX4_append
set_option maxRecDepth 20000 in
theorem gX3_distinct_X4_append : GoodIn wsX3_distinct (wsV RX3 74 RX4 yX4_append wsX4_append) := goodIn_app (goodIn_of _ (by decide +kernel)) ggX3_distinct_X4_append
def dtX3_distinct_0_0 : List (Nat × Instr × Nat) := [(0, .iconst 0, 1), (1, .istore_n 3, 1), (2, .iload_n 3, 1), (3, .aload_n 1, 1), (4, .getfield 23, 3), (7, .if_icmp .ge 30, 3), (10, .aload_n 1, 1), (11, .iload_n 3, 1), (12, .invokevirtual 70, 3), (15, .ifCond .le 16, 3), (18, .aload_n 2, 1), (19, .aload_n 1, 1), (20, .iload_n 3, 1), (21, .iconst 1, 1), (22, .invokevirtual 74, 3), (25, .ifCond .ne 6, 3), (28, .bipush (-3), 2), (30, .ireturn, 1), (31, .iinc 3 1, 3), (34, .goto (-32), 3), (37, .iconst 0, 1), (38, .ireturn, 1)]
theorem dtX3_distinct_0_0_ok : dcAll cX3_distinct dtX3_distinct_0_0 = true := by decide +kernel
theorem dX3_distinct_0 : decode cX3_distinct 0 = .ok (.iconst 0, 1) := dc_of dtX3_distinct_0_0_ok (i := 0) rfl
theorem dX3_distinct_1 : decode cX3_distinct 1 = .ok (.istore_n 3, 1) := dc_of dtX3_distinct_0_0_ok (i := 1) rfl
theorem dX3_distinct_2 : decode cX3_distinct 2 = .ok (.iload_n 3, 1) := dc_of dtX3_distinct_0_0_ok (i := 2) rfl
theorem dX3_distinct_3 : decode cX3_distinct 3 = .ok (.aload_n 1, 1) := dc_of dtX3_distinct_0_0_ok (i := 3) rfl
theorem dX3_distinct_4 : decode cX3_distinct 4 = .ok (.getfield 23, 3) := dc_of dtX3_distinct_0_0_ok (i := 4) rfl
theorem dX3_distinct_7 : decode cX3_distinct 7 = .ok (.if_icmp .ge 30, 3) := dc_of dtX3_distinct_0_0_ok (i := 5) rfl
theorem dX3_distinct_10 : decode cX3_distinct 10 = .ok (.aload_n 1, 1) := dc_of dtX3_distinct_0_0_ok (i := 6) rfl
theorem dX3_distinct_11 : decode cX3_distinct 11 = .ok (.iload_n 3, 1) := dc_of dtX3_distinct_0_0_ok (i := 7) rfl
theorem dX3_distinct_12 : decode cX3_distinct 12 = .ok (.invokevirtual 70, 3) := dc_of dtX3_distinct_0_0_ok (i := 8) rfl
theorem dX3_distinct_15 : decode cX3_distinct 15 = .ok (.ifCond .le 16, 3) := dc_of dtX3_distinct_0_0_ok (i := 9) rfl
theorem dX3_distinct_18 : decode cX3_distinct 18 = .ok (.aload_n 2, 1) := dc_of dtX3_distinct_0_0_ok (i := 10) rfl
theorem dX3_distinct_19 : decode cX3_distinct 19 = .ok (.aload_n 1, 1) := dc_of dtX3_distinct_0_0_ok (i := 11) rfl
theorem dX3_distinct_20 : decode cX3_distinct 20 = .ok (.iload_n 3, 1) := dc_of dtX3_distinct_0_0_ok (i := 12) rfl
theorem dX3_distinct_21 : decode cX3_distinct 21 = .ok (.iconst 1, 1) := dc_of dtX3_distinct_0_0_ok (i := 13) rfl
theorem dX3_distinct_22 : decode cX3_distinct 22 = .ok (.invokevirtual 74, 3) := dc_of dtX3_distinct_0_0_ok (i := 14) rfl
theorem dX3_distinct_25 : decode cX3_distinct 25 = .ok (.ifCond .ne 6, 3) := dc_of dtX3_distinct_0_0_ok (i := 15) rfl
theorem dX3_distinct_28 : decode cX3_distinct 28 = .ok (.bipush (-3), 2) := dc_of dtX3_distinct_0_0_ok (i := 16) rfl
theorem dX3_distinct_30 : decode cX3_distinct 30 = .ok (.ireturn, 1) := dc_of dtX3_distinct_0_0_ok (i := 17) rfl
theorem dX3_distinct_31 : decode cX3_distinct 31 = .ok (.iinc 3 1, 3) := dc_of dtX3_distinct_0_0_ok (i := 18) rfl
theorem dX3_distinct_34 : decode cX3_distinct 34 = .ok (.goto (-32), 3) := dc_of dtX3_distinct_0_0_ok (i := 19) rfl
theorem dX3_distinct_37 : decode cX3_distinct 37 = .ok (.iconst 0, 1) := dc_of dtX3_distinct_0_0_ok (i := 20) rfl
theorem dX3_distinct_38 : decode cX3_distinct 38 = .ok (.ireturn, 1) := dc_of dtX3_distinct_0_0_ok (i := 21) rfl
set_option maxRecDepth 20000 in
theorem ggX3_group_X3_clearKey : GoodIn wsX3_group wsX3_clearKey := goodIn_r _ [11, 3, 67, 68, 69] rfl gw_wsX3_clearKey
set_option maxRecDepth 20000 in
theorem gX3_group_X3_clearKey : GoodIn wsX3_group (wsV RX3 78 RX3 yX3_clearKey wsX3_clearKey) := goodIn_app (goodIn_of _ (by decide +kernel)) ggX3_group_X3_clearKey
set_option maxRecDepth 20000 in
theorem ggX3_group_X4_cell : GoodIn wsX3_group wsX4_cell := goodIn_r _ [16, 17, 48, 49, 50, 51] rfl gw_wsX4_cell
set_option maxRecDepth 20000 in
theorem gX3_group_X4_cell : GoodIn wsX3_group (wsV RX3 99 RX4 yX4_cell wsX4_cell) := goodIn_app (goodIn_of _ (by decide +kernel)) ggX3_group_X4_cell
set_option maxRecDepth 20000 in
theorem gw_wsX4_find : wsX4_find.all goodWord = true := by decide +kernel
set_option maxRecDepth 20000 in
theorem ggX3_group_X4_find : GoodIn wsX3_group wsX4_find := goodIn_r _ [21, 22, 23, 24, 25, 15, 26, 27, 17, 48, 49, 50, 51] rfl gw_wsX4_find
set_option maxRecDepth 20000 in
theorem gX3_group_X4_find : GoodIn wsX3_group (wsV RX3 116 RX4 yX4_find wsX4_find) := goodIn_app (goodIn_of _ (by decide +kernel)) ggX3_group_X4_find
set_option maxRecDepth 20000 in
theorem gw_wsX4_insert : wsX4_insert.all goodWord = true := by decide +kernel
set_option maxRecDepth 20000 in
theorem ggX3_group_X4_insert : GoodIn wsX3_group wsX4_insert := goodIn_r _ [31, 22, 32, 17, 33, 34, 35, 36, 27, 48, 49, 50, 51] rfl gw_wsX4_insert
set_option maxRecDepth 20000 in
theorem gX3_group_X4_insert : GoodIn wsX3_group (wsV RX3 120 RX4 yX4_insert wsX4_insert) := goodIn_app (goodIn_of _ (by decide +kernel)) ggX3_group_X4_insert
set_option maxRecDepth 20000 in
theorem ggX3_group_X4_amount : GoodIn wsX3_group wsX4_amount := goodIn_r _ [40, 17, 27, 48, 49, 50, 51] rfl gw_wsX4_amount
set_option maxRecDepth 20000 in
theorem gX3_group_X4_amount : GoodIn wsX3_group (wsV RX3 70 RX4 yX4_amount wsX4_amount) := goodIn_app (goodIn_of _ (by decide +kernel)) ggX3_group_X4_amount
set_option maxRecDepth 20000 in
theorem gw_wsX3_fold : wsX3_fold.all goodWord = true := by decide +kernel
set_option maxRecDepth 20000 in
theorem ggX3_group_X3_fold : GoodIn wsX3_group wsX3_fold := goodIn_r _ [43, 37, 38, 39, 15, 40, 17, 27, 44, 45, 46, 47, 12, 13, 14, 16, 48, 49, 50, 51] rfl gw_wsX3_fold
set_option maxRecDepth 20000 in
theorem gX3_group_X3_fold : GoodIn wsX3_group (va_wsS RX3 130 yX3_fold wsX3_fold) := goodIn_app (goodIn_of _ (by decide +kernel)) ggX3_group_X3_fold
set_option maxRecDepth 20000 in
theorem gw_wsX4_setCell : wsX4_setCell.all goodWord = true := by decide +kernel
set_option maxRecDepth 20000 in
theorem ggX3_group_X4_setCell : GoodIn wsX3_group wsX4_setCell := goodIn_r _ [47, 17, 48, 49, 50, 51] rfl gw_wsX4_setCell
set_option maxRecDepth 20000 in
theorem gX3_group_X4_setCell : GoodIn wsX3_group (wsV RX3 133 RX4 yX4_setCell wsX4_setCell) := goodIn_app (goodIn_of _ (by decide +kernel)) ggX3_group_X4_setCell
def dtX3_group_0_0 : List (Nat × Instr × Nat) := [(0, .aload_n 0, 1), (1, .invokevirtual 78, 3), (4, .iconst 0, 1), (5, .istore 4, 2), (7, .iload 4, 2), (9, .aload_n 2, 1), (10, .getfield 23, 3), (13, .if_icmp .ge 111, 3), (16, .iconst 0, 1), (17, .istore 5, 2), (19, .iload 5, 2), (21, .aload_n 1, 1), (22, .getfield 110, 3), (25, .if_icmp .ge 29, 3), (28, .aload_n 0, 1), (29, .getfield 11, 3), (32, .iload 5, 2), (34, .aload_n 2, 1), (35, .iload 4, 2), (37, .aload_n 1, 1), (38, .getfield 113, 3), (41, .iload 5, 2), (43, .iaload, 1), (44, .invokevirtual 99, 3), (47, .iastore, 1), (48, .iinc 5 1, 3), (51, .goto (-32), 3), (54, .aload_n 3, 1), (55, .aload_n 0, 1), (56, .getfield 11, 3), (59, .invokevirtual 116, 3), (62, .istore 5, 2)]
theorem dtX3_group_0_0_ok : dcAll cX3_group dtX3_group_0_0 = true := by decide +kernel
theorem dX3_group_0 : decode cX3_group 0 = .ok (.aload_n 0, 1) := dc_of dtX3_group_0_0_ok (i := 0) rfl
theorem dX3_group_1 : decode cX3_group 1 = .ok (.invokevirtual 78, 3) := dc_of dtX3_group_0_0_ok (i := 1) rfl
theorem dX3_group_4 : decode cX3_group 4 = .ok (.iconst 0, 1) := dc_of dtX3_group_0_0_ok (i := 2) rfl
theorem dX3_group_5 : decode cX3_group 5 = .ok (.istore 4, 2) := dc_of dtX3_group_0_0_ok (i := 3) rfl
theorem dX3_group_7 : decode cX3_group 7 = .ok (.iload 4, 2) := dc_of dtX3_group_0_0_ok (i := 4) rfl
theorem dX3_group_9 : decode cX3_group 9 = .ok (.aload_n 2, 1) := dc_of dtX3_group_0_0_ok (i := 5) rfl
theorem dX3_group_10 : decode cX3_group 10 = .ok (.getfield 23, 3) := dc_of dtX3_group_0_0_ok (i := 6) rfl
theorem dX3_group_13 : decode cX3_group 13 = .ok (.if_icmp .ge 111, 3) := dc_of dtX3_group_0_0_ok (i := 7) rfl
theorem dX3_group_16 : decode cX3_group 16 = .ok (.iconst 0, 1) := dc_of dtX3_group_0_0_ok (i := 8) rfl
theorem dX3_group_17 : decode cX3_group 17 = .ok (.istore 5, 2) := dc_of dtX3_group_0_0_ok (i := 9) rfl
theorem dX3_group_19 : decode cX3_group 19 = .ok (.iload 5, 2) := dc_of dtX3_group_0_0_ok (i := 10) rfl
theorem dX3_group_21 : decode cX3_group 21 = .ok (.aload_n 1, 1) := dc_of dtX3_group_0_0_ok (i := 11) rfl
theorem dX3_group_22 : decode cX3_group 22 = .ok (.getfield 110, 3) := dc_of dtX3_group_0_0_ok (i := 12) rfl
theorem dX3_group_25 : decode cX3_group 25 = .ok (.if_icmp .ge 29, 3) := dc_of dtX3_group_0_0_ok (i := 13) rfl
theorem dX3_group_28 : decode cX3_group 28 = .ok (.aload_n 0, 1) := dc_of dtX3_group_0_0_ok (i := 14) rfl
theorem dX3_group_29 : decode cX3_group 29 = .ok (.getfield 11, 3) := dc_of dtX3_group_0_0_ok (i := 15) rfl
theorem dX3_group_32 : decode cX3_group 32 = .ok (.iload 5, 2) := dc_of dtX3_group_0_0_ok (i := 16) rfl
theorem dX3_group_34 : decode cX3_group 34 = .ok (.aload_n 2, 1) := dc_of dtX3_group_0_0_ok (i := 17) rfl
theorem dX3_group_35 : decode cX3_group 35 = .ok (.iload 4, 2) := dc_of dtX3_group_0_0_ok (i := 18) rfl
theorem dX3_group_37 : decode cX3_group 37 = .ok (.aload_n 1, 1) := dc_of dtX3_group_0_0_ok (i := 19) rfl
theorem dX3_group_38 : decode cX3_group 38 = .ok (.getfield 113, 3) := dc_of dtX3_group_0_0_ok (i := 20) rfl
theorem dX3_group_41 : decode cX3_group 41 = .ok (.iload 5, 2) := dc_of dtX3_group_0_0_ok (i := 21) rfl
theorem dX3_group_43 : decode cX3_group 43 = .ok (.iaload, 1) := dc_of dtX3_group_0_0_ok (i := 22) rfl
theorem dX3_group_44 : decode cX3_group 44 = .ok (.invokevirtual 99, 3) := dc_of dtX3_group_0_0_ok (i := 23) rfl
theorem dX3_group_47 : decode cX3_group 47 = .ok (.iastore, 1) := dc_of dtX3_group_0_0_ok (i := 24) rfl
theorem dX3_group_48 : decode cX3_group 48 = .ok (.iinc 5 1, 3) := dc_of dtX3_group_0_0_ok (i := 25) rfl
theorem dX3_group_51 : decode cX3_group 51 = .ok (.goto (-32), 3) := dc_of dtX3_group_0_0_ok (i := 26) rfl
theorem dX3_group_54 : decode cX3_group 54 = .ok (.aload_n 3, 1) := dc_of dtX3_group_0_0_ok (i := 27) rfl
theorem dX3_group_55 : decode cX3_group 55 = .ok (.aload_n 0, 1) := dc_of dtX3_group_0_0_ok (i := 28) rfl
theorem dX3_group_56 : decode cX3_group 56 = .ok (.getfield 11, 3) := dc_of dtX3_group_0_0_ok (i := 29) rfl
theorem dX3_group_59 : decode cX3_group 59 = .ok (.invokevirtual 116, 3) := dc_of dtX3_group_0_0_ok (i := 30) rfl
theorem dX3_group_62 : decode cX3_group 62 = .ok (.istore 5, 2) := dc_of dtX3_group_0_0_ok (i := 31) rfl
def dtX3_group_64_1 : List (Nat × Instr × Nat) := [(64, .iload 5, 2), (66, .ifCond .ge 26, 3), (69, .iconst (-1), 1), (70, .iload 5, 2), (72, .isub, 1), (73, .istore 5, 2), (75, .aload_n 3, 1), (76, .iload 5, 2), (78, .aload_n 0, 1), (79, .getfield 11, 3), (82, .iconst 0, 1), (83, .invokevirtual 120, 3), (86, .ifCond .ne 6, 3), (89, .bipush (-3), 2), (91, .ireturn, 1), (92, .aload_n 1, 1), (93, .getfield 124, 3), (96, .aload_n 3, 1), (97, .iload 5, 2), (99, .aload_n 2, 1), (100, .iload 4, 2), (102, .aload_n 1, 1), (103, .getfield 127, 3), (106, .invokevirtual 99, 3), (109, .aload_n 2, 1), (110, .iload 4, 2), (112, .invokevirtual 70, 3), (115, .invokestatic 130, 3), (118, .iinc 4 1, 3), (121, .goto (-114), 3), (124, .iconst 0, 1), (125, .istore 4, 2)]
theorem dtX3_group_64_1_ok : dcAll cX3_group dtX3_group_64_1 = true := by decide +kernel
theorem dX3_group_64 : decode cX3_group 64 = .ok (.iload 5, 2) := dc_of dtX3_group_64_1_ok (i := 0) rfl
theorem dX3_group_66 : decode cX3_group 66 = .ok (.ifCond .ge 26, 3) := dc_of dtX3_group_64_1_ok (i := 1) rfl
theorem dX3_group_69 : decode cX3_group 69 = .ok (.iconst (-1), 1) := dc_of dtX3_group_64_1_ok (i := 2) rfl
theorem dX3_group_70 : decode cX3_group 70 = .ok (.iload 5, 2) := dc_of dtX3_group_64_1_ok (i := 3) rfl
theorem dX3_group_72 : decode cX3_group 72 = .ok (.isub, 1) := dc_of dtX3_group_64_1_ok (i := 4) rfl
theorem dX3_group_73 : decode cX3_group 73 = .ok (.istore 5, 2) := dc_of dtX3_group_64_1_ok (i := 5) rfl
theorem dX3_group_75 : decode cX3_group 75 = .ok (.aload_n 3, 1) := dc_of dtX3_group_64_1_ok (i := 6) rfl
theorem dX3_group_76 : decode cX3_group 76 = .ok (.iload 5, 2) := dc_of dtX3_group_64_1_ok (i := 7) rfl
theorem dX3_group_78 : decode cX3_group 78 = .ok (.aload_n 0, 1) := dc_of dtX3_group_64_1_ok (i := 8) rfl
theorem dX3_group_79 : decode cX3_group 79 = .ok (.getfield 11, 3) := dc_of dtX3_group_64_1_ok (i := 9) rfl
theorem dX3_group_82 : decode cX3_group 82 = .ok (.iconst 0, 1) := dc_of dtX3_group_64_1_ok (i := 10) rfl
theorem dX3_group_83 : decode cX3_group 83 = .ok (.invokevirtual 120, 3) := dc_of dtX3_group_64_1_ok (i := 11) rfl
theorem dX3_group_86 : decode cX3_group 86 = .ok (.ifCond .ne 6, 3) := dc_of dtX3_group_64_1_ok (i := 12) rfl
theorem dX3_group_89 : decode cX3_group 89 = .ok (.bipush (-3), 2) := dc_of dtX3_group_64_1_ok (i := 13) rfl
theorem dX3_group_91 : decode cX3_group 91 = .ok (.ireturn, 1) := dc_of dtX3_group_64_1_ok (i := 14) rfl
theorem dX3_group_92 : decode cX3_group 92 = .ok (.aload_n 1, 1) := dc_of dtX3_group_64_1_ok (i := 15) rfl
theorem dX3_group_93 : decode cX3_group 93 = .ok (.getfield 124, 3) := dc_of dtX3_group_64_1_ok (i := 16) rfl
theorem dX3_group_96 : decode cX3_group 96 = .ok (.aload_n 3, 1) := dc_of dtX3_group_64_1_ok (i := 17) rfl
theorem dX3_group_97 : decode cX3_group 97 = .ok (.iload 5, 2) := dc_of dtX3_group_64_1_ok (i := 18) rfl
theorem dX3_group_99 : decode cX3_group 99 = .ok (.aload_n 2, 1) := dc_of dtX3_group_64_1_ok (i := 19) rfl
theorem dX3_group_100 : decode cX3_group 100 = .ok (.iload 4, 2) := dc_of dtX3_group_64_1_ok (i := 20) rfl
theorem dX3_group_102 : decode cX3_group 102 = .ok (.aload_n 1, 1) := dc_of dtX3_group_64_1_ok (i := 21) rfl
theorem dX3_group_103 : decode cX3_group 103 = .ok (.getfield 127, 3) := dc_of dtX3_group_64_1_ok (i := 22) rfl
theorem dX3_group_106 : decode cX3_group 106 = .ok (.invokevirtual 99, 3) := dc_of dtX3_group_64_1_ok (i := 23) rfl
theorem dX3_group_109 : decode cX3_group 109 = .ok (.aload_n 2, 1) := dc_of dtX3_group_64_1_ok (i := 24) rfl
theorem dX3_group_110 : decode cX3_group 110 = .ok (.iload 4, 2) := dc_of dtX3_group_64_1_ok (i := 25) rfl
theorem dX3_group_112 : decode cX3_group 112 = .ok (.invokevirtual 70, 3) := dc_of dtX3_group_64_1_ok (i := 26) rfl
theorem dX3_group_115 : decode cX3_group 115 = .ok (.invokestatic 130, 3) := dc_of dtX3_group_64_1_ok (i := 27) rfl
theorem dX3_group_118 : decode cX3_group 118 = .ok (.iinc 4 1, 3) := dc_of dtX3_group_64_1_ok (i := 28) rfl
theorem dX3_group_121 : decode cX3_group 121 = .ok (.goto (-114), 3) := dc_of dtX3_group_64_1_ok (i := 29) rfl
theorem dX3_group_124 : decode cX3_group 124 = .ok (.iconst 0, 1) := dc_of dtX3_group_64_1_ok (i := 30) rfl
theorem dX3_group_125 : decode cX3_group 125 = .ok (.istore 4, 2) := dc_of dtX3_group_64_1_ok (i := 31) rfl
def dtX3_group_127_2 : List (Nat × Instr × Nat) := [(127, .iload 4, 2), (129, .aload_n 3, 1), (130, .getfield 23, 3), (133, .if_icmp .ge 41, 3), (136, .aload_n 3, 1), (137, .iload 4, 2), (139, .aload_n 1, 1), (140, .getfield 110, 3), (143, .aload_n 3, 1), (144, .iload 4, 2), (146, .invokevirtual 70, 3), (149, .invokevirtual 133, 3), (152, .aload_n 3, 1), (153, .iload 4, 2), (155, .iconst 4, 1), (156, .iconst 1, 1), (157, .invokevirtual 133, 3), (160, .aload_n 3, 1), (161, .iload 4, 2), (163, .iconst 5, 1), (164, .iconst 0, 1), (165, .invokevirtual 133, 3), (168, .iinc 4 1, 3), (171, .goto (-44), 3), (174, .iconst 0, 1), (175, .ireturn, 1)]
theorem dtX3_group_127_2_ok : dcAll cX3_group dtX3_group_127_2 = true := by decide +kernel
theorem dX3_group_127 : decode cX3_group 127 = .ok (.iload 4, 2) := dc_of dtX3_group_127_2_ok (i := 0) rfl
theorem dX3_group_129 : decode cX3_group 129 = .ok (.aload_n 3, 1) := dc_of dtX3_group_127_2_ok (i := 1) rfl
theorem dX3_group_130 : decode cX3_group 130 = .ok (.getfield 23, 3) := dc_of dtX3_group_127_2_ok (i := 2) rfl
theorem dX3_group_133 : decode cX3_group 133 = .ok (.if_icmp .ge 41, 3) := dc_of dtX3_group_127_2_ok (i := 3) rfl
theorem dX3_group_136 : decode cX3_group 136 = .ok (.aload_n 3, 1) := dc_of dtX3_group_127_2_ok (i := 4) rfl
theorem dX3_group_137 : decode cX3_group 137 = .ok (.iload 4, 2) := dc_of dtX3_group_127_2_ok (i := 5) rfl
theorem dX3_group_139 : decode cX3_group 139 = .ok (.aload_n 1, 1) := dc_of dtX3_group_127_2_ok (i := 6) rfl
theorem dX3_group_140 : decode cX3_group 140 = .ok (.getfield 110, 3) := dc_of dtX3_group_127_2_ok (i := 7) rfl
theorem dX3_group_143 : decode cX3_group 143 = .ok (.aload_n 3, 1) := dc_of dtX3_group_127_2_ok (i := 8) rfl
theorem dX3_group_144 : decode cX3_group 144 = .ok (.iload 4, 2) := dc_of dtX3_group_127_2_ok (i := 9) rfl
theorem dX3_group_146 : decode cX3_group 146 = .ok (.invokevirtual 70, 3) := dc_of dtX3_group_127_2_ok (i := 10) rfl
theorem dX3_group_149 : decode cX3_group 149 = .ok (.invokevirtual 133, 3) := dc_of dtX3_group_127_2_ok (i := 11) rfl
theorem dX3_group_152 : decode cX3_group 152 = .ok (.aload_n 3, 1) := dc_of dtX3_group_127_2_ok (i := 12) rfl
theorem dX3_group_153 : decode cX3_group 153 = .ok (.iload 4, 2) := dc_of dtX3_group_127_2_ok (i := 13) rfl
theorem dX3_group_155 : decode cX3_group 155 = .ok (.iconst 4, 1) := dc_of dtX3_group_127_2_ok (i := 14) rfl
theorem dX3_group_156 : decode cX3_group 156 = .ok (.iconst 1, 1) := dc_of dtX3_group_127_2_ok (i := 15) rfl
theorem dX3_group_157 : decode cX3_group 157 = .ok (.invokevirtual 133, 3) := dc_of dtX3_group_127_2_ok (i := 16) rfl
theorem dX3_group_160 : decode cX3_group 160 = .ok (.aload_n 3, 1) := dc_of dtX3_group_127_2_ok (i := 17) rfl
theorem dX3_group_161 : decode cX3_group 161 = .ok (.iload 4, 2) := dc_of dtX3_group_127_2_ok (i := 18) rfl
theorem dX3_group_163 : decode cX3_group 163 = .ok (.iconst 5, 1) := dc_of dtX3_group_127_2_ok (i := 19) rfl
theorem dX3_group_164 : decode cX3_group 164 = .ok (.iconst 0, 1) := dc_of dtX3_group_127_2_ok (i := 20) rfl
theorem dX3_group_165 : decode cX3_group 165 = .ok (.invokevirtual 133, 3) := dc_of dtX3_group_127_2_ok (i := 21) rfl
theorem dX3_group_168 : decode cX3_group 168 = .ok (.iinc 4 1, 3) := dc_of dtX3_group_127_2_ok (i := 22) rfl
theorem dX3_group_171 : decode cX3_group 171 = .ok (.goto (-44), 3) := dc_of dtX3_group_127_2_ok (i := 23) rfl
theorem dX3_group_174 : decode cX3_group 174 = .ok (.iconst 0, 1) := dc_of dtX3_group_127_2_ok (i := 24) rfl
theorem dX3_group_175 : decode cX3_group 175 = .ok (.ireturn, 1) := dc_of dtX3_group_127_2_ok (i := 25) rfl
set_option maxRecDepth 20000 in
theorem ggX3_fold_X4_amount : GoodIn wsX3_fold wsX4_amount := goodIn_r _ [5, 6, 7, 16, 17, 18, 19] rfl gw_wsX4_amount
set_option maxRecDepth 20000 in
theorem gX3_fold_X4_amount : GoodIn wsX3_fold (wsV RX3 70 RX4 yX4_amount wsX4_amount) := goodIn_app (goodIn_of _ (by decide +kernel)) ggX3_fold_X4_amount
set_option maxRecDepth 20000 in
theorem ggX3_fold_X4_setCell : GoodIn wsX3_fold wsX4_setCell := goodIn_r _ [11, 6, 16, 17, 18, 19] rfl gw_wsX4_setCell
set_option maxRecDepth 20000 in
theorem gX3_fold_X4_setCell : GoodIn wsX3_fold (wsV RX3 133 RX4 yX4_setCell wsX4_setCell) := goodIn_app (goodIn_of _ (by decide +kernel)) ggX3_fold_X4_setCell
set_option maxRecDepth 20000 in
theorem ggX3_fold_X4_cell : GoodIn wsX3_fold wsX4_cell := goodIn_r _ [15, 6, 16, 17, 18, 19] rfl gw_wsX4_cell
set_option maxRecDepth 20000 in
theorem gX3_fold_X4_cell : GoodIn wsX3_fold (wsV RX3 99 RX4 yX4_cell wsX4_cell) := goodIn_app (goodIn_of _ (by decide +kernel)) ggX3_fold_X4_cell
def dtX3_fold_0_0 : List (Nat × Instr × Nat) := [(0, .aload_n 1, 1), (1, .iload_n 2, 1), (2, .invokevirtual 70, 3), (5, .istore 5, 2), (7, .iload_n 0, 1), (8, .bipush 16, 2), (10, .if_icmp .ne 17, 3), (13, .aload_n 1, 1), (14, .iload_n 2, 1), (15, .iconst 4, 1), (16, .iload 5, 2), (18, .iload 4, 2), (20, .iadd, 1), (21, .invokevirtual 133, 3), (24, .goto 86, 3), (27, .iload_n 0, 1), (28, .bipush 17, 2), (30, .if_icmp .ne 19, 3), (33, .aload_n 1, 1), (34, .iload_n 2, 1), (35, .iconst 4, 1), (36, .iload 5, 2), (38, .iload 4, 2), (40, .iload_n 3, 1), (41, .imul, 1), (42, .iadd, 1), (43, .invokevirtual 133, 3), (46, .goto 64, 3), (49, .iload 4, 2), (51, .ifCond .le 59, 3), (54, .aload_n 1, 1), (55, .iload_n 2, 1)]
theorem dtX3_fold_0_0_ok : dcAll cX3_fold dtX3_fold_0_0 = true := by decide +kernel
theorem dX3_fold_0 : decode cX3_fold 0 = .ok (.aload_n 1, 1) := dc_of dtX3_fold_0_0_ok (i := 0) rfl
theorem dX3_fold_1 : decode cX3_fold 1 = .ok (.iload_n 2, 1) := dc_of dtX3_fold_0_0_ok (i := 1) rfl
theorem dX3_fold_2 : decode cX3_fold 2 = .ok (.invokevirtual 70, 3) := dc_of dtX3_fold_0_0_ok (i := 2) rfl
theorem dX3_fold_5 : decode cX3_fold 5 = .ok (.istore 5, 2) := dc_of dtX3_fold_0_0_ok (i := 3) rfl
theorem dX3_fold_7 : decode cX3_fold 7 = .ok (.iload_n 0, 1) := dc_of dtX3_fold_0_0_ok (i := 4) rfl
theorem dX3_fold_8 : decode cX3_fold 8 = .ok (.bipush 16, 2) := dc_of dtX3_fold_0_0_ok (i := 5) rfl
theorem dX3_fold_10 : decode cX3_fold 10 = .ok (.if_icmp .ne 17, 3) := dc_of dtX3_fold_0_0_ok (i := 6) rfl
theorem dX3_fold_13 : decode cX3_fold 13 = .ok (.aload_n 1, 1) := dc_of dtX3_fold_0_0_ok (i := 7) rfl
theorem dX3_fold_14 : decode cX3_fold 14 = .ok (.iload_n 2, 1) := dc_of dtX3_fold_0_0_ok (i := 8) rfl
theorem dX3_fold_15 : decode cX3_fold 15 = .ok (.iconst 4, 1) := dc_of dtX3_fold_0_0_ok (i := 9) rfl
theorem dX3_fold_16 : decode cX3_fold 16 = .ok (.iload 5, 2) := dc_of dtX3_fold_0_0_ok (i := 10) rfl
theorem dX3_fold_18 : decode cX3_fold 18 = .ok (.iload 4, 2) := dc_of dtX3_fold_0_0_ok (i := 11) rfl
theorem dX3_fold_20 : decode cX3_fold 20 = .ok (.iadd, 1) := dc_of dtX3_fold_0_0_ok (i := 12) rfl
theorem dX3_fold_21 : decode cX3_fold 21 = .ok (.invokevirtual 133, 3) := dc_of dtX3_fold_0_0_ok (i := 13) rfl
theorem dX3_fold_24 : decode cX3_fold 24 = .ok (.goto 86, 3) := dc_of dtX3_fold_0_0_ok (i := 14) rfl
theorem dX3_fold_27 : decode cX3_fold 27 = .ok (.iload_n 0, 1) := dc_of dtX3_fold_0_0_ok (i := 15) rfl
theorem dX3_fold_28 : decode cX3_fold 28 = .ok (.bipush 17, 2) := dc_of dtX3_fold_0_0_ok (i := 16) rfl
theorem dX3_fold_30 : decode cX3_fold 30 = .ok (.if_icmp .ne 19, 3) := dc_of dtX3_fold_0_0_ok (i := 17) rfl
theorem dX3_fold_33 : decode cX3_fold 33 = .ok (.aload_n 1, 1) := dc_of dtX3_fold_0_0_ok (i := 18) rfl
theorem dX3_fold_34 : decode cX3_fold 34 = .ok (.iload_n 2, 1) := dc_of dtX3_fold_0_0_ok (i := 19) rfl
theorem dX3_fold_35 : decode cX3_fold 35 = .ok (.iconst 4, 1) := dc_of dtX3_fold_0_0_ok (i := 20) rfl
theorem dX3_fold_36 : decode cX3_fold 36 = .ok (.iload 5, 2) := dc_of dtX3_fold_0_0_ok (i := 21) rfl
theorem dX3_fold_38 : decode cX3_fold 38 = .ok (.iload 4, 2) := dc_of dtX3_fold_0_0_ok (i := 22) rfl
theorem dX3_fold_40 : decode cX3_fold 40 = .ok (.iload_n 3, 1) := dc_of dtX3_fold_0_0_ok (i := 23) rfl
theorem dX3_fold_41 : decode cX3_fold 41 = .ok (.imul, 1) := dc_of dtX3_fold_0_0_ok (i := 24) rfl
theorem dX3_fold_42 : decode cX3_fold 42 = .ok (.iadd, 1) := dc_of dtX3_fold_0_0_ok (i := 25) rfl
theorem dX3_fold_43 : decode cX3_fold 43 = .ok (.invokevirtual 133, 3) := dc_of dtX3_fold_0_0_ok (i := 26) rfl
theorem dX3_fold_46 : decode cX3_fold 46 = .ok (.goto 64, 3) := dc_of dtX3_fold_0_0_ok (i := 27) rfl
theorem dX3_fold_49 : decode cX3_fold 49 = .ok (.iload 4, 2) := dc_of dtX3_fold_0_0_ok (i := 28) rfl
theorem dX3_fold_51 : decode cX3_fold 51 = .ok (.ifCond .le 59, 3) := dc_of dtX3_fold_0_0_ok (i := 29) rfl
theorem dX3_fold_54 : decode cX3_fold 54 = .ok (.aload_n 1, 1) := dc_of dtX3_fold_0_0_ok (i := 30) rfl
theorem dX3_fold_55 : decode cX3_fold 55 = .ok (.iload_n 2, 1) := dc_of dtX3_fold_0_0_ok (i := 31) rfl
def dtX3_fold_56_1 : List (Nat × Instr × Nat) := [(56, .iconst 5, 1), (57, .invokevirtual 99, 3), (60, .ifCond .ne 7, 3), (63, .iconst 1, 1), (64, .goto 4, 3), (67, .iconst 0, 1), (68, .istore 6, 2), (70, .iload 6, 2), (72, .ifCond .ne 24, 3), (75, .iload_n 0, 1), (76, .bipush 18, 2), (78, .if_icmp .ne 12, 3), (81, .iload_n 3, 1), (82, .iload 5, 2), (84, .if_icmp .ge 19, 3), (87, .goto 9, 3), (90, .iload_n 3, 1), (91, .iload 5, 2), (93, .if_icmp .le 10, 3), (96, .aload_n 1, 1), (97, .iload_n 2, 1), (98, .iconst 4, 1), (99, .iload_n 3, 1), (100, .invokevirtual 133, 3), (103, .aload_n 1, 1), (104, .iload_n 2, 1), (105, .iconst 5, 1), (106, .iconst 1, 1), (107, .invokevirtual 133, 3), (110, .return_, 1)]
theorem dtX3_fold_56_1_ok : dcAll cX3_fold dtX3_fold_56_1 = true := by decide +kernel
theorem dX3_fold_56 : decode cX3_fold 56 = .ok (.iconst 5, 1) := dc_of dtX3_fold_56_1_ok (i := 0) rfl
theorem dX3_fold_57 : decode cX3_fold 57 = .ok (.invokevirtual 99, 3) := dc_of dtX3_fold_56_1_ok (i := 1) rfl
theorem dX3_fold_60 : decode cX3_fold 60 = .ok (.ifCond .ne 7, 3) := dc_of dtX3_fold_56_1_ok (i := 2) rfl
theorem dX3_fold_63 : decode cX3_fold 63 = .ok (.iconst 1, 1) := dc_of dtX3_fold_56_1_ok (i := 3) rfl
theorem dX3_fold_64 : decode cX3_fold 64 = .ok (.goto 4, 3) := dc_of dtX3_fold_56_1_ok (i := 4) rfl
theorem dX3_fold_67 : decode cX3_fold 67 = .ok (.iconst 0, 1) := dc_of dtX3_fold_56_1_ok (i := 5) rfl
theorem dX3_fold_68 : decode cX3_fold 68 = .ok (.istore 6, 2) := dc_of dtX3_fold_56_1_ok (i := 6) rfl
theorem dX3_fold_70 : decode cX3_fold 70 = .ok (.iload 6, 2) := dc_of dtX3_fold_56_1_ok (i := 7) rfl
theorem dX3_fold_72 : decode cX3_fold 72 = .ok (.ifCond .ne 24, 3) := dc_of dtX3_fold_56_1_ok (i := 8) rfl
theorem dX3_fold_75 : decode cX3_fold 75 = .ok (.iload_n 0, 1) := dc_of dtX3_fold_56_1_ok (i := 9) rfl
theorem dX3_fold_76 : decode cX3_fold 76 = .ok (.bipush 18, 2) := dc_of dtX3_fold_56_1_ok (i := 10) rfl
theorem dX3_fold_78 : decode cX3_fold 78 = .ok (.if_icmp .ne 12, 3) := dc_of dtX3_fold_56_1_ok (i := 11) rfl
theorem dX3_fold_81 : decode cX3_fold 81 = .ok (.iload_n 3, 1) := dc_of dtX3_fold_56_1_ok (i := 12) rfl
theorem dX3_fold_82 : decode cX3_fold 82 = .ok (.iload 5, 2) := dc_of dtX3_fold_56_1_ok (i := 13) rfl
theorem dX3_fold_84 : decode cX3_fold 84 = .ok (.if_icmp .ge 19, 3) := dc_of dtX3_fold_56_1_ok (i := 14) rfl
theorem dX3_fold_87 : decode cX3_fold 87 = .ok (.goto 9, 3) := dc_of dtX3_fold_56_1_ok (i := 15) rfl
theorem dX3_fold_90 : decode cX3_fold 90 = .ok (.iload_n 3, 1) := dc_of dtX3_fold_56_1_ok (i := 16) rfl
theorem dX3_fold_91 : decode cX3_fold 91 = .ok (.iload 5, 2) := dc_of dtX3_fold_56_1_ok (i := 17) rfl
theorem dX3_fold_93 : decode cX3_fold 93 = .ok (.if_icmp .le 10, 3) := dc_of dtX3_fold_56_1_ok (i := 18) rfl
theorem dX3_fold_96 : decode cX3_fold 96 = .ok (.aload_n 1, 1) := dc_of dtX3_fold_56_1_ok (i := 19) rfl
theorem dX3_fold_97 : decode cX3_fold 97 = .ok (.iload_n 2, 1) := dc_of dtX3_fold_56_1_ok (i := 20) rfl
theorem dX3_fold_98 : decode cX3_fold 98 = .ok (.iconst 4, 1) := dc_of dtX3_fold_56_1_ok (i := 21) rfl
theorem dX3_fold_99 : decode cX3_fold 99 = .ok (.iload_n 3, 1) := dc_of dtX3_fold_56_1_ok (i := 22) rfl
theorem dX3_fold_100 : decode cX3_fold 100 = .ok (.invokevirtual 133, 3) := dc_of dtX3_fold_56_1_ok (i := 23) rfl
theorem dX3_fold_103 : decode cX3_fold 103 = .ok (.aload_n 1, 1) := dc_of dtX3_fold_56_1_ok (i := 24) rfl
theorem dX3_fold_104 : decode cX3_fold 104 = .ok (.iload_n 2, 1) := dc_of dtX3_fold_56_1_ok (i := 25) rfl
theorem dX3_fold_105 : decode cX3_fold 105 = .ok (.iconst 5, 1) := dc_of dtX3_fold_56_1_ok (i := 26) rfl
theorem dX3_fold_106 : decode cX3_fold 106 = .ok (.iconst 1, 1) := dc_of dtX3_fold_56_1_ok (i := 27) rfl
theorem dX3_fold_107 : decode cX3_fold 107 = .ok (.invokevirtual 133, 3) := dc_of dtX3_fold_56_1_ok (i := 28) rfl
theorem dX3_fold_110 : decode cX3_fold 110 = .ok (.return_, 1) := dc_of dtX3_fold_56_1_ok (i := 29) rfl
set_option maxRecDepth 20000 in
theorem ggX3_ring_X3_clearKey : GoodIn wsX3_ring wsX3_clearKey := goodIn_r _ [7, 2, 72, 73, 74] rfl gw_wsX3_clearKey
set_option maxRecDepth 20000 in
theorem gX3_ring_X3_clearKey : GoodIn wsX3_ring (wsV RX3 78 RX3 yX3_clearKey wsX3_clearKey) := goodIn_app (goodIn_of _ (by decide +kernel)) ggX3_ring_X3_clearKey
set_option maxRecDepth 20000 in
theorem ggX3_ring_X4_amount : GoodIn wsX3_ring wsX4_amount := goodIn_r _ [12, 13, 14, 68, 69, 70, 71] rfl gw_wsX4_amount
set_option maxRecDepth 20000 in
theorem gX3_ring_X4_amount : GoodIn wsX3_ring (wsV RX3 70 RX4 yX4_amount wsX4_amount) := goodIn_app (goodIn_of _ (by decide +kernel)) ggX3_ring_X4_amount
set_option maxRecDepth 20000 in
theorem gw_wsX4_copyKey : wsX4_copyKey.all goodWord = true := by decide +kernel
set_option maxRecDepth 20000 in
theorem ggX3_ring_X4_copyKey : GoodIn wsX3_ring wsX4_copyKey := goodIn_r _ [18, 13, 14, 19, 20, 21, 22, 68, 69, 70, 71] rfl gw_wsX4_copyKey
set_option maxRecDepth 20000 in
theorem gX3_ring_X4_copyKey : GoodIn wsX3_ring (wsV RX3 137 RX4 yX4_copyKey wsX4_copyKey) := goodIn_app (goodIn_of _ (by decide +kernel)) ggX3_ring_X4_copyKey
set_option maxRecDepth 20000 in
theorem gw_wsX3_arrive : wsX3_arrive.all goodWord = true := by decide +kernel
set_option maxRecDepth 20000 in
theorem ggX3_ring_X3_arrive : GoodIn wsX3_ring wsX3_arrive := goodIn_r _ [26, 1, 2, 27, 28, 20, 21, 22, 29, 30, 31, 11, 32, 33, 34, 13, 19, 14, 35, 36, 37, 38, 68, 69, 70, 71, 72, 73, 74] rfl gw_wsX3_arrive
set_option maxRecDepth 20000 in
theorem gX3_ring_X3_arrive : GoodIn wsX3_ring (wsV RX3 141 RX3 yX3_arrive wsX3_arrive) := goodIn_app (goodIn_of _ (by decide +kernel)) ggX3_ring_X3_arrive
set_option maxRecDepth 20000 in
theorem gw_wsX3_goOn : wsX3_goOn.all goodWord = true := by decide +kernel
set_option maxRecDepth 20000 in
theorem ggX3_ring_X3_goOn : GoodIn wsX3_ring wsX3_goOn := goodIn_r _ [42, 27, 43, 28, 20, 21, 22, 44, 1, 45, 46, 47, 48, 2, 8, 9, 10, 11, 12, 13, 14, 49, 50, 51, 52, 53, 54, 55, 56, 57, 58, 59, 60, 61, 62, 63, 33, 64, 65, 66, 67, 23, 24, 25, 6, 26, 29, 30, 31, 32, 34, 19, 35, 36, 37, 38, 72, 73, 74, 75, 76, 77, 78, 79, 80, 81, 82, 83, 84, 85, 86, 87, 88, 89, 68, 69, 70, 71] rfl gw_wsX3_goOn
set_option maxRecDepth 20000 in
theorem gX3_ring_X3_goOn : GoodIn wsX3_ring (wsV RX3 144 RX3 yX3_goOn wsX3_goOn) := goodIn_app (goodIn_of _ (by decide +kernel)) ggX3_ring_X3_goOn
def dtX3_ring_0_0 : List (Nat × Instr × Nat) := [(0, .aload_n 0, 1), (1, .invokevirtual 78, 3), (4, .iconst 0, 1), (5, .istore 5, 2), (7, .iload 5, 2), (9, .aload_n 2, 1), (10, .getfield 23, 3), (13, .if_icmp .ge 47, 3), (16, .aload_n 2, 1), (17, .iload 5, 2), (19, .invokevirtual 70, 3), (22, .ifCond .le 32, 3), (25, .aload_n 2, 1), (26, .iload 5, 2), (28, .iconst 0, 1), (29, .aload_n 0, 1), (30, .getfield 11, 3), (33, .invokevirtual 137, 3), (36, .aload_n 0, 1), (37, .aload 4, 2), (39, .aload 4, 2), (41, .getfield 23, 3), (44, .iconst 0, 1), (45, .invokevirtual 141, 3), (48, .ifCond .ne 6, 3), (51, .bipush (-3), 2), (53, .ireturn, 1), (54, .iinc 5 1, 3), (57, .goto (-50), 3), (60, .iconst 0, 1), (61, .istore 5, 2), (63, .iconst 1, 1)]
theorem dtX3_ring_0_0_ok : dcAll cX3_ring dtX3_ring_0_0 = true := by decide +kernel
theorem dX3_ring_0 : decode cX3_ring 0 = .ok (.aload_n 0, 1) := dc_of dtX3_ring_0_0_ok (i := 0) rfl
theorem dX3_ring_1 : decode cX3_ring 1 = .ok (.invokevirtual 78, 3) := dc_of dtX3_ring_0_0_ok (i := 1) rfl
theorem dX3_ring_4 : decode cX3_ring 4 = .ok (.iconst 0, 1) := dc_of dtX3_ring_0_0_ok (i := 2) rfl
theorem dX3_ring_5 : decode cX3_ring 5 = .ok (.istore 5, 2) := dc_of dtX3_ring_0_0_ok (i := 3) rfl
theorem dX3_ring_7 : decode cX3_ring 7 = .ok (.iload 5, 2) := dc_of dtX3_ring_0_0_ok (i := 4) rfl
theorem dX3_ring_9 : decode cX3_ring 9 = .ok (.aload_n 2, 1) := dc_of dtX3_ring_0_0_ok (i := 5) rfl
theorem dX3_ring_10 : decode cX3_ring 10 = .ok (.getfield 23, 3) := dc_of dtX3_ring_0_0_ok (i := 6) rfl
theorem dX3_ring_13 : decode cX3_ring 13 = .ok (.if_icmp .ge 47, 3) := dc_of dtX3_ring_0_0_ok (i := 7) rfl
theorem dX3_ring_16 : decode cX3_ring 16 = .ok (.aload_n 2, 1) := dc_of dtX3_ring_0_0_ok (i := 8) rfl
theorem dX3_ring_17 : decode cX3_ring 17 = .ok (.iload 5, 2) := dc_of dtX3_ring_0_0_ok (i := 9) rfl
theorem dX3_ring_19 : decode cX3_ring 19 = .ok (.invokevirtual 70, 3) := dc_of dtX3_ring_0_0_ok (i := 10) rfl
theorem dX3_ring_22 : decode cX3_ring 22 = .ok (.ifCond .le 32, 3) := dc_of dtX3_ring_0_0_ok (i := 11) rfl
theorem dX3_ring_25 : decode cX3_ring 25 = .ok (.aload_n 2, 1) := dc_of dtX3_ring_0_0_ok (i := 12) rfl
theorem dX3_ring_26 : decode cX3_ring 26 = .ok (.iload 5, 2) := dc_of dtX3_ring_0_0_ok (i := 13) rfl
theorem dX3_ring_28 : decode cX3_ring 28 = .ok (.iconst 0, 1) := dc_of dtX3_ring_0_0_ok (i := 14) rfl
theorem dX3_ring_29 : decode cX3_ring 29 = .ok (.aload_n 0, 1) := dc_of dtX3_ring_0_0_ok (i := 15) rfl
theorem dX3_ring_30 : decode cX3_ring 30 = .ok (.getfield 11, 3) := dc_of dtX3_ring_0_0_ok (i := 16) rfl
theorem dX3_ring_33 : decode cX3_ring 33 = .ok (.invokevirtual 137, 3) := dc_of dtX3_ring_0_0_ok (i := 17) rfl
theorem dX3_ring_36 : decode cX3_ring 36 = .ok (.aload_n 0, 1) := dc_of dtX3_ring_0_0_ok (i := 18) rfl
theorem dX3_ring_37 : decode cX3_ring 37 = .ok (.aload 4, 2) := dc_of dtX3_ring_0_0_ok (i := 19) rfl
theorem dX3_ring_39 : decode cX3_ring 39 = .ok (.aload 4, 2) := dc_of dtX3_ring_0_0_ok (i := 20) rfl
theorem dX3_ring_41 : decode cX3_ring 41 = .ok (.getfield 23, 3) := dc_of dtX3_ring_0_0_ok (i := 21) rfl
theorem dX3_ring_44 : decode cX3_ring 44 = .ok (.iconst 0, 1) := dc_of dtX3_ring_0_0_ok (i := 22) rfl
theorem dX3_ring_45 : decode cX3_ring 45 = .ok (.invokevirtual 141, 3) := dc_of dtX3_ring_0_0_ok (i := 23) rfl
theorem dX3_ring_48 : decode cX3_ring 48 = .ok (.ifCond .ne 6, 3) := dc_of dtX3_ring_0_0_ok (i := 24) rfl
theorem dX3_ring_51 : decode cX3_ring 51 = .ok (.bipush (-3), 2) := dc_of dtX3_ring_0_0_ok (i := 25) rfl
theorem dX3_ring_53 : decode cX3_ring 53 = .ok (.ireturn, 1) := dc_of dtX3_ring_0_0_ok (i := 26) rfl
theorem dX3_ring_54 : decode cX3_ring 54 = .ok (.iinc 5 1, 3) := dc_of dtX3_ring_0_0_ok (i := 27) rfl
theorem dX3_ring_57 : decode cX3_ring 57 = .ok (.goto (-50), 3) := dc_of dtX3_ring_0_0_ok (i := 28) rfl
theorem dX3_ring_60 : decode cX3_ring 60 = .ok (.iconst 0, 1) := dc_of dtX3_ring_0_0_ok (i := 29) rfl
theorem dX3_ring_61 : decode cX3_ring 61 = .ok (.istore 5, 2) := dc_of dtX3_ring_0_0_ok (i := 30) rfl
theorem dX3_ring_63 : decode cX3_ring 63 = .ok (.iconst 1, 1) := dc_of dtX3_ring_0_0_ok (i := 31) rfl
def dtX3_ring_64_1 : List (Nat × Instr × Nat) := [(64, .istore 6, 2), (66, .iload 6, 2), (68, .bipush 41, 2), (70, .if_icmp .gt 69, 3), (73, .iload 5, 2), (75, .aload 4, 2), (77, .getfield 23, 3), (80, .if_icmp .ge 59, 3), (83, .aload 4, 2), (85, .getfield 23, 3), (88, .istore 7, 2), (90, .iload 5, 2), (92, .istore 8, 2), (94, .iload 8, 2), (96, .iload 7, 2), (98, .if_icmp .ge 31, 3), (101, .aload_n 0, 1), (102, .aload_n 1, 1), (103, .iload 8, 2), (105, .aload_n 3, 1), (106, .aload 4, 2), (108, .iload 6, 2), (110, .invokevirtual 144, 3), (113, .istore 9, 2), (115, .iload 9, 2), (117, .ifCond .eq 6, 3), (120, .iload 9, 2), (122, .ireturn, 1), (123, .iinc 8 1, 3), (126, .goto (-32), 3), (129, .iload 7, 2), (131, .istore 5, 2)]
theorem dtX3_ring_64_1_ok : dcAll cX3_ring dtX3_ring_64_1 = true := by decide +kernel
theorem dX3_ring_64 : decode cX3_ring 64 = .ok (.istore 6, 2) := dc_of dtX3_ring_64_1_ok (i := 0) rfl
theorem dX3_ring_66 : decode cX3_ring 66 = .ok (.iload 6, 2) := dc_of dtX3_ring_64_1_ok (i := 1) rfl
theorem dX3_ring_68 : decode cX3_ring 68 = .ok (.bipush 41, 2) := dc_of dtX3_ring_64_1_ok (i := 2) rfl
theorem dX3_ring_70 : decode cX3_ring 70 = .ok (.if_icmp .gt 69, 3) := dc_of dtX3_ring_64_1_ok (i := 3) rfl
theorem dX3_ring_73 : decode cX3_ring 73 = .ok (.iload 5, 2) := dc_of dtX3_ring_64_1_ok (i := 4) rfl
theorem dX3_ring_75 : decode cX3_ring 75 = .ok (.aload 4, 2) := dc_of dtX3_ring_64_1_ok (i := 5) rfl
theorem dX3_ring_77 : decode cX3_ring 77 = .ok (.getfield 23, 3) := dc_of dtX3_ring_64_1_ok (i := 6) rfl
theorem dX3_ring_80 : decode cX3_ring 80 = .ok (.if_icmp .ge 59, 3) := dc_of dtX3_ring_64_1_ok (i := 7) rfl
theorem dX3_ring_83 : decode cX3_ring 83 = .ok (.aload 4, 2) := dc_of dtX3_ring_64_1_ok (i := 8) rfl
theorem dX3_ring_85 : decode cX3_ring 85 = .ok (.getfield 23, 3) := dc_of dtX3_ring_64_1_ok (i := 9) rfl
theorem dX3_ring_88 : decode cX3_ring 88 = .ok (.istore 7, 2) := dc_of dtX3_ring_64_1_ok (i := 10) rfl
theorem dX3_ring_90 : decode cX3_ring 90 = .ok (.iload 5, 2) := dc_of dtX3_ring_64_1_ok (i := 11) rfl
theorem dX3_ring_92 : decode cX3_ring 92 = .ok (.istore 8, 2) := dc_of dtX3_ring_64_1_ok (i := 12) rfl
theorem dX3_ring_94 : decode cX3_ring 94 = .ok (.iload 8, 2) := dc_of dtX3_ring_64_1_ok (i := 13) rfl
theorem dX3_ring_96 : decode cX3_ring 96 = .ok (.iload 7, 2) := dc_of dtX3_ring_64_1_ok (i := 14) rfl
theorem dX3_ring_98 : decode cX3_ring 98 = .ok (.if_icmp .ge 31, 3) := dc_of dtX3_ring_64_1_ok (i := 15) rfl
theorem dX3_ring_101 : decode cX3_ring 101 = .ok (.aload_n 0, 1) := dc_of dtX3_ring_64_1_ok (i := 16) rfl
theorem dX3_ring_102 : decode cX3_ring 102 = .ok (.aload_n 1, 1) := dc_of dtX3_ring_64_1_ok (i := 17) rfl
theorem dX3_ring_103 : decode cX3_ring 103 = .ok (.iload 8, 2) := dc_of dtX3_ring_64_1_ok (i := 18) rfl
theorem dX3_ring_105 : decode cX3_ring 105 = .ok (.aload_n 3, 1) := dc_of dtX3_ring_64_1_ok (i := 19) rfl
theorem dX3_ring_106 : decode cX3_ring 106 = .ok (.aload 4, 2) := dc_of dtX3_ring_64_1_ok (i := 20) rfl
theorem dX3_ring_108 : decode cX3_ring 108 = .ok (.iload 6, 2) := dc_of dtX3_ring_64_1_ok (i := 21) rfl
theorem dX3_ring_110 : decode cX3_ring 110 = .ok (.invokevirtual 144, 3) := dc_of dtX3_ring_64_1_ok (i := 22) rfl
theorem dX3_ring_113 : decode cX3_ring 113 = .ok (.istore 9, 2) := dc_of dtX3_ring_64_1_ok (i := 23) rfl
theorem dX3_ring_115 : decode cX3_ring 115 = .ok (.iload 9, 2) := dc_of dtX3_ring_64_1_ok (i := 24) rfl
theorem dX3_ring_117 : decode cX3_ring 117 = .ok (.ifCond .eq 6, 3) := dc_of dtX3_ring_64_1_ok (i := 25) rfl
theorem dX3_ring_120 : decode cX3_ring 120 = .ok (.iload 9, 2) := dc_of dtX3_ring_64_1_ok (i := 26) rfl
theorem dX3_ring_122 : decode cX3_ring 122 = .ok (.ireturn, 1) := dc_of dtX3_ring_64_1_ok (i := 27) rfl
theorem dX3_ring_123 : decode cX3_ring 123 = .ok (.iinc 8 1, 3) := dc_of dtX3_ring_64_1_ok (i := 28) rfl
theorem dX3_ring_126 : decode cX3_ring 126 = .ok (.goto (-32), 3) := dc_of dtX3_ring_64_1_ok (i := 29) rfl
theorem dX3_ring_129 : decode cX3_ring 129 = .ok (.iload 7, 2) := dc_of dtX3_ring_64_1_ok (i := 30) rfl
theorem dX3_ring_131 : decode cX3_ring 131 = .ok (.istore 5, 2) := dc_of dtX3_ring_64_1_ok (i := 31) rfl
def dtX3_ring_133_2 : List (Nat × Instr × Nat) := [(133, .iinc 6 1, 3), (136, .goto (-70), 3), (139, .iconst 0, 1), (140, .ireturn, 1)]
theorem dtX3_ring_133_2_ok : dcAll cX3_ring dtX3_ring_133_2 = true := by decide +kernel
theorem dX3_ring_133 : decode cX3_ring 133 = .ok (.iinc 6 1, 3) := dc_of dtX3_ring_133_2_ok (i := 0) rfl
theorem dX3_ring_136 : decode cX3_ring 136 = .ok (.goto (-70), 3) := dc_of dtX3_ring_133_2_ok (i := 1) rfl
theorem dX3_ring_139 : decode cX3_ring 139 = .ok (.iconst 0, 1) := dc_of dtX3_ring_133_2_ok (i := 2) rfl
theorem dX3_ring_140 : decode cX3_ring 140 = .ok (.ireturn, 1) := dc_of dtX3_ring_133_2_ok (i := 3) rfl
set_option maxRecDepth 20000 in
theorem ggX3_arrive_X4_insert : GoodIn wsX3_arrive wsX4_insert := goodIn_r _ [12, 13, 14, 15, 16, 5, 6, 7, 17, 22, 23, 24, 25] rfl gw_wsX4_insert
set_option maxRecDepth 20000 in
theorem gX3_arrive_X4_insert : GoodIn wsX3_arrive (wsV RX3 120 RX4 yX4_insert wsX4_insert) := goodIn_app (goodIn_of _ (by decide +kernel)) ggX3_arrive_X4_insert
set_option maxRecDepth 20000 in
theorem ggX3_arrive_X4_setCell : GoodIn wsX3_arrive wsX4_setCell := goodIn_r _ [21, 15, 22, 23, 24, 25] rfl gw_wsX4_setCell
set_option maxRecDepth 20000 in
theorem gX3_arrive_X4_setCell : GoodIn wsX3_arrive (wsV RX3 133 RX4 yX4_setCell wsX4_setCell) := goodIn_app (goodIn_of _ (by decide +kernel)) ggX3_arrive_X4_setCell
def dtX3_arrive_0_0 : List (Nat × Instr × Nat) := [(0, .aload_n 1, 1), (1, .getfield 23, 3), (4, .iconst 4, 1), (5, .imul, 1), (6, .istore 4, 2), (8, .aload_n 1, 1), (9, .iload_n 2, 1), (10, .aload_n 0, 1), (11, .getfield 11, 3), (14, .iconst 1, 1), (15, .invokevirtual 120, 3), (18, .ifCond .ne 5, 3), (21, .iconst 0, 1), (22, .ireturn, 1), (23, .aload_n 1, 1), (24, .iload_n 2, 1), (25, .iconst 5, 1), (26, .iload_n 3, 1), (27, .invokevirtual 133, 3), (30, .aload_n 0, 1), (31, .getfield 11, 3), (34, .iconst 0, 1), (35, .aload_n 0, 1), (36, .getfield 20, 3), (39, .iload 4, 2), (41, .iconst 4, 1), (42, .invokestatic 148, 3), (45, .iconst 1, 1), (46, .ireturn, 1)]
theorem dtX3_arrive_0_0_ok : dcAll cX3_arrive dtX3_arrive_0_0 = true := by decide +kernel
theorem dX3_arrive_0 : decode cX3_arrive 0 = .ok (.aload_n 1, 1) := dc_of dtX3_arrive_0_0_ok (i := 0) rfl
theorem dX3_arrive_1 : decode cX3_arrive 1 = .ok (.getfield 23, 3) := dc_of dtX3_arrive_0_0_ok (i := 1) rfl
theorem dX3_arrive_4 : decode cX3_arrive 4 = .ok (.iconst 4, 1) := dc_of dtX3_arrive_0_0_ok (i := 2) rfl
theorem dX3_arrive_5 : decode cX3_arrive 5 = .ok (.imul, 1) := dc_of dtX3_arrive_0_0_ok (i := 3) rfl
theorem dX3_arrive_6 : decode cX3_arrive 6 = .ok (.istore 4, 2) := dc_of dtX3_arrive_0_0_ok (i := 4) rfl
theorem dX3_arrive_8 : decode cX3_arrive 8 = .ok (.aload_n 1, 1) := dc_of dtX3_arrive_0_0_ok (i := 5) rfl
theorem dX3_arrive_9 : decode cX3_arrive 9 = .ok (.iload_n 2, 1) := dc_of dtX3_arrive_0_0_ok (i := 6) rfl
theorem dX3_arrive_10 : decode cX3_arrive 10 = .ok (.aload_n 0, 1) := dc_of dtX3_arrive_0_0_ok (i := 7) rfl
theorem dX3_arrive_11 : decode cX3_arrive 11 = .ok (.getfield 11, 3) := dc_of dtX3_arrive_0_0_ok (i := 8) rfl
theorem dX3_arrive_14 : decode cX3_arrive 14 = .ok (.iconst 1, 1) := dc_of dtX3_arrive_0_0_ok (i := 9) rfl
theorem dX3_arrive_15 : decode cX3_arrive 15 = .ok (.invokevirtual 120, 3) := dc_of dtX3_arrive_0_0_ok (i := 10) rfl
theorem dX3_arrive_18 : decode cX3_arrive 18 = .ok (.ifCond .ne 5, 3) := dc_of dtX3_arrive_0_0_ok (i := 11) rfl
theorem dX3_arrive_21 : decode cX3_arrive 21 = .ok (.iconst 0, 1) := dc_of dtX3_arrive_0_0_ok (i := 12) rfl
theorem dX3_arrive_22 : decode cX3_arrive 22 = .ok (.ireturn, 1) := dc_of dtX3_arrive_0_0_ok (i := 13) rfl
theorem dX3_arrive_23 : decode cX3_arrive 23 = .ok (.aload_n 1, 1) := dc_of dtX3_arrive_0_0_ok (i := 14) rfl
theorem dX3_arrive_24 : decode cX3_arrive 24 = .ok (.iload_n 2, 1) := dc_of dtX3_arrive_0_0_ok (i := 15) rfl
theorem dX3_arrive_25 : decode cX3_arrive 25 = .ok (.iconst 5, 1) := dc_of dtX3_arrive_0_0_ok (i := 16) rfl
theorem dX3_arrive_26 : decode cX3_arrive 26 = .ok (.iload_n 3, 1) := dc_of dtX3_arrive_0_0_ok (i := 17) rfl
theorem dX3_arrive_27 : decode cX3_arrive 27 = .ok (.invokevirtual 133, 3) := dc_of dtX3_arrive_0_0_ok (i := 18) rfl
theorem dX3_arrive_30 : decode cX3_arrive 30 = .ok (.aload_n 0, 1) := dc_of dtX3_arrive_0_0_ok (i := 19) rfl
theorem dX3_arrive_31 : decode cX3_arrive 31 = .ok (.getfield 11, 3) := dc_of dtX3_arrive_0_0_ok (i := 20) rfl
theorem dX3_arrive_34 : decode cX3_arrive 34 = .ok (.iconst 0, 1) := dc_of dtX3_arrive_0_0_ok (i := 21) rfl
theorem dX3_arrive_35 : decode cX3_arrive 35 = .ok (.aload_n 0, 1) := dc_of dtX3_arrive_0_0_ok (i := 22) rfl
theorem dX3_arrive_36 : decode cX3_arrive 36 = .ok (.getfield 20, 3) := dc_of dtX3_arrive_0_0_ok (i := 23) rfl
theorem dX3_arrive_39 : decode cX3_arrive 39 = .ok (.iload 4, 2) := dc_of dtX3_arrive_0_0_ok (i := 24) rfl
theorem dX3_arrive_41 : decode cX3_arrive 41 = .ok (.iconst 4, 1) := dc_of dtX3_arrive_0_0_ok (i := 25) rfl
theorem dX3_arrive_42 : decode cX3_arrive 42 = .ok (.invokestatic 148, 3) := dc_of dtX3_arrive_0_0_ok (i := 26) rfl
theorem dX3_arrive_45 : decode cX3_arrive 45 = .ok (.iconst 1, 1) := dc_of dtX3_arrive_0_0_ok (i := 27) rfl
theorem dX3_arrive_46 : decode cX3_arrive 46 = .ok (.ireturn, 1) := dc_of dtX3_arrive_0_0_ok (i := 28) rfl
set_option maxRecDepth 20000 in
theorem ggX3_goOn_X4_amount : GoodIn wsX3_goOn wsX4_amount := goodIn_r _ [18, 19, 20, 74, 75, 76, 77] rfl gw_wsX4_amount
set_option maxRecDepth 20000 in
theorem gX3_goOn_X4_amount : GoodIn wsX3_goOn (wsV RX3 70 RX4 yX4_amount wsX4_amount) := goodIn_app (goodIn_of _ (by decide +kernel)) ggX3_goOn_X4_amount
set_option maxRecDepth 20000 in
theorem ggX3_goOn_X4_cell : GoodIn wsX3_goOn wsX4_cell := goodIn_r _ [24, 19, 74, 75, 76, 77] rfl gw_wsX4_cell
set_option maxRecDepth 20000 in
theorem gX3_goOn_X4_cell : GoodIn wsX3_goOn (wsV RX3 99 RX4 yX4_cell wsX4_cell) := goodIn_app (goodIn_of _ (by decide +kernel)) ggX3_goOn_X4_cell
set_option maxRecDepth 20000 in
theorem ggX3_goOn_X0_fillTerms : GoodIn wsX3_goOn wsX0_fillTerms := goodIn_r _ [29, 30, 31, 59, 60, 61, 62, 63, 64, 65, 66, 67, 68, 69, 70, 71, 72, 73] rfl gw_wsX0_fillTerms
set_option maxRecDepth 20000 in
theorem gX3_goOn_X0_fillTerms : GoodIn wsX3_goOn (wsV RX3 81 RX0 yX0_fillTerms wsX0_fillTerms) := goodIn_app (goodIn_of _ (by decide +kernel)) ggX3_goOn_X0_fillTerms
set_option maxRecDepth 20000 in
theorem ggX3_goOn_X4_find : GoodIn wsX3_goOn wsX4_find := goodIn_r _ [35, 36, 37, 38, 39, 17, 40, 20, 19, 74, 75, 76, 77] rfl gw_wsX4_find
set_option maxRecDepth 20000 in
theorem gX3_goOn_X4_find : GoodIn wsX3_goOn (wsV RX3 116 RX4 yX4_find wsX4_find) := goodIn_app (goodIn_of _ (by decide +kernel)) ggX3_goOn_X4_find
set_option maxRecDepth 20000 in
theorem ggX3_goOn_X3_arrive : GoodIn wsX3_goOn wsX3_arrive := goodIn_r _ [45, 8, 13, 1, 3, 4, 5, 6, 46, 47, 48, 17, 49, 36, 50, 19, 51, 20, 52, 53, 54, 55, 74, 75, 76, 77, 56, 57, 58] rfl gw_wsX3_arrive
set_option maxRecDepth 20000 in
theorem gX3_goOn_X3_arrive : GoodIn wsX3_goOn (wsV RX3 141 RX3 yX3_arrive wsX3_arrive) := goodIn_app (goodIn_of _ (by decide +kernel)) ggX3_goOn_X3_arrive
def dtX3_goOn_0_0 : List (Nat × Instr × Nat) := [(0, .aload_n 0, 1), (1, .getfield 20, 3), (4, .iload_n 2, 1), (5, .iconst 4, 1), (6, .imul, 1), (7, .aload_n 0, 1), (8, .getfield 17, 3), (11, .iconst 0, 1), (12, .iconst 4, 1), (13, .invokestatic 148, 3), (16, .aload_n 0, 1), (17, .getfield 17, 3), (20, .aload_n 1, 1), (21, .getfield 154, 3), (24, .iaload, 1), (25, .istore 6, 2), (27, .iconst 0, 1), (28, .istore 7, 2), (30, .iload 7, 2), (32, .aload_n 3, 1), (33, .getfield 23, 3), (36, .if_icmp .ge 122, 3), (39, .aload_n 3, 1), (40, .iload 7, 2), (42, .invokevirtual 70, 3), (45, .ifCond .le 107, 3), (48, .aload_n 3, 1), (49, .iload 7, 2), (51, .aload_n 1, 1), (52, .getfield 157, 3), (55, .invokevirtual 99, 3), (58, .iload 6, 2)]
theorem dtX3_goOn_0_0_ok : dcAll cX3_goOn dtX3_goOn_0_0 = true := by decide +kernel
theorem dX3_goOn_0 : decode cX3_goOn 0 = .ok (.aload_n 0, 1) := dc_of dtX3_goOn_0_0_ok (i := 0) rfl
theorem dX3_goOn_1 : decode cX3_goOn 1 = .ok (.getfield 20, 3) := dc_of dtX3_goOn_0_0_ok (i := 1) rfl
theorem dX3_goOn_4 : decode cX3_goOn 4 = .ok (.iload_n 2, 1) := dc_of dtX3_goOn_0_0_ok (i := 2) rfl
theorem dX3_goOn_5 : decode cX3_goOn 5 = .ok (.iconst 4, 1) := dc_of dtX3_goOn_0_0_ok (i := 3) rfl
theorem dX3_goOn_6 : decode cX3_goOn 6 = .ok (.imul, 1) := dc_of dtX3_goOn_0_0_ok (i := 4) rfl
theorem dX3_goOn_7 : decode cX3_goOn 7 = .ok (.aload_n 0, 1) := dc_of dtX3_goOn_0_0_ok (i := 5) rfl
theorem dX3_goOn_8 : decode cX3_goOn 8 = .ok (.getfield 17, 3) := dc_of dtX3_goOn_0_0_ok (i := 6) rfl
theorem dX3_goOn_11 : decode cX3_goOn 11 = .ok (.iconst 0, 1) := dc_of dtX3_goOn_0_0_ok (i := 7) rfl
theorem dX3_goOn_12 : decode cX3_goOn 12 = .ok (.iconst 4, 1) := dc_of dtX3_goOn_0_0_ok (i := 8) rfl
theorem dX3_goOn_13 : decode cX3_goOn 13 = .ok (.invokestatic 148, 3) := dc_of dtX3_goOn_0_0_ok (i := 9) rfl
theorem dX3_goOn_16 : decode cX3_goOn 16 = .ok (.aload_n 0, 1) := dc_of dtX3_goOn_0_0_ok (i := 10) rfl
theorem dX3_goOn_17 : decode cX3_goOn 17 = .ok (.getfield 17, 3) := dc_of dtX3_goOn_0_0_ok (i := 11) rfl
theorem dX3_goOn_20 : decode cX3_goOn 20 = .ok (.aload_n 1, 1) := dc_of dtX3_goOn_0_0_ok (i := 12) rfl
theorem dX3_goOn_21 : decode cX3_goOn 21 = .ok (.getfield 154, 3) := dc_of dtX3_goOn_0_0_ok (i := 13) rfl
theorem dX3_goOn_24 : decode cX3_goOn 24 = .ok (.iaload, 1) := dc_of dtX3_goOn_0_0_ok (i := 14) rfl
theorem dX3_goOn_25 : decode cX3_goOn 25 = .ok (.istore 6, 2) := dc_of dtX3_goOn_0_0_ok (i := 15) rfl
theorem dX3_goOn_27 : decode cX3_goOn 27 = .ok (.iconst 0, 1) := dc_of dtX3_goOn_0_0_ok (i := 16) rfl
theorem dX3_goOn_28 : decode cX3_goOn 28 = .ok (.istore 7, 2) := dc_of dtX3_goOn_0_0_ok (i := 17) rfl
theorem dX3_goOn_30 : decode cX3_goOn 30 = .ok (.iload 7, 2) := dc_of dtX3_goOn_0_0_ok (i := 18) rfl
theorem dX3_goOn_32 : decode cX3_goOn 32 = .ok (.aload_n 3, 1) := dc_of dtX3_goOn_0_0_ok (i := 19) rfl
theorem dX3_goOn_33 : decode cX3_goOn 33 = .ok (.getfield 23, 3) := dc_of dtX3_goOn_0_0_ok (i := 20) rfl
theorem dX3_goOn_36 : decode cX3_goOn 36 = .ok (.if_icmp .ge 122, 3) := dc_of dtX3_goOn_0_0_ok (i := 21) rfl
theorem dX3_goOn_39 : decode cX3_goOn 39 = .ok (.aload_n 3, 1) := dc_of dtX3_goOn_0_0_ok (i := 22) rfl
theorem dX3_goOn_40 : decode cX3_goOn 40 = .ok (.iload 7, 2) := dc_of dtX3_goOn_0_0_ok (i := 23) rfl
theorem dX3_goOn_42 : decode cX3_goOn 42 = .ok (.invokevirtual 70, 3) := dc_of dtX3_goOn_0_0_ok (i := 24) rfl
theorem dX3_goOn_45 : decode cX3_goOn 45 = .ok (.ifCond .le 107, 3) := dc_of dtX3_goOn_0_0_ok (i := 25) rfl
theorem dX3_goOn_48 : decode cX3_goOn 48 = .ok (.aload_n 3, 1) := dc_of dtX3_goOn_0_0_ok (i := 26) rfl
theorem dX3_goOn_49 : decode cX3_goOn 49 = .ok (.iload 7, 2) := dc_of dtX3_goOn_0_0_ok (i := 27) rfl
theorem dX3_goOn_51 : decode cX3_goOn 51 = .ok (.aload_n 1, 1) := dc_of dtX3_goOn_0_0_ok (i := 28) rfl
theorem dX3_goOn_52 : decode cX3_goOn 52 = .ok (.getfield 157, 3) := dc_of dtX3_goOn_0_0_ok (i := 29) rfl
theorem dX3_goOn_55 : decode cX3_goOn 55 = .ok (.invokevirtual 99, 3) := dc_of dtX3_goOn_0_0_ok (i := 30) rfl
theorem dX3_goOn_58 : decode cX3_goOn 58 = .ok (.iload 6, 2) := dc_of dtX3_goOn_0_0_ok (i := 31) rfl
def dtX3_goOn_60_1 : List (Nat × Instr × Nat) := [(60, .if_icmp .eq 6, 3), (63, .goto 89, 3), (66, .aload_n 3, 1), (67, .getfield 63, 3), (70, .iload 7, 2), (72, .bipush 6, 2), (74, .imul, 1), (75, .aload_n 0, 1), (76, .getfield 17, 3), (79, .aload_n 1, 1), (80, .getfield 96, 3), (83, .aload_n 1, 1), (84, .getfield 103, 3), (87, .invokestatic 148, 3), (90, .aload_n 1, 1), (91, .aload_n 0, 1), (92, .getfield 17, 3), (95, .iconst 0, 1), (96, .aload_n 0, 1), (97, .getfield 11, 3), (100, .invokevirtual 81, 3), (103, .aload 4, 2), (105, .aload_n 0, 1), (106, .getfield 11, 3), (109, .invokevirtual 116, 3), (112, .istore 8, 2), (114, .iload 8, 2), (116, .ifCond .ge 13, 3), (119, .iload 5, 2), (121, .bipush 40, 2), (123, .if_icmp .le 6, 3), (126, .bipush (-4), 2)]
theorem dtX3_goOn_60_1_ok : dcAll cX3_goOn dtX3_goOn_60_1 = true := by decide +kernel
theorem dX3_goOn_60 : decode cX3_goOn 60 = .ok (.if_icmp .eq 6, 3) := dc_of dtX3_goOn_60_1_ok (i := 0) rfl
theorem dX3_goOn_63 : decode cX3_goOn 63 = .ok (.goto 89, 3) := dc_of dtX3_goOn_60_1_ok (i := 1) rfl
theorem dX3_goOn_66 : decode cX3_goOn 66 = .ok (.aload_n 3, 1) := dc_of dtX3_goOn_60_1_ok (i := 2) rfl
theorem dX3_goOn_67 : decode cX3_goOn 67 = .ok (.getfield 63, 3) := dc_of dtX3_goOn_60_1_ok (i := 3) rfl
theorem dX3_goOn_70 : decode cX3_goOn 70 = .ok (.iload 7, 2) := dc_of dtX3_goOn_60_1_ok (i := 4) rfl
theorem dX3_goOn_72 : decode cX3_goOn 72 = .ok (.bipush 6, 2) := dc_of dtX3_goOn_60_1_ok (i := 5) rfl
theorem dX3_goOn_74 : decode cX3_goOn 74 = .ok (.imul, 1) := dc_of dtX3_goOn_60_1_ok (i := 6) rfl
theorem dX3_goOn_75 : decode cX3_goOn 75 = .ok (.aload_n 0, 1) := dc_of dtX3_goOn_60_1_ok (i := 7) rfl
theorem dX3_goOn_76 : decode cX3_goOn 76 = .ok (.getfield 17, 3) := dc_of dtX3_goOn_60_1_ok (i := 8) rfl
theorem dX3_goOn_79 : decode cX3_goOn 79 = .ok (.aload_n 1, 1) := dc_of dtX3_goOn_60_1_ok (i := 9) rfl
theorem dX3_goOn_80 : decode cX3_goOn 80 = .ok (.getfield 96, 3) := dc_of dtX3_goOn_60_1_ok (i := 10) rfl
theorem dX3_goOn_83 : decode cX3_goOn 83 = .ok (.aload_n 1, 1) := dc_of dtX3_goOn_60_1_ok (i := 11) rfl
theorem dX3_goOn_84 : decode cX3_goOn 84 = .ok (.getfield 103, 3) := dc_of dtX3_goOn_60_1_ok (i := 12) rfl
theorem dX3_goOn_87 : decode cX3_goOn 87 = .ok (.invokestatic 148, 3) := dc_of dtX3_goOn_60_1_ok (i := 13) rfl
theorem dX3_goOn_90 : decode cX3_goOn 90 = .ok (.aload_n 1, 1) := dc_of dtX3_goOn_60_1_ok (i := 14) rfl
theorem dX3_goOn_91 : decode cX3_goOn 91 = .ok (.aload_n 0, 1) := dc_of dtX3_goOn_60_1_ok (i := 15) rfl
theorem dX3_goOn_92 : decode cX3_goOn 92 = .ok (.getfield 17, 3) := dc_of dtX3_goOn_60_1_ok (i := 16) rfl
theorem dX3_goOn_95 : decode cX3_goOn 95 = .ok (.iconst 0, 1) := dc_of dtX3_goOn_60_1_ok (i := 17) rfl
theorem dX3_goOn_96 : decode cX3_goOn 96 = .ok (.aload_n 0, 1) := dc_of dtX3_goOn_60_1_ok (i := 18) rfl
theorem dX3_goOn_97 : decode cX3_goOn 97 = .ok (.getfield 11, 3) := dc_of dtX3_goOn_60_1_ok (i := 19) rfl
theorem dX3_goOn_100 : decode cX3_goOn 100 = .ok (.invokevirtual 81, 3) := dc_of dtX3_goOn_60_1_ok (i := 20) rfl
theorem dX3_goOn_103 : decode cX3_goOn 103 = .ok (.aload 4, 2) := dc_of dtX3_goOn_60_1_ok (i := 21) rfl
theorem dX3_goOn_105 : decode cX3_goOn 105 = .ok (.aload_n 0, 1) := dc_of dtX3_goOn_60_1_ok (i := 22) rfl
theorem dX3_goOn_106 : decode cX3_goOn 106 = .ok (.getfield 11, 3) := dc_of dtX3_goOn_60_1_ok (i := 23) rfl
theorem dX3_goOn_109 : decode cX3_goOn 109 = .ok (.invokevirtual 116, 3) := dc_of dtX3_goOn_60_1_ok (i := 24) rfl
theorem dX3_goOn_112 : decode cX3_goOn 112 = .ok (.istore 8, 2) := dc_of dtX3_goOn_60_1_ok (i := 25) rfl
theorem dX3_goOn_114 : decode cX3_goOn 114 = .ok (.iload 8, 2) := dc_of dtX3_goOn_60_1_ok (i := 26) rfl
theorem dX3_goOn_116 : decode cX3_goOn 116 = .ok (.ifCond .ge 13, 3) := dc_of dtX3_goOn_60_1_ok (i := 27) rfl
theorem dX3_goOn_119 : decode cX3_goOn 119 = .ok (.iload 5, 2) := dc_of dtX3_goOn_60_1_ok (i := 28) rfl
theorem dX3_goOn_121 : decode cX3_goOn 121 = .ok (.bipush 40, 2) := dc_of dtX3_goOn_60_1_ok (i := 29) rfl
theorem dX3_goOn_123 : decode cX3_goOn 123 = .ok (.if_icmp .le 6, 3) := dc_of dtX3_goOn_60_1_ok (i := 30) rfl
theorem dX3_goOn_126 : decode cX3_goOn 126 = .ok (.bipush (-4), 2) := dc_of dtX3_goOn_60_1_ok (i := 31) rfl
def dtX3_goOn_128_2 : List (Nat × Instr × Nat) := [(128, .ireturn, 1), (129, .iload 8, 2), (131, .ifCond .ge 21, 3), (134, .aload_n 0, 1), (135, .aload 4, 2), (137, .iconst (-1), 1), (138, .iload 8, 2), (140, .isub, 1), (141, .iload 5, 2), (143, .invokevirtual 141, 3), (146, .ifCond .ne 6, 3), (149, .bipush (-3), 2), (151, .ireturn, 1), (152, .iinc 7 1, 3), (155, .goto (-125), 3), (158, .iconst 0, 1), (159, .ireturn, 1)]
theorem dtX3_goOn_128_2_ok : dcAll cX3_goOn dtX3_goOn_128_2 = true := by decide +kernel
theorem dX3_goOn_128 : decode cX3_goOn 128 = .ok (.ireturn, 1) := dc_of dtX3_goOn_128_2_ok (i := 0) rfl
theorem dX3_goOn_129 : decode cX3_goOn 129 = .ok (.iload 8, 2) := dc_of dtX3_goOn_128_2_ok (i := 1) rfl
theorem dX3_goOn_131 : decode cX3_goOn 131 = .ok (.ifCond .ge 21, 3) := dc_of dtX3_goOn_128_2_ok (i := 2) rfl
theorem dX3_goOn_134 : decode cX3_goOn 134 = .ok (.aload_n 0, 1) := dc_of dtX3_goOn_128_2_ok (i := 3) rfl
theorem dX3_goOn_135 : decode cX3_goOn 135 = .ok (.aload 4, 2) := dc_of dtX3_goOn_128_2_ok (i := 4) rfl
theorem dX3_goOn_137 : decode cX3_goOn 137 = .ok (.iconst (-1), 1) := dc_of dtX3_goOn_128_2_ok (i := 5) rfl
theorem dX3_goOn_138 : decode cX3_goOn 138 = .ok (.iload 8, 2) := dc_of dtX3_goOn_128_2_ok (i := 6) rfl
theorem dX3_goOn_140 : decode cX3_goOn 140 = .ok (.isub, 1) := dc_of dtX3_goOn_128_2_ok (i := 7) rfl
theorem dX3_goOn_141 : decode cX3_goOn 141 = .ok (.iload 5, 2) := dc_of dtX3_goOn_128_2_ok (i := 8) rfl
theorem dX3_goOn_143 : decode cX3_goOn 143 = .ok (.invokevirtual 141, 3) := dc_of dtX3_goOn_128_2_ok (i := 9) rfl
theorem dX3_goOn_146 : decode cX3_goOn 146 = .ok (.ifCond .ne 6, 3) := dc_of dtX3_goOn_128_2_ok (i := 10) rfl
theorem dX3_goOn_149 : decode cX3_goOn 149 = .ok (.bipush (-3), 2) := dc_of dtX3_goOn_128_2_ok (i := 11) rfl
theorem dX3_goOn_151 : decode cX3_goOn 151 = .ok (.ireturn, 1) := dc_of dtX3_goOn_128_2_ok (i := 12) rfl
theorem dX3_goOn_152 : decode cX3_goOn 152 = .ok (.iinc 7 1, 3) := dc_of dtX3_goOn_128_2_ok (i := 13) rfl
theorem dX3_goOn_155 : decode cX3_goOn 155 = .ok (.goto (-125), 3) := dc_of dtX3_goOn_128_2_ok (i := 14) rfl
theorem dX3_goOn_158 : decode cX3_goOn 158 = .ok (.iconst 0, 1) := dc_of dtX3_goOn_128_2_ok (i := 15) rfl
theorem dX3_goOn_159 : decode cX3_goOn 159 = .ok (.ireturn, 1) := dc_of dtX3_goOn_128_2_ok (i := 16) rfl
def dtX4_init_0_0 : List (Nat × Instr × Nat) := [(0, .aload_n 0, 1), (1, .invokespecial 1, 3), (4, .aload_n 0, 1), (5, .iload_n 1, 1), (6, .putfield 7, 3), (9, .aload_n 0, 1), (10, .iload_n 2, 1), (11, .putfield 13, 3), (14, .aload_n 0, 1), (15, .iload_n 2, 1), (16, .bipush 6, 2), (18, .imul, 1), (19, .newarray .int, 2), (21, .putfield 16, 3), (24, .return_, 1)]
theorem dtX4_init_0_0_ok : dcAll cX4_init dtX4_init_0_0 = true := by decide +kernel
theorem dX4_init_0 : decode cX4_init 0 = .ok (.aload_n 0, 1) := dc_of dtX4_init_0_0_ok (i := 0) rfl
theorem dX4_init_1 : decode cX4_init 1 = .ok (.invokespecial 1, 3) := dc_of dtX4_init_0_0_ok (i := 1) rfl
theorem dX4_init_4 : decode cX4_init 4 = .ok (.aload_n 0, 1) := dc_of dtX4_init_0_0_ok (i := 2) rfl
theorem dX4_init_5 : decode cX4_init 5 = .ok (.iload_n 1, 1) := dc_of dtX4_init_0_0_ok (i := 3) rfl
theorem dX4_init_6 : decode cX4_init 6 = .ok (.putfield 7, 3) := dc_of dtX4_init_0_0_ok (i := 4) rfl
theorem dX4_init_9 : decode cX4_init 9 = .ok (.aload_n 0, 1) := dc_of dtX4_init_0_0_ok (i := 5) rfl
theorem dX4_init_10 : decode cX4_init 10 = .ok (.iload_n 2, 1) := dc_of dtX4_init_0_0_ok (i := 6) rfl
theorem dX4_init_11 : decode cX4_init 11 = .ok (.putfield 13, 3) := dc_of dtX4_init_0_0_ok (i := 7) rfl
theorem dX4_init_14 : decode cX4_init 14 = .ok (.aload_n 0, 1) := dc_of dtX4_init_0_0_ok (i := 8) rfl
theorem dX4_init_15 : decode cX4_init 15 = .ok (.iload_n 2, 1) := dc_of dtX4_init_0_0_ok (i := 9) rfl
theorem dX4_init_16 : decode cX4_init 16 = .ok (.bipush 6, 2) := dc_of dtX4_init_0_0_ok (i := 10) rfl
theorem dX4_init_18 : decode cX4_init 18 = .ok (.imul, 1) := dc_of dtX4_init_0_0_ok (i := 11) rfl
theorem dX4_init_19 : decode cX4_init 19 = .ok (.newarray .int, 2) := dc_of dtX4_init_0_0_ok (i := 12) rfl
theorem dX4_init_21 : decode cX4_init 21 = .ok (.putfield 16, 3) := dc_of dtX4_init_0_0_ok (i := 13) rfl
theorem dX4_init_24 : decode cX4_init 24 = .ok (.return_, 1) := dc_of dtX4_init_0_0_ok (i := 14) rfl
def dtX4_cell_0_0 : List (Nat × Instr × Nat) := [(0, .aload_n 0, 1), (1, .getfield 16, 3), (4, .iload_n 1, 1), (5, .bipush 6, 2), (7, .imul, 1), (8, .iload_n 2, 1), (9, .iadd, 1), (10, .iaload, 1), (11, .ireturn, 1)]
theorem dtX4_cell_0_0_ok : dcAll cX4_cell dtX4_cell_0_0 = true := by decide +kernel
theorem dX4_cell_0 : decode cX4_cell 0 = .ok (.aload_n 0, 1) := dc_of dtX4_cell_0_0_ok (i := 0) rfl
theorem dX4_cell_1 : decode cX4_cell 1 = .ok (.getfield 16, 3) := dc_of dtX4_cell_0_0_ok (i := 1) rfl
theorem dX4_cell_4 : decode cX4_cell 4 = .ok (.iload_n 1, 1) := dc_of dtX4_cell_0_0_ok (i := 2) rfl
theorem dX4_cell_5 : decode cX4_cell 5 = .ok (.bipush 6, 2) := dc_of dtX4_cell_0_0_ok (i := 3) rfl
theorem dX4_cell_7 : decode cX4_cell 7 = .ok (.imul, 1) := dc_of dtX4_cell_0_0_ok (i := 4) rfl
theorem dX4_cell_8 : decode cX4_cell 8 = .ok (.iload_n 2, 1) := dc_of dtX4_cell_0_0_ok (i := 5) rfl
theorem dX4_cell_9 : decode cX4_cell 9 = .ok (.iadd, 1) := dc_of dtX4_cell_0_0_ok (i := 6) rfl
theorem dX4_cell_10 : decode cX4_cell 10 = .ok (.iaload, 1) := dc_of dtX4_cell_0_0_ok (i := 7) rfl
theorem dX4_cell_11 : decode cX4_cell 11 = .ok (.ireturn, 1) := dc_of dtX4_cell_0_0_ok (i := 8) rfl
def dtX4_setCell_0_0 : List (Nat × Instr × Nat) := [(0, .aload_n 0, 1), (1, .getfield 16, 3), (4, .iload_n 1, 1), (5, .bipush 6, 2), (7, .imul, 1), (8, .iload_n 2, 1), (9, .iadd, 1), (10, .iload_n 3, 1), (11, .iastore, 1), (12, .return_, 1)]
theorem dtX4_setCell_0_0_ok : dcAll cX4_setCell dtX4_setCell_0_0 = true := by decide +kernel
theorem dX4_setCell_0 : decode cX4_setCell 0 = .ok (.aload_n 0, 1) := dc_of dtX4_setCell_0_0_ok (i := 0) rfl
theorem dX4_setCell_1 : decode cX4_setCell 1 = .ok (.getfield 16, 3) := dc_of dtX4_setCell_0_0_ok (i := 1) rfl
theorem dX4_setCell_4 : decode cX4_setCell 4 = .ok (.iload_n 1, 1) := dc_of dtX4_setCell_0_0_ok (i := 2) rfl
theorem dX4_setCell_5 : decode cX4_setCell 5 = .ok (.bipush 6, 2) := dc_of dtX4_setCell_0_0_ok (i := 3) rfl
theorem dX4_setCell_7 : decode cX4_setCell 7 = .ok (.imul, 1) := dc_of dtX4_setCell_0_0_ok (i := 4) rfl
theorem dX4_setCell_8 : decode cX4_setCell 8 = .ok (.iload_n 2, 1) := dc_of dtX4_setCell_0_0_ok (i := 5) rfl
theorem dX4_setCell_9 : decode cX4_setCell 9 = .ok (.iadd, 1) := dc_of dtX4_setCell_0_0_ok (i := 6) rfl
theorem dX4_setCell_10 : decode cX4_setCell 10 = .ok (.iload_n 3, 1) := dc_of dtX4_setCell_0_0_ok (i := 7) rfl
theorem dX4_setCell_11 : decode cX4_setCell 11 = .ok (.iastore, 1) := dc_of dtX4_setCell_0_0_ok (i := 8) rfl
theorem dX4_setCell_12 : decode cX4_setCell 12 = .ok (.return_, 1) := dc_of dtX4_setCell_0_0_ok (i := 9) rfl
def dtX4_amount_0_0 : List (Nat × Instr × Nat) := [(0, .aload_n 0, 1), (1, .getfield 16, 3), (4, .iload_n 1, 1), (5, .bipush 6, 2), (7, .imul, 1), (8, .aload_n 0, 1), (9, .getfield 7, 3), (12, .iadd, 1), (13, .iaload, 1), (14, .ireturn, 1)]
theorem dtX4_amount_0_0_ok : dcAll cX4_amount dtX4_amount_0_0 = true := by decide +kernel
theorem dX4_amount_0 : decode cX4_amount 0 = .ok (.aload_n 0, 1) := dc_of dtX4_amount_0_0_ok (i := 0) rfl
theorem dX4_amount_1 : decode cX4_amount 1 = .ok (.getfield 16, 3) := dc_of dtX4_amount_0_0_ok (i := 1) rfl
theorem dX4_amount_4 : decode cX4_amount 4 = .ok (.iload_n 1, 1) := dc_of dtX4_amount_0_0_ok (i := 2) rfl
theorem dX4_amount_5 : decode cX4_amount 5 = .ok (.bipush 6, 2) := dc_of dtX4_amount_0_0_ok (i := 3) rfl
theorem dX4_amount_7 : decode cX4_amount 7 = .ok (.imul, 1) := dc_of dtX4_amount_0_0_ok (i := 4) rfl
theorem dX4_amount_8 : decode cX4_amount 8 = .ok (.aload_n 0, 1) := dc_of dtX4_amount_0_0_ok (i := 5) rfl
theorem dX4_amount_9 : decode cX4_amount 9 = .ok (.getfield 7, 3) := dc_of dtX4_amount_0_0_ok (i := 6) rfl
theorem dX4_amount_12 : decode cX4_amount 12 = .ok (.iadd, 1) := dc_of dtX4_amount_0_0_ok (i := 7) rfl
theorem dX4_amount_13 : decode cX4_amount 13 = .ok (.iaload, 1) := dc_of dtX4_amount_0_0_ok (i := 8) rfl
theorem dX4_amount_14 : decode cX4_amount 14 = .ok (.ireturn, 1) := dc_of dtX4_amount_0_0_ok (i := 9) rfl
set_option maxRecDepth 20000 in
theorem ggX4_amountOf_X4_find : GoodIn wsX4_amountOf wsX4_find := goodIn_r _ [5, 6, 7, 8, 9, 4, 10, 11, 12, 17, 18, 19, 20] rfl gw_wsX4_find
set_option maxRecDepth 20000 in
theorem gX4_amountOf_X4_find : GoodIn wsX4_amountOf (wsV RX4 20 RX4 yX4_find wsX4_find) := goodIn_app (goodIn_of _ (by decide +kernel)) ggX4_amountOf_X4_find
set_option maxRecDepth 20000 in
theorem ggX4_amountOf_X4_amount : GoodIn wsX4_amountOf wsX4_amount := goodIn_r _ [16, 12, 11, 17, 18, 19, 20] rfl gw_wsX4_amount
set_option maxRecDepth 20000 in
theorem gX4_amountOf_X4_amount : GoodIn wsX4_amountOf (wsV RX4 24 RX4 yX4_amount wsX4_amount) := goodIn_app (goodIn_of _ (by decide +kernel)) ggX4_amountOf_X4_amount
def dtX4_amountOf_0_0 : List (Nat × Instr × Nat) := [(0, .aload_n 0, 1), (1, .aload_n 1, 1), (2, .invokevirtual 20, 3), (5, .istore_n 2, 1), (6, .iload_n 2, 1), (7, .ifCond .ge 7, 3), (10, .iconst 0, 1), (11, .goto 8, 3), (14, .aload_n 0, 1), (15, .iload_n 2, 1), (16, .invokevirtual 24, 3), (19, .ireturn, 1)]
theorem dtX4_amountOf_0_0_ok : dcAll cX4_amountOf dtX4_amountOf_0_0 = true := by decide +kernel
theorem dX4_amountOf_0 : decode cX4_amountOf 0 = .ok (.aload_n 0, 1) := dc_of dtX4_amountOf_0_0_ok (i := 0) rfl
theorem dX4_amountOf_1 : decode cX4_amountOf 1 = .ok (.aload_n 1, 1) := dc_of dtX4_amountOf_0_0_ok (i := 1) rfl
theorem dX4_amountOf_2 : decode cX4_amountOf 2 = .ok (.invokevirtual 20, 3) := dc_of dtX4_amountOf_0_0_ok (i := 2) rfl
theorem dX4_amountOf_5 : decode cX4_amountOf 5 = .ok (.istore_n 2, 1) := dc_of dtX4_amountOf_0_0_ok (i := 3) rfl
theorem dX4_amountOf_6 : decode cX4_amountOf 6 = .ok (.iload_n 2, 1) := dc_of dtX4_amountOf_0_0_ok (i := 4) rfl
theorem dX4_amountOf_7 : decode cX4_amountOf 7 = .ok (.ifCond .ge 7, 3) := dc_of dtX4_amountOf_0_0_ok (i := 5) rfl
theorem dX4_amountOf_10 : decode cX4_amountOf 10 = .ok (.iconst 0, 1) := dc_of dtX4_amountOf_0_0_ok (i := 6) rfl
theorem dX4_amountOf_11 : decode cX4_amountOf 11 = .ok (.goto 8, 3) := dc_of dtX4_amountOf_0_0_ok (i := 7) rfl
theorem dX4_amountOf_14 : decode cX4_amountOf 14 = .ok (.aload_n 0, 1) := dc_of dtX4_amountOf_0_0_ok (i := 8) rfl
theorem dX4_amountOf_15 : decode cX4_amountOf 15 = .ok (.iload_n 2, 1) := dc_of dtX4_amountOf_0_0_ok (i := 9) rfl
theorem dX4_amountOf_16 : decode cX4_amountOf 16 = .ok (.invokevirtual 24, 3) := dc_of dtX4_amountOf_0_0_ok (i := 10) rfl
theorem dX4_amountOf_19 : decode cX4_amountOf 19 = .ok (.ireturn, 1) := dc_of dtX4_amountOf_0_0_ok (i := 11) rfl
def dtX4_copyKey_0_0 : List (Nat × Instr × Nat) := [(0, .aload_n 0, 1), (1, .getfield 16, 3), (4, .iload_n 1, 1), (5, .bipush 6, 2), (7, .imul, 1), (8, .iload_n 2, 1), (9, .iadd, 1), (10, .aload_n 3, 1), (11, .iconst 0, 1), (12, .aload_n 0, 1), (13, .getfield 7, 3), (16, .iload_n 2, 1), (17, .isub, 1), (18, .invokestatic 28, 3), (21, .return_, 1)]
theorem dtX4_copyKey_0_0_ok : dcAll cX4_copyKey dtX4_copyKey_0_0 = true := by decide +kernel
theorem dX4_copyKey_0 : decode cX4_copyKey 0 = .ok (.aload_n 0, 1) := dc_of dtX4_copyKey_0_0_ok (i := 0) rfl
theorem dX4_copyKey_1 : decode cX4_copyKey 1 = .ok (.getfield 16, 3) := dc_of dtX4_copyKey_0_0_ok (i := 1) rfl
theorem dX4_copyKey_4 : decode cX4_copyKey 4 = .ok (.iload_n 1, 1) := dc_of dtX4_copyKey_0_0_ok (i := 2) rfl
theorem dX4_copyKey_5 : decode cX4_copyKey 5 = .ok (.bipush 6, 2) := dc_of dtX4_copyKey_0_0_ok (i := 3) rfl
theorem dX4_copyKey_7 : decode cX4_copyKey 7 = .ok (.imul, 1) := dc_of dtX4_copyKey_0_0_ok (i := 4) rfl
theorem dX4_copyKey_8 : decode cX4_copyKey 8 = .ok (.iload_n 2, 1) := dc_of dtX4_copyKey_0_0_ok (i := 5) rfl
theorem dX4_copyKey_9 : decode cX4_copyKey 9 = .ok (.iadd, 1) := dc_of dtX4_copyKey_0_0_ok (i := 6) rfl
theorem dX4_copyKey_10 : decode cX4_copyKey 10 = .ok (.aload_n 3, 1) := dc_of dtX4_copyKey_0_0_ok (i := 7) rfl
theorem dX4_copyKey_11 : decode cX4_copyKey 11 = .ok (.iconst 0, 1) := dc_of dtX4_copyKey_0_0_ok (i := 8) rfl
theorem dX4_copyKey_12 : decode cX4_copyKey 12 = .ok (.aload_n 0, 1) := dc_of dtX4_copyKey_0_0_ok (i := 9) rfl
theorem dX4_copyKey_13 : decode cX4_copyKey 13 = .ok (.getfield 7, 3) := dc_of dtX4_copyKey_0_0_ok (i := 10) rfl
theorem dX4_copyKey_16 : decode cX4_copyKey 16 = .ok (.iload_n 2, 1) := dc_of dtX4_copyKey_0_0_ok (i := 11) rfl
theorem dX4_copyKey_17 : decode cX4_copyKey 17 = .ok (.isub, 1) := dc_of dtX4_copyKey_0_0_ok (i := 12) rfl
theorem dX4_copyKey_18 : decode cX4_copyKey 18 = .ok (.invokestatic 28, 3) := dc_of dtX4_copyKey_0_0_ok (i := 13) rfl
theorem dX4_copyKey_21 : decode cX4_copyKey 21 = .ok (.return_, 1) := dc_of dtX4_copyKey_0_0_ok (i := 14) rfl
set_option maxRecDepth 20000 in
theorem gw_wsX4_compareRow : wsX4_compareRow.all goodWord = true := by decide +kernel
set_option maxRecDepth 20000 in
theorem ggX4_find_X4_compareRow : GoodIn wsX4_find wsX4_compareRow := goodIn_r _ [6, 7, 8, 9, 10, 11, 12] rfl gw_wsX4_compareRow
set_option maxRecDepth 20000 in
theorem gX4_find_X4_compareRow : GoodIn wsX4_find (wsV RX4 37 RX4 yX4_compareRow wsX4_compareRow) := goodIn_app (goodIn_of _ (by decide +kernel)) ggX4_find_X4_compareRow
def dtX4_find_0_0 : List (Nat × Instr × Nat) := [(0, .iconst 0, 1), (1, .istore_n 2, 1), (2, .aload_n 0, 1), (3, .getfield 34, 3), (6, .istore_n 3, 1), (7, .iload_n 2, 1), (8, .iload_n 3, 1), (9, .if_icmp .ge 47, 3), (12, .iload_n 2, 1), (13, .iload_n 3, 1), (14, .iadd, 1), (15, .iconst 1, 1), (16, .iushr, 1), (17, .istore 4, 2), (19, .aload_n 0, 1), (20, .iload 4, 2), (22, .aload_n 1, 1), (23, .iconst 0, 1), (24, .invokevirtual 37, 3), (27, .istore 5, 2), (29, .iload 5, 2), (31, .ifCond .ne 6, 3), (34, .iload 4, 2), (36, .ireturn, 1), (37, .iload 5, 2), (39, .ifCond .ge 11, 3), (42, .iload 4, 2), (44, .iconst 1, 1), (45, .iadd, 1), (46, .istore_n 2, 1), (47, .goto 6, 3), (50, .iload 4, 2)]
theorem dtX4_find_0_0_ok : dcAll cX4_find dtX4_find_0_0 = true := by decide +kernel
theorem dX4_find_0 : decode cX4_find 0 = .ok (.iconst 0, 1) := dc_of dtX4_find_0_0_ok (i := 0) rfl
theorem dX4_find_1 : decode cX4_find 1 = .ok (.istore_n 2, 1) := dc_of dtX4_find_0_0_ok (i := 1) rfl
theorem dX4_find_2 : decode cX4_find 2 = .ok (.aload_n 0, 1) := dc_of dtX4_find_0_0_ok (i := 2) rfl
theorem dX4_find_3 : decode cX4_find 3 = .ok (.getfield 34, 3) := dc_of dtX4_find_0_0_ok (i := 3) rfl
theorem dX4_find_6 : decode cX4_find 6 = .ok (.istore_n 3, 1) := dc_of dtX4_find_0_0_ok (i := 4) rfl
theorem dX4_find_7 : decode cX4_find 7 = .ok (.iload_n 2, 1) := dc_of dtX4_find_0_0_ok (i := 5) rfl
theorem dX4_find_8 : decode cX4_find 8 = .ok (.iload_n 3, 1) := dc_of dtX4_find_0_0_ok (i := 6) rfl
theorem dX4_find_9 : decode cX4_find 9 = .ok (.if_icmp .ge 47, 3) := dc_of dtX4_find_0_0_ok (i := 7) rfl
theorem dX4_find_12 : decode cX4_find 12 = .ok (.iload_n 2, 1) := dc_of dtX4_find_0_0_ok (i := 8) rfl
theorem dX4_find_13 : decode cX4_find 13 = .ok (.iload_n 3, 1) := dc_of dtX4_find_0_0_ok (i := 9) rfl
theorem dX4_find_14 : decode cX4_find 14 = .ok (.iadd, 1) := dc_of dtX4_find_0_0_ok (i := 10) rfl
theorem dX4_find_15 : decode cX4_find 15 = .ok (.iconst 1, 1) := dc_of dtX4_find_0_0_ok (i := 11) rfl
theorem dX4_find_16 : decode cX4_find 16 = .ok (.iushr, 1) := dc_of dtX4_find_0_0_ok (i := 12) rfl
theorem dX4_find_17 : decode cX4_find 17 = .ok (.istore 4, 2) := dc_of dtX4_find_0_0_ok (i := 13) rfl
theorem dX4_find_19 : decode cX4_find 19 = .ok (.aload_n 0, 1) := dc_of dtX4_find_0_0_ok (i := 14) rfl
theorem dX4_find_20 : decode cX4_find 20 = .ok (.iload 4, 2) := dc_of dtX4_find_0_0_ok (i := 15) rfl
theorem dX4_find_22 : decode cX4_find 22 = .ok (.aload_n 1, 1) := dc_of dtX4_find_0_0_ok (i := 16) rfl
theorem dX4_find_23 : decode cX4_find 23 = .ok (.iconst 0, 1) := dc_of dtX4_find_0_0_ok (i := 17) rfl
theorem dX4_find_24 : decode cX4_find 24 = .ok (.invokevirtual 37, 3) := dc_of dtX4_find_0_0_ok (i := 18) rfl
theorem dX4_find_27 : decode cX4_find 27 = .ok (.istore 5, 2) := dc_of dtX4_find_0_0_ok (i := 19) rfl
theorem dX4_find_29 : decode cX4_find 29 = .ok (.iload 5, 2) := dc_of dtX4_find_0_0_ok (i := 20) rfl
theorem dX4_find_31 : decode cX4_find 31 = .ok (.ifCond .ne 6, 3) := dc_of dtX4_find_0_0_ok (i := 21) rfl
theorem dX4_find_34 : decode cX4_find 34 = .ok (.iload 4, 2) := dc_of dtX4_find_0_0_ok (i := 22) rfl
theorem dX4_find_36 : decode cX4_find 36 = .ok (.ireturn, 1) := dc_of dtX4_find_0_0_ok (i := 23) rfl
theorem dX4_find_37 : decode cX4_find 37 = .ok (.iload 5, 2) := dc_of dtX4_find_0_0_ok (i := 24) rfl
theorem dX4_find_39 : decode cX4_find 39 = .ok (.ifCond .ge 11, 3) := dc_of dtX4_find_0_0_ok (i := 25) rfl
theorem dX4_find_42 : decode cX4_find 42 = .ok (.iload 4, 2) := dc_of dtX4_find_0_0_ok (i := 26) rfl
theorem dX4_find_44 : decode cX4_find 44 = .ok (.iconst 1, 1) := dc_of dtX4_find_0_0_ok (i := 27) rfl
theorem dX4_find_45 : decode cX4_find 45 = .ok (.iadd, 1) := dc_of dtX4_find_0_0_ok (i := 28) rfl
theorem dX4_find_46 : decode cX4_find 46 = .ok (.istore_n 2, 1) := dc_of dtX4_find_0_0_ok (i := 29) rfl
theorem dX4_find_47 : decode cX4_find 47 = .ok (.goto 6, 3) := dc_of dtX4_find_0_0_ok (i := 30) rfl
theorem dX4_find_50 : decode cX4_find 50 = .ok (.iload 4, 2) := dc_of dtX4_find_0_0_ok (i := 31) rfl
def dtX4_find_52_1 : List (Nat × Instr × Nat) := [(52, .istore_n 3, 1), (53, .goto (-46), 3), (56, .iconst (-1), 1), (57, .iload_n 2, 1), (58, .isub, 1), (59, .ireturn, 1)]
theorem dtX4_find_52_1_ok : dcAll cX4_find dtX4_find_52_1 = true := by decide +kernel
theorem dX4_find_52 : decode cX4_find 52 = .ok (.istore_n 3, 1) := dc_of dtX4_find_52_1_ok (i := 0) rfl
theorem dX4_find_53 : decode cX4_find 53 = .ok (.goto (-46), 3) := dc_of dtX4_find_52_1_ok (i := 1) rfl
theorem dX4_find_56 : decode cX4_find 56 = .ok (.iconst (-1), 1) := dc_of dtX4_find_52_1_ok (i := 2) rfl
theorem dX4_find_57 : decode cX4_find 57 = .ok (.iload_n 2, 1) := dc_of dtX4_find_52_1_ok (i := 3) rfl
theorem dX4_find_58 : decode cX4_find 58 = .ok (.isub, 1) := dc_of dtX4_find_52_1_ok (i := 4) rfl
theorem dX4_find_59 : decode cX4_find 59 = .ok (.ireturn, 1) := dc_of dtX4_find_52_1_ok (i := 5) rfl
def dtX4_compareRow_0_0 : List (Nat × Instr × Nat) := [(0, .iload_n 1, 1), (1, .bipush 6, 2), (3, .imul, 1), (4, .istore 4, 2), (6, .iconst 0, 1), (7, .istore 5, 2), (9, .iload 5, 2), (11, .aload_n 0, 1), (12, .getfield 7, 3), (15, .if_icmp .ge 49, 3), (18, .aload_n 0, 1), (19, .getfield 16, 3), (22, .iload 4, 2), (24, .iload 5, 2), (26, .iadd, 1), (27, .iaload, 1), (28, .istore 6, 2), (30, .aload_n 2, 1), (31, .iload_n 3, 1), (32, .iload 5, 2), (34, .iadd, 1), (35, .iaload, 1), (36, .istore 7, 2), (38, .iload 6, 2), (40, .iload 7, 2), (42, .if_icmp .eq 16, 3), (45, .iload 6, 2), (47, .iload 7, 2), (49, .if_icmp .ge 7, 3), (52, .iconst (-1), 1), (53, .goto 4, 3), (56, .iconst 1, 1)]
theorem dtX4_compareRow_0_0_ok : dcAll cX4_compareRow dtX4_compareRow_0_0 = true := by decide +kernel
theorem dX4_compareRow_0 : decode cX4_compareRow 0 = .ok (.iload_n 1, 1) := dc_of dtX4_compareRow_0_0_ok (i := 0) rfl
theorem dX4_compareRow_1 : decode cX4_compareRow 1 = .ok (.bipush 6, 2) := dc_of dtX4_compareRow_0_0_ok (i := 1) rfl
theorem dX4_compareRow_3 : decode cX4_compareRow 3 = .ok (.imul, 1) := dc_of dtX4_compareRow_0_0_ok (i := 2) rfl
theorem dX4_compareRow_4 : decode cX4_compareRow 4 = .ok (.istore 4, 2) := dc_of dtX4_compareRow_0_0_ok (i := 3) rfl
theorem dX4_compareRow_6 : decode cX4_compareRow 6 = .ok (.iconst 0, 1) := dc_of dtX4_compareRow_0_0_ok (i := 4) rfl
theorem dX4_compareRow_7 : decode cX4_compareRow 7 = .ok (.istore 5, 2) := dc_of dtX4_compareRow_0_0_ok (i := 5) rfl
theorem dX4_compareRow_9 : decode cX4_compareRow 9 = .ok (.iload 5, 2) := dc_of dtX4_compareRow_0_0_ok (i := 6) rfl
theorem dX4_compareRow_11 : decode cX4_compareRow 11 = .ok (.aload_n 0, 1) := dc_of dtX4_compareRow_0_0_ok (i := 7) rfl
theorem dX4_compareRow_12 : decode cX4_compareRow 12 = .ok (.getfield 7, 3) := dc_of dtX4_compareRow_0_0_ok (i := 8) rfl
theorem dX4_compareRow_15 : decode cX4_compareRow 15 = .ok (.if_icmp .ge 49, 3) := dc_of dtX4_compareRow_0_0_ok (i := 9) rfl
theorem dX4_compareRow_18 : decode cX4_compareRow 18 = .ok (.aload_n 0, 1) := dc_of dtX4_compareRow_0_0_ok (i := 10) rfl
theorem dX4_compareRow_19 : decode cX4_compareRow 19 = .ok (.getfield 16, 3) := dc_of dtX4_compareRow_0_0_ok (i := 11) rfl
theorem dX4_compareRow_22 : decode cX4_compareRow 22 = .ok (.iload 4, 2) := dc_of dtX4_compareRow_0_0_ok (i := 12) rfl
theorem dX4_compareRow_24 : decode cX4_compareRow 24 = .ok (.iload 5, 2) := dc_of dtX4_compareRow_0_0_ok (i := 13) rfl
theorem dX4_compareRow_26 : decode cX4_compareRow 26 = .ok (.iadd, 1) := dc_of dtX4_compareRow_0_0_ok (i := 14) rfl
theorem dX4_compareRow_27 : decode cX4_compareRow 27 = .ok (.iaload, 1) := dc_of dtX4_compareRow_0_0_ok (i := 15) rfl
theorem dX4_compareRow_28 : decode cX4_compareRow 28 = .ok (.istore 6, 2) := dc_of dtX4_compareRow_0_0_ok (i := 16) rfl
theorem dX4_compareRow_30 : decode cX4_compareRow 30 = .ok (.aload_n 2, 1) := dc_of dtX4_compareRow_0_0_ok (i := 17) rfl
theorem dX4_compareRow_31 : decode cX4_compareRow 31 = .ok (.iload_n 3, 1) := dc_of dtX4_compareRow_0_0_ok (i := 18) rfl
theorem dX4_compareRow_32 : decode cX4_compareRow 32 = .ok (.iload 5, 2) := dc_of dtX4_compareRow_0_0_ok (i := 19) rfl
theorem dX4_compareRow_34 : decode cX4_compareRow 34 = .ok (.iadd, 1) := dc_of dtX4_compareRow_0_0_ok (i := 20) rfl
theorem dX4_compareRow_35 : decode cX4_compareRow 35 = .ok (.iaload, 1) := dc_of dtX4_compareRow_0_0_ok (i := 21) rfl
theorem dX4_compareRow_36 : decode cX4_compareRow 36 = .ok (.istore 7, 2) := dc_of dtX4_compareRow_0_0_ok (i := 22) rfl
theorem dX4_compareRow_38 : decode cX4_compareRow 38 = .ok (.iload 6, 2) := dc_of dtX4_compareRow_0_0_ok (i := 23) rfl
theorem dX4_compareRow_40 : decode cX4_compareRow 40 = .ok (.iload 7, 2) := dc_of dtX4_compareRow_0_0_ok (i := 24) rfl
theorem dX4_compareRow_42 : decode cX4_compareRow 42 = .ok (.if_icmp .eq 16, 3) := dc_of dtX4_compareRow_0_0_ok (i := 25) rfl
theorem dX4_compareRow_45 : decode cX4_compareRow 45 = .ok (.iload 6, 2) := dc_of dtX4_compareRow_0_0_ok (i := 26) rfl
theorem dX4_compareRow_47 : decode cX4_compareRow 47 = .ok (.iload 7, 2) := dc_of dtX4_compareRow_0_0_ok (i := 27) rfl
theorem dX4_compareRow_49 : decode cX4_compareRow 49 = .ok (.if_icmp .ge 7, 3) := dc_of dtX4_compareRow_0_0_ok (i := 28) rfl
theorem dX4_compareRow_52 : decode cX4_compareRow 52 = .ok (.iconst (-1), 1) := dc_of dtX4_compareRow_0_0_ok (i := 29) rfl
theorem dX4_compareRow_53 : decode cX4_compareRow 53 = .ok (.goto 4, 3) := dc_of dtX4_compareRow_0_0_ok (i := 30) rfl
theorem dX4_compareRow_56 : decode cX4_compareRow 56 = .ok (.iconst 1, 1) := dc_of dtX4_compareRow_0_0_ok (i := 31) rfl
def dtX4_compareRow_57_1 : List (Nat × Instr × Nat) := [(57, .ireturn, 1), (58, .iinc 5 1, 3), (61, .goto (-52), 3), (64, .iconst 0, 1), (65, .ireturn, 1)]
theorem dtX4_compareRow_57_1_ok : dcAll cX4_compareRow dtX4_compareRow_57_1 = true := by decide +kernel
theorem dX4_compareRow_57 : decode cX4_compareRow 57 = .ok (.ireturn, 1) := dc_of dtX4_compareRow_57_1_ok (i := 0) rfl
theorem dX4_compareRow_58 : decode cX4_compareRow 58 = .ok (.iinc 5 1, 3) := dc_of dtX4_compareRow_57_1_ok (i := 1) rfl
theorem dX4_compareRow_61 : decode cX4_compareRow 61 = .ok (.goto (-52), 3) := dc_of dtX4_compareRow_57_1_ok (i := 2) rfl
theorem dX4_compareRow_64 : decode cX4_compareRow 64 = .ok (.iconst 0, 1) := dc_of dtX4_compareRow_57_1_ok (i := 3) rfl
theorem dX4_compareRow_65 : decode cX4_compareRow 65 = .ok (.ireturn, 1) := dc_of dtX4_compareRow_57_1_ok (i := 4) rfl
set_option maxRecDepth 20000 in
theorem ggX4_addAmount_X4_find : GoodIn wsX4_addAmount wsX4_find := goodIn_r _ [6, 7, 8, 9, 10, 5, 11, 1, 12, 34, 35, 36, 37] rfl gw_wsX4_find
set_option maxRecDepth 20000 in
theorem gX4_addAmount_X4_find : GoodIn wsX4_addAmount (wsV RX4 20 RX4 yX4_find wsX4_find) := goodIn_app (goodIn_of _ (by decide +kernel)) ggX4_addAmount_X4_find
set_option maxRecDepth 20000 in
theorem ggX4_addAmount_X4_insert : GoodIn wsX4_addAmount wsX4_insert := goodIn_r _ [16, 7, 17, 12, 18, 19, 20, 21, 1, 34, 35, 36, 37] rfl gw_wsX4_insert
set_option maxRecDepth 20000 in
theorem gX4_addAmount_X4_insert : GoodIn wsX4_addAmount (wsV RX4 41 RX4 yX4_insert wsX4_insert) := goodIn_app (goodIn_of _ (by decide +kernel)) ggX4_addAmount_X4_insert
set_option maxRecDepth 20000 in
theorem ggX4_addAmount_X4_amount : GoodIn wsX4_addAmount wsX4_amount := goodIn_r _ [25, 12, 1, 34, 35, 36, 37] rfl gw_wsX4_amount
set_option maxRecDepth 20000 in
theorem gX4_addAmount_X4_amount : GoodIn wsX4_addAmount (wsV RX4 24 RX4 yX4_amount wsX4_amount) := goodIn_app (goodIn_of _ (by decide +kernel)) ggX4_addAmount_X4_amount
set_option maxRecDepth 20000 in
theorem gw_wsX4_removeRow : wsX4_removeRow.all goodWord = true := by decide +kernel
set_option maxRecDepth 20000 in
theorem ggX4_addAmount_X4_removeRow : GoodIn wsX4_addAmount wsX4_removeRow := goodIn_r _ [29, 7, 12, 18, 19, 20, 21, 34, 35, 36, 37] rfl gw_wsX4_removeRow
set_option maxRecDepth 20000 in
theorem gX4_addAmount_X4_removeRow : GoodIn wsX4_addAmount (wsV RX4 45 RX4 yX4_removeRow wsX4_removeRow) := goodIn_app (goodIn_of _ (by decide +kernel)) ggX4_addAmount_X4_removeRow
set_option maxRecDepth 20000 in
theorem ggX4_addAmount_X4_setCell : GoodIn wsX4_addAmount wsX4_setCell := goodIn_r _ [33, 12, 34, 35, 36, 37] rfl gw_wsX4_setCell
set_option maxRecDepth 20000 in
theorem gX4_addAmount_X4_setCell : GoodIn wsX4_addAmount (wsV RX4 49 RX4 yX4_setCell wsX4_setCell) := goodIn_app (goodIn_of _ (by decide +kernel)) ggX4_addAmount_X4_setCell
def dtX4_addAmount_0_0 : List (Nat × Instr × Nat) := [(0, .aload_n 0, 1), (1, .aload_n 1, 1), (2, .invokevirtual 20, 3), (5, .istore_n 3, 1), (6, .iload_n 3, 1), (7, .ifCond .ge 25, 3), (10, .iload_n 2, 1), (11, .ifCond .eq 15, 3), (14, .aload_n 0, 1), (15, .iconst (-1), 1), (16, .iload_n 3, 1), (17, .isub, 1), (18, .aload_n 1, 1), (19, .iload_n 2, 1), (20, .invokevirtual 41, 3), (23, .ifCond .eq 7, 3), (26, .iconst 1, 1), (27, .goto 4, 3), (30, .iconst 0, 1), (31, .ireturn, 1), (32, .aload_n 0, 1), (33, .iload_n 3, 1), (34, .invokevirtual 24, 3), (37, .iload_n 2, 1), (38, .iadd, 1), (39, .istore 4, 2), (41, .iload 4, 2), (43, .ifCond .ne 11, 3), (46, .aload_n 0, 1), (47, .iload_n 3, 1), (48, .invokevirtual 45, 3), (51, .goto 14, 3)]
theorem dtX4_addAmount_0_0_ok : dcAll cX4_addAmount dtX4_addAmount_0_0 = true := by decide +kernel
theorem dX4_addAmount_0 : decode cX4_addAmount 0 = .ok (.aload_n 0, 1) := dc_of dtX4_addAmount_0_0_ok (i := 0) rfl
theorem dX4_addAmount_1 : decode cX4_addAmount 1 = .ok (.aload_n 1, 1) := dc_of dtX4_addAmount_0_0_ok (i := 1) rfl
theorem dX4_addAmount_2 : decode cX4_addAmount 2 = .ok (.invokevirtual 20, 3) := dc_of dtX4_addAmount_0_0_ok (i := 2) rfl
theorem dX4_addAmount_5 : decode cX4_addAmount 5 = .ok (.istore_n 3, 1) := dc_of dtX4_addAmount_0_0_ok (i := 3) rfl
theorem dX4_addAmount_6 : decode cX4_addAmount 6 = .ok (.iload_n 3, 1) := dc_of dtX4_addAmount_0_0_ok (i := 4) rfl
theorem dX4_addAmount_7 : decode cX4_addAmount 7 = .ok (.ifCond .ge 25, 3) := dc_of dtX4_addAmount_0_0_ok (i := 5) rfl
theorem dX4_addAmount_10 : decode cX4_addAmount 10 = .ok (.iload_n 2, 1) := dc_of dtX4_addAmount_0_0_ok (i := 6) rfl
theorem dX4_addAmount_11 : decode cX4_addAmount 11 = .ok (.ifCond .eq 15, 3) := dc_of dtX4_addAmount_0_0_ok (i := 7) rfl
theorem dX4_addAmount_14 : decode cX4_addAmount 14 = .ok (.aload_n 0, 1) := dc_of dtX4_addAmount_0_0_ok (i := 8) rfl
theorem dX4_addAmount_15 : decode cX4_addAmount 15 = .ok (.iconst (-1), 1) := dc_of dtX4_addAmount_0_0_ok (i := 9) rfl
theorem dX4_addAmount_16 : decode cX4_addAmount 16 = .ok (.iload_n 3, 1) := dc_of dtX4_addAmount_0_0_ok (i := 10) rfl
theorem dX4_addAmount_17 : decode cX4_addAmount 17 = .ok (.isub, 1) := dc_of dtX4_addAmount_0_0_ok (i := 11) rfl
theorem dX4_addAmount_18 : decode cX4_addAmount 18 = .ok (.aload_n 1, 1) := dc_of dtX4_addAmount_0_0_ok (i := 12) rfl
theorem dX4_addAmount_19 : decode cX4_addAmount 19 = .ok (.iload_n 2, 1) := dc_of dtX4_addAmount_0_0_ok (i := 13) rfl
theorem dX4_addAmount_20 : decode cX4_addAmount 20 = .ok (.invokevirtual 41, 3) := dc_of dtX4_addAmount_0_0_ok (i := 14) rfl
theorem dX4_addAmount_23 : decode cX4_addAmount 23 = .ok (.ifCond .eq 7, 3) := dc_of dtX4_addAmount_0_0_ok (i := 15) rfl
theorem dX4_addAmount_26 : decode cX4_addAmount 26 = .ok (.iconst 1, 1) := dc_of dtX4_addAmount_0_0_ok (i := 16) rfl
theorem dX4_addAmount_27 : decode cX4_addAmount 27 = .ok (.goto 4, 3) := dc_of dtX4_addAmount_0_0_ok (i := 17) rfl
theorem dX4_addAmount_30 : decode cX4_addAmount 30 = .ok (.iconst 0, 1) := dc_of dtX4_addAmount_0_0_ok (i := 18) rfl
theorem dX4_addAmount_31 : decode cX4_addAmount 31 = .ok (.ireturn, 1) := dc_of dtX4_addAmount_0_0_ok (i := 19) rfl
theorem dX4_addAmount_32 : decode cX4_addAmount 32 = .ok (.aload_n 0, 1) := dc_of dtX4_addAmount_0_0_ok (i := 20) rfl
theorem dX4_addAmount_33 : decode cX4_addAmount 33 = .ok (.iload_n 3, 1) := dc_of dtX4_addAmount_0_0_ok (i := 21) rfl
theorem dX4_addAmount_34 : decode cX4_addAmount 34 = .ok (.invokevirtual 24, 3) := dc_of dtX4_addAmount_0_0_ok (i := 22) rfl
theorem dX4_addAmount_37 : decode cX4_addAmount 37 = .ok (.iload_n 2, 1) := dc_of dtX4_addAmount_0_0_ok (i := 23) rfl
theorem dX4_addAmount_38 : decode cX4_addAmount 38 = .ok (.iadd, 1) := dc_of dtX4_addAmount_0_0_ok (i := 24) rfl
theorem dX4_addAmount_39 : decode cX4_addAmount 39 = .ok (.istore 4, 2) := dc_of dtX4_addAmount_0_0_ok (i := 25) rfl
theorem dX4_addAmount_41 : decode cX4_addAmount 41 = .ok (.iload 4, 2) := dc_of dtX4_addAmount_0_0_ok (i := 26) rfl
theorem dX4_addAmount_43 : decode cX4_addAmount 43 = .ok (.ifCond .ne 11, 3) := dc_of dtX4_addAmount_0_0_ok (i := 27) rfl
theorem dX4_addAmount_46 : decode cX4_addAmount 46 = .ok (.aload_n 0, 1) := dc_of dtX4_addAmount_0_0_ok (i := 28) rfl
theorem dX4_addAmount_47 : decode cX4_addAmount 47 = .ok (.iload_n 3, 1) := dc_of dtX4_addAmount_0_0_ok (i := 29) rfl
theorem dX4_addAmount_48 : decode cX4_addAmount 48 = .ok (.invokevirtual 45, 3) := dc_of dtX4_addAmount_0_0_ok (i := 30) rfl
theorem dX4_addAmount_51 : decode cX4_addAmount 51 = .ok (.goto 14, 3) := dc_of dtX4_addAmount_0_0_ok (i := 31) rfl
def dtX4_addAmount_54_1 : List (Nat × Instr × Nat) := [(54, .aload_n 0, 1), (55, .iload_n 3, 1), (56, .aload_n 0, 1), (57, .getfield 7, 3), (60, .iload 4, 2), (62, .invokevirtual 49, 3), (65, .iconst 1, 1), (66, .ireturn, 1)]
theorem dtX4_addAmount_54_1_ok : dcAll cX4_addAmount dtX4_addAmount_54_1 = true := by decide +kernel
theorem dX4_addAmount_54 : decode cX4_addAmount 54 = .ok (.aload_n 0, 1) := dc_of dtX4_addAmount_54_1_ok (i := 0) rfl
theorem dX4_addAmount_55 : decode cX4_addAmount 55 = .ok (.iload_n 3, 1) := dc_of dtX4_addAmount_54_1_ok (i := 1) rfl
theorem dX4_addAmount_56 : decode cX4_addAmount 56 = .ok (.aload_n 0, 1) := dc_of dtX4_addAmount_54_1_ok (i := 2) rfl
theorem dX4_addAmount_57 : decode cX4_addAmount 57 = .ok (.getfield 7, 3) := dc_of dtX4_addAmount_54_1_ok (i := 3) rfl
theorem dX4_addAmount_60 : decode cX4_addAmount 60 = .ok (.iload 4, 2) := dc_of dtX4_addAmount_54_1_ok (i := 4) rfl
theorem dX4_addAmount_62 : decode cX4_addAmount 62 = .ok (.invokevirtual 49, 3) := dc_of dtX4_addAmount_54_1_ok (i := 5) rfl
theorem dX4_addAmount_65 : decode cX4_addAmount 65 = .ok (.iconst 1, 1) := dc_of dtX4_addAmount_54_1_ok (i := 6) rfl
theorem dX4_addAmount_66 : decode cX4_addAmount 66 = .ok (.ireturn, 1) := dc_of dtX4_addAmount_54_1_ok (i := 7) rfl
def dtX4_insert_0_0 : List (Nat × Instr × Nat) := [(0, .aload_n 0, 1), (1, .getfield 34, 3), (4, .aload_n 0, 1), (5, .getfield 13, 3), (8, .if_icmp .ge 15, 3), (11, .iload_n 1, 1), (12, .ifCond .lt 11, 3), (15, .iload_n 1, 1), (16, .aload_n 0, 1), (17, .getfield 34, 3), (20, .if_icmp .le 5, 3), (23, .iconst 0, 1), (24, .ireturn, 1), (25, .iload_n 1, 1), (26, .bipush 6, 2), (28, .imul, 1), (29, .istore 4, 2), (31, .aload_n 0, 1), (32, .getfield 16, 3), (35, .iload 4, 2), (37, .aload_n 0, 1), (38, .getfield 16, 3), (41, .iload 4, 2), (43, .bipush 6, 2), (45, .iadd, 1), (46, .aload_n 0, 1), (47, .getfield 34, 3), (50, .iload_n 1, 1), (51, .isub, 1), (52, .bipush 6, 2), (54, .imul, 1), (55, .invokestatic 28, 3)]
theorem dtX4_insert_0_0_ok : dcAll cX4_insert dtX4_insert_0_0 = true := by decide +kernel
theorem dX4_insert_0 : decode cX4_insert 0 = .ok (.aload_n 0, 1) := dc_of dtX4_insert_0_0_ok (i := 0) rfl
theorem dX4_insert_1 : decode cX4_insert 1 = .ok (.getfield 34, 3) := dc_of dtX4_insert_0_0_ok (i := 1) rfl
theorem dX4_insert_4 : decode cX4_insert 4 = .ok (.aload_n 0, 1) := dc_of dtX4_insert_0_0_ok (i := 2) rfl
theorem dX4_insert_5 : decode cX4_insert 5 = .ok (.getfield 13, 3) := dc_of dtX4_insert_0_0_ok (i := 3) rfl
theorem dX4_insert_8 : decode cX4_insert 8 = .ok (.if_icmp .ge 15, 3) := dc_of dtX4_insert_0_0_ok (i := 4) rfl
theorem dX4_insert_11 : decode cX4_insert 11 = .ok (.iload_n 1, 1) := dc_of dtX4_insert_0_0_ok (i := 5) rfl
theorem dX4_insert_12 : decode cX4_insert 12 = .ok (.ifCond .lt 11, 3) := dc_of dtX4_insert_0_0_ok (i := 6) rfl
theorem dX4_insert_15 : decode cX4_insert 15 = .ok (.iload_n 1, 1) := dc_of dtX4_insert_0_0_ok (i := 7) rfl
theorem dX4_insert_16 : decode cX4_insert 16 = .ok (.aload_n 0, 1) := dc_of dtX4_insert_0_0_ok (i := 8) rfl
theorem dX4_insert_17 : decode cX4_insert 17 = .ok (.getfield 34, 3) := dc_of dtX4_insert_0_0_ok (i := 9) rfl
theorem dX4_insert_20 : decode cX4_insert 20 = .ok (.if_icmp .le 5, 3) := dc_of dtX4_insert_0_0_ok (i := 10) rfl
theorem dX4_insert_23 : decode cX4_insert 23 = .ok (.iconst 0, 1) := dc_of dtX4_insert_0_0_ok (i := 11) rfl
theorem dX4_insert_24 : decode cX4_insert 24 = .ok (.ireturn, 1) := dc_of dtX4_insert_0_0_ok (i := 12) rfl
theorem dX4_insert_25 : decode cX4_insert 25 = .ok (.iload_n 1, 1) := dc_of dtX4_insert_0_0_ok (i := 13) rfl
theorem dX4_insert_26 : decode cX4_insert 26 = .ok (.bipush 6, 2) := dc_of dtX4_insert_0_0_ok (i := 14) rfl
theorem dX4_insert_28 : decode cX4_insert 28 = .ok (.imul, 1) := dc_of dtX4_insert_0_0_ok (i := 15) rfl
theorem dX4_insert_29 : decode cX4_insert 29 = .ok (.istore 4, 2) := dc_of dtX4_insert_0_0_ok (i := 16) rfl
theorem dX4_insert_31 : decode cX4_insert 31 = .ok (.aload_n 0, 1) := dc_of dtX4_insert_0_0_ok (i := 17) rfl
theorem dX4_insert_32 : decode cX4_insert 32 = .ok (.getfield 16, 3) := dc_of dtX4_insert_0_0_ok (i := 18) rfl
theorem dX4_insert_35 : decode cX4_insert 35 = .ok (.iload 4, 2) := dc_of dtX4_insert_0_0_ok (i := 19) rfl
theorem dX4_insert_37 : decode cX4_insert 37 = .ok (.aload_n 0, 1) := dc_of dtX4_insert_0_0_ok (i := 20) rfl
theorem dX4_insert_38 : decode cX4_insert 38 = .ok (.getfield 16, 3) := dc_of dtX4_insert_0_0_ok (i := 21) rfl
theorem dX4_insert_41 : decode cX4_insert 41 = .ok (.iload 4, 2) := dc_of dtX4_insert_0_0_ok (i := 22) rfl
theorem dX4_insert_43 : decode cX4_insert 43 = .ok (.bipush 6, 2) := dc_of dtX4_insert_0_0_ok (i := 23) rfl
theorem dX4_insert_45 : decode cX4_insert 45 = .ok (.iadd, 1) := dc_of dtX4_insert_0_0_ok (i := 24) rfl
theorem dX4_insert_46 : decode cX4_insert 46 = .ok (.aload_n 0, 1) := dc_of dtX4_insert_0_0_ok (i := 25) rfl
theorem dX4_insert_47 : decode cX4_insert 47 = .ok (.getfield 34, 3) := dc_of dtX4_insert_0_0_ok (i := 26) rfl
theorem dX4_insert_50 : decode cX4_insert 50 = .ok (.iload_n 1, 1) := dc_of dtX4_insert_0_0_ok (i := 27) rfl
theorem dX4_insert_51 : decode cX4_insert 51 = .ok (.isub, 1) := dc_of dtX4_insert_0_0_ok (i := 28) rfl
theorem dX4_insert_52 : decode cX4_insert 52 = .ok (.bipush 6, 2) := dc_of dtX4_insert_0_0_ok (i := 29) rfl
theorem dX4_insert_54 : decode cX4_insert 54 = .ok (.imul, 1) := dc_of dtX4_insert_0_0_ok (i := 30) rfl
theorem dX4_insert_55 : decode cX4_insert 55 = .ok (.invokestatic 28, 3) := dc_of dtX4_insert_0_0_ok (i := 31) rfl
def dtX4_insert_58_1 : List (Nat × Instr × Nat) := [(58, .aload_n 2, 1), (59, .iconst 0, 1), (60, .aload_n 0, 1), (61, .getfield 16, 3), (64, .iload 4, 2), (66, .aload_n 0, 1), (67, .getfield 7, 3), (70, .invokestatic 28, 3), (73, .aload_n 0, 1), (74, .getfield 16, 3), (77, .iload 4, 2), (79, .iconst 5, 1), (80, .iadd, 1), (81, .iconst 0, 1), (82, .iastore, 1), (83, .aload_n 0, 1), (84, .getfield 16, 3), (87, .iload 4, 2), (89, .aload_n 0, 1), (90, .getfield 7, 3), (93, .iadd, 1), (94, .iload_n 3, 1), (95, .iastore, 1), (96, .aload_n 0, 1), (97, .dup, 1), (98, .getfield 34, 3), (101, .iconst 1, 1), (102, .iadd, 1), (103, .putfield 34, 3), (106, .iconst 1, 1), (107, .ireturn, 1)]
theorem dtX4_insert_58_1_ok : dcAll cX4_insert dtX4_insert_58_1 = true := by decide +kernel
theorem dX4_insert_58 : decode cX4_insert 58 = .ok (.aload_n 2, 1) := dc_of dtX4_insert_58_1_ok (i := 0) rfl
theorem dX4_insert_59 : decode cX4_insert 59 = .ok (.iconst 0, 1) := dc_of dtX4_insert_58_1_ok (i := 1) rfl
theorem dX4_insert_60 : decode cX4_insert 60 = .ok (.aload_n 0, 1) := dc_of dtX4_insert_58_1_ok (i := 2) rfl
theorem dX4_insert_61 : decode cX4_insert 61 = .ok (.getfield 16, 3) := dc_of dtX4_insert_58_1_ok (i := 3) rfl
theorem dX4_insert_64 : decode cX4_insert 64 = .ok (.iload 4, 2) := dc_of dtX4_insert_58_1_ok (i := 4) rfl
theorem dX4_insert_66 : decode cX4_insert 66 = .ok (.aload_n 0, 1) := dc_of dtX4_insert_58_1_ok (i := 5) rfl
theorem dX4_insert_67 : decode cX4_insert 67 = .ok (.getfield 7, 3) := dc_of dtX4_insert_58_1_ok (i := 6) rfl
theorem dX4_insert_70 : decode cX4_insert 70 = .ok (.invokestatic 28, 3) := dc_of dtX4_insert_58_1_ok (i := 7) rfl
theorem dX4_insert_73 : decode cX4_insert 73 = .ok (.aload_n 0, 1) := dc_of dtX4_insert_58_1_ok (i := 8) rfl
theorem dX4_insert_74 : decode cX4_insert 74 = .ok (.getfield 16, 3) := dc_of dtX4_insert_58_1_ok (i := 9) rfl
theorem dX4_insert_77 : decode cX4_insert 77 = .ok (.iload 4, 2) := dc_of dtX4_insert_58_1_ok (i := 10) rfl
theorem dX4_insert_79 : decode cX4_insert 79 = .ok (.iconst 5, 1) := dc_of dtX4_insert_58_1_ok (i := 11) rfl
theorem dX4_insert_80 : decode cX4_insert 80 = .ok (.iadd, 1) := dc_of dtX4_insert_58_1_ok (i := 12) rfl
theorem dX4_insert_81 : decode cX4_insert 81 = .ok (.iconst 0, 1) := dc_of dtX4_insert_58_1_ok (i := 13) rfl
theorem dX4_insert_82 : decode cX4_insert 82 = .ok (.iastore, 1) := dc_of dtX4_insert_58_1_ok (i := 14) rfl
theorem dX4_insert_83 : decode cX4_insert 83 = .ok (.aload_n 0, 1) := dc_of dtX4_insert_58_1_ok (i := 15) rfl
theorem dX4_insert_84 : decode cX4_insert 84 = .ok (.getfield 16, 3) := dc_of dtX4_insert_58_1_ok (i := 16) rfl
theorem dX4_insert_87 : decode cX4_insert 87 = .ok (.iload 4, 2) := dc_of dtX4_insert_58_1_ok (i := 17) rfl
theorem dX4_insert_89 : decode cX4_insert 89 = .ok (.aload_n 0, 1) := dc_of dtX4_insert_58_1_ok (i := 18) rfl
theorem dX4_insert_90 : decode cX4_insert 90 = .ok (.getfield 7, 3) := dc_of dtX4_insert_58_1_ok (i := 19) rfl
theorem dX4_insert_93 : decode cX4_insert 93 = .ok (.iadd, 1) := dc_of dtX4_insert_58_1_ok (i := 20) rfl
theorem dX4_insert_94 : decode cX4_insert 94 = .ok (.iload_n 3, 1) := dc_of dtX4_insert_58_1_ok (i := 21) rfl
theorem dX4_insert_95 : decode cX4_insert 95 = .ok (.iastore, 1) := dc_of dtX4_insert_58_1_ok (i := 22) rfl
theorem dX4_insert_96 : decode cX4_insert 96 = .ok (.aload_n 0, 1) := dc_of dtX4_insert_58_1_ok (i := 23) rfl
theorem dX4_insert_97 : decode cX4_insert 97 = .ok (.dup, 1) := dc_of dtX4_insert_58_1_ok (i := 24) rfl
theorem dX4_insert_98 : decode cX4_insert 98 = .ok (.getfield 34, 3) := dc_of dtX4_insert_58_1_ok (i := 25) rfl
theorem dX4_insert_101 : decode cX4_insert 101 = .ok (.iconst 1, 1) := dc_of dtX4_insert_58_1_ok (i := 26) rfl
theorem dX4_insert_102 : decode cX4_insert 102 = .ok (.iadd, 1) := dc_of dtX4_insert_58_1_ok (i := 27) rfl
theorem dX4_insert_103 : decode cX4_insert 103 = .ok (.putfield 34, 3) := dc_of dtX4_insert_58_1_ok (i := 28) rfl
theorem dX4_insert_106 : decode cX4_insert 106 = .ok (.iconst 1, 1) := dc_of dtX4_insert_58_1_ok (i := 29) rfl
theorem dX4_insert_107 : decode cX4_insert 107 = .ok (.ireturn, 1) := dc_of dtX4_insert_58_1_ok (i := 30) rfl
def dtX4_removeRow_0_0 : List (Nat × Instr × Nat) := [(0, .iload_n 1, 1), (1, .bipush 6, 2), (3, .imul, 1), (4, .istore_n 2, 1), (5, .aload_n 0, 1), (6, .dup, 1), (7, .getfield 34, 3), (10, .iconst 1, 1), (11, .isub, 1), (12, .putfield 34, 3), (15, .aload_n 0, 1), (16, .getfield 16, 3), (19, .iload_n 2, 1), (20, .bipush 6, 2), (22, .iadd, 1), (23, .aload_n 0, 1), (24, .getfield 16, 3), (27, .iload_n 2, 1), (28, .aload_n 0, 1), (29, .getfield 34, 3), (32, .iload_n 1, 1), (33, .isub, 1), (34, .bipush 6, 2), (36, .imul, 1), (37, .invokestatic 28, 3), (40, .return_, 1)]
theorem dtX4_removeRow_0_0_ok : dcAll cX4_removeRow dtX4_removeRow_0_0 = true := by decide +kernel
theorem dX4_removeRow_0 : decode cX4_removeRow 0 = .ok (.iload_n 1, 1) := dc_of dtX4_removeRow_0_0_ok (i := 0) rfl
theorem dX4_removeRow_1 : decode cX4_removeRow 1 = .ok (.bipush 6, 2) := dc_of dtX4_removeRow_0_0_ok (i := 1) rfl
theorem dX4_removeRow_3 : decode cX4_removeRow 3 = .ok (.imul, 1) := dc_of dtX4_removeRow_0_0_ok (i := 2) rfl
theorem dX4_removeRow_4 : decode cX4_removeRow 4 = .ok (.istore_n 2, 1) := dc_of dtX4_removeRow_0_0_ok (i := 3) rfl
theorem dX4_removeRow_5 : decode cX4_removeRow 5 = .ok (.aload_n 0, 1) := dc_of dtX4_removeRow_0_0_ok (i := 4) rfl
theorem dX4_removeRow_6 : decode cX4_removeRow 6 = .ok (.dup, 1) := dc_of dtX4_removeRow_0_0_ok (i := 5) rfl
theorem dX4_removeRow_7 : decode cX4_removeRow 7 = .ok (.getfield 34, 3) := dc_of dtX4_removeRow_0_0_ok (i := 6) rfl
theorem dX4_removeRow_10 : decode cX4_removeRow 10 = .ok (.iconst 1, 1) := dc_of dtX4_removeRow_0_0_ok (i := 7) rfl
theorem dX4_removeRow_11 : decode cX4_removeRow 11 = .ok (.isub, 1) := dc_of dtX4_removeRow_0_0_ok (i := 8) rfl
theorem dX4_removeRow_12 : decode cX4_removeRow 12 = .ok (.putfield 34, 3) := dc_of dtX4_removeRow_0_0_ok (i := 9) rfl
theorem dX4_removeRow_15 : decode cX4_removeRow 15 = .ok (.aload_n 0, 1) := dc_of dtX4_removeRow_0_0_ok (i := 10) rfl
theorem dX4_removeRow_16 : decode cX4_removeRow 16 = .ok (.getfield 16, 3) := dc_of dtX4_removeRow_0_0_ok (i := 11) rfl
theorem dX4_removeRow_19 : decode cX4_removeRow 19 = .ok (.iload_n 2, 1) := dc_of dtX4_removeRow_0_0_ok (i := 12) rfl
theorem dX4_removeRow_20 : decode cX4_removeRow 20 = .ok (.bipush 6, 2) := dc_of dtX4_removeRow_0_0_ok (i := 13) rfl
theorem dX4_removeRow_22 : decode cX4_removeRow 22 = .ok (.iadd, 1) := dc_of dtX4_removeRow_0_0_ok (i := 14) rfl
theorem dX4_removeRow_23 : decode cX4_removeRow 23 = .ok (.aload_n 0, 1) := dc_of dtX4_removeRow_0_0_ok (i := 15) rfl
theorem dX4_removeRow_24 : decode cX4_removeRow 24 = .ok (.getfield 16, 3) := dc_of dtX4_removeRow_0_0_ok (i := 16) rfl
theorem dX4_removeRow_27 : decode cX4_removeRow 27 = .ok (.iload_n 2, 1) := dc_of dtX4_removeRow_0_0_ok (i := 17) rfl
theorem dX4_removeRow_28 : decode cX4_removeRow 28 = .ok (.aload_n 0, 1) := dc_of dtX4_removeRow_0_0_ok (i := 18) rfl
theorem dX4_removeRow_29 : decode cX4_removeRow 29 = .ok (.getfield 34, 3) := dc_of dtX4_removeRow_0_0_ok (i := 19) rfl
theorem dX4_removeRow_32 : decode cX4_removeRow 32 = .ok (.iload_n 1, 1) := dc_of dtX4_removeRow_0_0_ok (i := 20) rfl
theorem dX4_removeRow_33 : decode cX4_removeRow 33 = .ok (.isub, 1) := dc_of dtX4_removeRow_0_0_ok (i := 21) rfl
theorem dX4_removeRow_34 : decode cX4_removeRow 34 = .ok (.bipush 6, 2) := dc_of dtX4_removeRow_0_0_ok (i := 22) rfl
theorem dX4_removeRow_36 : decode cX4_removeRow 36 = .ok (.imul, 1) := dc_of dtX4_removeRow_0_0_ok (i := 23) rfl
theorem dX4_removeRow_37 : decode cX4_removeRow 37 = .ok (.invokestatic 28, 3) := dc_of dtX4_removeRow_0_0_ok (i := 24) rfl
theorem dX4_removeRow_40 : decode cX4_removeRow 40 = .ok (.return_, 1) := dc_of dtX4_removeRow_0_0_ok (i := 25) rfl
def dtX4_append_0_0 : List (Nat × Instr × Nat) := [(0, .aload_n 0, 1), (1, .getfield 34, 3), (4, .aload_n 0, 1), (5, .getfield 13, 3), (8, .if_icmp .lt 5, 3), (11, .iconst 0, 1), (12, .ireturn, 1), (13, .aload_n 0, 1), (14, .getfield 34, 3), (17, .bipush 6, 2), (19, .imul, 1), (20, .istore 4, 2), (22, .aload_n 1, 1), (23, .getfield 16, 3), (26, .iload_n 2, 1), (27, .bipush 6, 2), (29, .imul, 1), (30, .aload_n 0, 1), (31, .getfield 16, 3), (34, .iload 4, 2), (36, .aload_n 0, 1), (37, .getfield 7, 3), (40, .invokestatic 28, 3), (43, .aload_n 0, 1), (44, .getfield 16, 3), (47, .iload 4, 2), (49, .iconst 5, 1), (50, .iadd, 1), (51, .iconst 0, 1), (52, .iastore, 1), (53, .aload_n 0, 1), (54, .getfield 16, 3)]
theorem dtX4_append_0_0_ok : dcAll cX4_append dtX4_append_0_0 = true := by decide +kernel
theorem dX4_append_0 : decode cX4_append 0 = .ok (.aload_n 0, 1) := dc_of dtX4_append_0_0_ok (i := 0) rfl
theorem dX4_append_1 : decode cX4_append 1 = .ok (.getfield 34, 3) := dc_of dtX4_append_0_0_ok (i := 1) rfl
theorem dX4_append_4 : decode cX4_append 4 = .ok (.aload_n 0, 1) := dc_of dtX4_append_0_0_ok (i := 2) rfl
theorem dX4_append_5 : decode cX4_append 5 = .ok (.getfield 13, 3) := dc_of dtX4_append_0_0_ok (i := 3) rfl
theorem dX4_append_8 : decode cX4_append 8 = .ok (.if_icmp .lt 5, 3) := dc_of dtX4_append_0_0_ok (i := 4) rfl
theorem dX4_append_11 : decode cX4_append 11 = .ok (.iconst 0, 1) := dc_of dtX4_append_0_0_ok (i := 5) rfl
theorem dX4_append_12 : decode cX4_append 12 = .ok (.ireturn, 1) := dc_of dtX4_append_0_0_ok (i := 6) rfl
theorem dX4_append_13 : decode cX4_append 13 = .ok (.aload_n 0, 1) := dc_of dtX4_append_0_0_ok (i := 7) rfl
theorem dX4_append_14 : decode cX4_append 14 = .ok (.getfield 34, 3) := dc_of dtX4_append_0_0_ok (i := 8) rfl
theorem dX4_append_17 : decode cX4_append 17 = .ok (.bipush 6, 2) := dc_of dtX4_append_0_0_ok (i := 9) rfl
theorem dX4_append_19 : decode cX4_append 19 = .ok (.imul, 1) := dc_of dtX4_append_0_0_ok (i := 10) rfl
theorem dX4_append_20 : decode cX4_append 20 = .ok (.istore 4, 2) := dc_of dtX4_append_0_0_ok (i := 11) rfl
theorem dX4_append_22 : decode cX4_append 22 = .ok (.aload_n 1, 1) := dc_of dtX4_append_0_0_ok (i := 12) rfl
theorem dX4_append_23 : decode cX4_append 23 = .ok (.getfield 16, 3) := dc_of dtX4_append_0_0_ok (i := 13) rfl
theorem dX4_append_26 : decode cX4_append 26 = .ok (.iload_n 2, 1) := dc_of dtX4_append_0_0_ok (i := 14) rfl
theorem dX4_append_27 : decode cX4_append 27 = .ok (.bipush 6, 2) := dc_of dtX4_append_0_0_ok (i := 15) rfl
theorem dX4_append_29 : decode cX4_append 29 = .ok (.imul, 1) := dc_of dtX4_append_0_0_ok (i := 16) rfl
theorem dX4_append_30 : decode cX4_append 30 = .ok (.aload_n 0, 1) := dc_of dtX4_append_0_0_ok (i := 17) rfl
theorem dX4_append_31 : decode cX4_append 31 = .ok (.getfield 16, 3) := dc_of dtX4_append_0_0_ok (i := 18) rfl
theorem dX4_append_34 : decode cX4_append 34 = .ok (.iload 4, 2) := dc_of dtX4_append_0_0_ok (i := 19) rfl
theorem dX4_append_36 : decode cX4_append 36 = .ok (.aload_n 0, 1) := dc_of dtX4_append_0_0_ok (i := 20) rfl
theorem dX4_append_37 : decode cX4_append 37 = .ok (.getfield 7, 3) := dc_of dtX4_append_0_0_ok (i := 21) rfl
theorem dX4_append_40 : decode cX4_append 40 = .ok (.invokestatic 28, 3) := dc_of dtX4_append_0_0_ok (i := 22) rfl
theorem dX4_append_43 : decode cX4_append 43 = .ok (.aload_n 0, 1) := dc_of dtX4_append_0_0_ok (i := 23) rfl
theorem dX4_append_44 : decode cX4_append 44 = .ok (.getfield 16, 3) := dc_of dtX4_append_0_0_ok (i := 24) rfl
theorem dX4_append_47 : decode cX4_append 47 = .ok (.iload 4, 2) := dc_of dtX4_append_0_0_ok (i := 25) rfl
theorem dX4_append_49 : decode cX4_append 49 = .ok (.iconst 5, 1) := dc_of dtX4_append_0_0_ok (i := 26) rfl
theorem dX4_append_50 : decode cX4_append 50 = .ok (.iadd, 1) := dc_of dtX4_append_0_0_ok (i := 27) rfl
theorem dX4_append_51 : decode cX4_append 51 = .ok (.iconst 0, 1) := dc_of dtX4_append_0_0_ok (i := 28) rfl
theorem dX4_append_52 : decode cX4_append 52 = .ok (.iastore, 1) := dc_of dtX4_append_0_0_ok (i := 29) rfl
theorem dX4_append_53 : decode cX4_append 53 = .ok (.aload_n 0, 1) := dc_of dtX4_append_0_0_ok (i := 30) rfl
theorem dX4_append_54 : decode cX4_append 54 = .ok (.getfield 16, 3) := dc_of dtX4_append_0_0_ok (i := 31) rfl
def dtX4_append_57_1 : List (Nat × Instr × Nat) := [(57, .iload 4, 2), (59, .aload_n 0, 1), (60, .getfield 7, 3), (63, .iadd, 1), (64, .iload_n 3, 1), (65, .iastore, 1), (66, .aload_n 0, 1), (67, .dup, 1), (68, .getfield 34, 3), (71, .iconst 1, 1), (72, .iadd, 1), (73, .putfield 34, 3), (76, .iconst 1, 1), (77, .ireturn, 1)]
theorem dtX4_append_57_1_ok : dcAll cX4_append dtX4_append_57_1 = true := by decide +kernel
theorem dX4_append_57 : decode cX4_append 57 = .ok (.iload 4, 2) := dc_of dtX4_append_57_1_ok (i := 0) rfl
theorem dX4_append_59 : decode cX4_append 59 = .ok (.aload_n 0, 1) := dc_of dtX4_append_57_1_ok (i := 1) rfl
theorem dX4_append_60 : decode cX4_append 60 = .ok (.getfield 7, 3) := dc_of dtX4_append_57_1_ok (i := 2) rfl
theorem dX4_append_63 : decode cX4_append 63 = .ok (.iadd, 1) := dc_of dtX4_append_57_1_ok (i := 3) rfl
theorem dX4_append_64 : decode cX4_append 64 = .ok (.iload_n 3, 1) := dc_of dtX4_append_57_1_ok (i := 4) rfl
theorem dX4_append_65 : decode cX4_append 65 = .ok (.iastore, 1) := dc_of dtX4_append_57_1_ok (i := 5) rfl
theorem dX4_append_66 : decode cX4_append 66 = .ok (.aload_n 0, 1) := dc_of dtX4_append_57_1_ok (i := 6) rfl
theorem dX4_append_67 : decode cX4_append 67 = .ok (.dup, 1) := dc_of dtX4_append_57_1_ok (i := 7) rfl
theorem dX4_append_68 : decode cX4_append 68 = .ok (.getfield 34, 3) := dc_of dtX4_append_57_1_ok (i := 8) rfl
theorem dX4_append_71 : decode cX4_append 71 = .ok (.iconst 1, 1) := dc_of dtX4_append_57_1_ok (i := 9) rfl
theorem dX4_append_72 : decode cX4_append 72 = .ok (.iadd, 1) := dc_of dtX4_append_57_1_ok (i := 10) rfl
theorem dX4_append_73 : decode cX4_append 73 = .ok (.putfield 34, 3) := dc_of dtX4_append_57_1_ok (i := 11) rfl
theorem dX4_append_76 : decode cX4_append 76 = .ok (.iconst 1, 1) := dc_of dtX4_append_57_1_ok (i := 12) rfl
theorem dX4_append_77 : decode cX4_append 77 = .ok (.ireturn, 1) := dc_of dtX4_append_57_1_ok (i := 13) rfl
def dtX4_copyFrom_0_0 : List (Nat × Instr × Nat) := [(0, .aload_n 0, 1), (1, .aload_n 1, 1), (2, .getfield 34, 3), (5, .aload_n 0, 1), (6, .getfield 13, 3), (9, .invokestatic 53, 3), (12, .putfield 34, 3), (15, .aload_n 1, 1), (16, .getfield 16, 3), (19, .iconst 0, 1), (20, .aload_n 0, 1), (21, .getfield 16, 3), (24, .iconst 0, 1), (25, .aload_n 0, 1), (26, .getfield 34, 3), (29, .bipush 6, 2), (31, .imul, 1), (32, .invokestatic 28, 3), (35, .return_, 1)]
theorem dtX4_copyFrom_0_0_ok : dcAll cX4_copyFrom dtX4_copyFrom_0_0 = true := by decide +kernel
theorem dX4_copyFrom_0 : decode cX4_copyFrom 0 = .ok (.aload_n 0, 1) := dc_of dtX4_copyFrom_0_0_ok (i := 0) rfl
theorem dX4_copyFrom_1 : decode cX4_copyFrom 1 = .ok (.aload_n 1, 1) := dc_of dtX4_copyFrom_0_0_ok (i := 1) rfl
theorem dX4_copyFrom_2 : decode cX4_copyFrom 2 = .ok (.getfield 34, 3) := dc_of dtX4_copyFrom_0_0_ok (i := 2) rfl
theorem dX4_copyFrom_5 : decode cX4_copyFrom 5 = .ok (.aload_n 0, 1) := dc_of dtX4_copyFrom_0_0_ok (i := 3) rfl
theorem dX4_copyFrom_6 : decode cX4_copyFrom 6 = .ok (.getfield 13, 3) := dc_of dtX4_copyFrom_0_0_ok (i := 4) rfl
theorem dX4_copyFrom_9 : decode cX4_copyFrom 9 = .ok (.invokestatic 53, 3) := dc_of dtX4_copyFrom_0_0_ok (i := 5) rfl
theorem dX4_copyFrom_12 : decode cX4_copyFrom 12 = .ok (.putfield 34, 3) := dc_of dtX4_copyFrom_0_0_ok (i := 6) rfl
theorem dX4_copyFrom_15 : decode cX4_copyFrom 15 = .ok (.aload_n 1, 1) := dc_of dtX4_copyFrom_0_0_ok (i := 7) rfl
theorem dX4_copyFrom_16 : decode cX4_copyFrom 16 = .ok (.getfield 16, 3) := dc_of dtX4_copyFrom_0_0_ok (i := 8) rfl
theorem dX4_copyFrom_19 : decode cX4_copyFrom 19 = .ok (.iconst 0, 1) := dc_of dtX4_copyFrom_0_0_ok (i := 9) rfl
theorem dX4_copyFrom_20 : decode cX4_copyFrom 20 = .ok (.aload_n 0, 1) := dc_of dtX4_copyFrom_0_0_ok (i := 10) rfl
theorem dX4_copyFrom_21 : decode cX4_copyFrom 21 = .ok (.getfield 16, 3) := dc_of dtX4_copyFrom_0_0_ok (i := 11) rfl
theorem dX4_copyFrom_24 : decode cX4_copyFrom 24 = .ok (.iconst 0, 1) := dc_of dtX4_copyFrom_0_0_ok (i := 12) rfl
theorem dX4_copyFrom_25 : decode cX4_copyFrom 25 = .ok (.aload_n 0, 1) := dc_of dtX4_copyFrom_0_0_ok (i := 13) rfl
theorem dX4_copyFrom_26 : decode cX4_copyFrom 26 = .ok (.getfield 34, 3) := dc_of dtX4_copyFrom_0_0_ok (i := 14) rfl
theorem dX4_copyFrom_29 : decode cX4_copyFrom 29 = .ok (.bipush 6, 2) := dc_of dtX4_copyFrom_0_0_ok (i := 15) rfl
theorem dX4_copyFrom_31 : decode cX4_copyFrom 31 = .ok (.imul, 1) := dc_of dtX4_copyFrom_0_0_ok (i := 16) rfl
theorem dX4_copyFrom_32 : decode cX4_copyFrom 32 = .ok (.invokestatic 28, 3) := dc_of dtX4_copyFrom_0_0_ok (i := 17) rfl
theorem dX4_copyFrom_35 : decode cX4_copyFrom 35 = .ok (.return_, 1) := dc_of dtX4_copyFrom_0_0_ok (i := 18) rfl
set_option maxRecDepth 20000 in
theorem gw_wsX4_orderOfHeads : wsX4_orderOfHeads.all goodWord = true := by decide +kernel
set_option maxRecDepth 20000 in
theorem ggX4_gather_X4_orderOfHeads : GoodIn wsX4_gather wsX4_orderOfHeads := goodIn_r _ [5, 1, 6, 7, 8, 9, 4, 10, 11, 25, 26, 27, 28] rfl gw_wsX4_orderOfHeads
set_option maxRecDepth 20000 in
theorem gX4_gather_X4_orderOfHeads : GoodIn wsX4_gather (va_wsS RX4 59 yX4_orderOfHeads wsX4_orderOfHeads) := goodIn_app (goodIn_of _ (by decide +kernel)) ggX4_gather_X4_orderOfHeads
set_option maxRecDepth 20000 in
theorem ggX4_gather_X4_amount : GoodIn wsX4_gather wsX4_amount := goodIn_r _ [15, 6, 11, 25, 26, 27, 28] rfl gw_wsX4_amount
set_option maxRecDepth 20000 in
theorem gX4_gather_X4_amount : GoodIn wsX4_gather (wsV RX4 24 RX4 yX4_amount wsX4_amount) := goodIn_app (goodIn_of _ (by decide +kernel)) ggX4_gather_X4_amount
set_option maxRecDepth 20000 in
theorem ggX4_gather_X4_append : GoodIn wsX4_gather wsX4_append := goodIn_r _ [19, 1, 20, 6, 11, 21, 22, 23, 24, 25, 26, 27, 28] rfl gw_wsX4_append
set_option maxRecDepth 20000 in
theorem gX4_gather_X4_append : GoodIn wsX4_gather (wsV RX4 63 RX4 yX4_append wsX4_append) := goodIn_app (goodIn_of _ (by decide +kernel)) ggX4_gather_X4_append
def dtX4_gather_0_0 : List (Nat × Instr × Nat) := [(0, .aload_n 0, 1), (1, .iconst 0, 1), (2, .putfield 34, 3), (5, .iconst 0, 1), (6, .istore 4, 2), (8, .iconst 0, 1), (9, .istore 5, 2), (11, .iload 4, 2), (13, .aload_n 1, 1), (14, .getfield 34, 3), (17, .if_icmp .lt 12, 3), (20, .iload 5, 2), (22, .aload_n 2, 1), (23, .getfield 34, 3), (26, .if_icmp .ge 106, 3), (29, .aload_n 1, 1), (30, .iload 4, 2), (32, .aload_n 2, 1), (33, .iload 5, 2), (35, .invokestatic 59, 3), (38, .istore 6, 2), (40, .iload 6, 2), (42, .ifCond .gt 7, 3), (45, .aload_n 1, 1), (46, .goto 4, 3), (49, .aload_n 2, 1), (50, .astore 7, 2), (52, .iload 6, 2), (54, .ifCond .gt 8, 3), (57, .iload 4, 2), (59, .goto 5, 3), (62, .iload 5, 2)]
theorem dtX4_gather_0_0_ok : dcAll cX4_gather dtX4_gather_0_0 = true := by decide +kernel
theorem dX4_gather_0 : decode cX4_gather 0 = .ok (.aload_n 0, 1) := dc_of dtX4_gather_0_0_ok (i := 0) rfl
theorem dX4_gather_1 : decode cX4_gather 1 = .ok (.iconst 0, 1) := dc_of dtX4_gather_0_0_ok (i := 1) rfl
theorem dX4_gather_2 : decode cX4_gather 2 = .ok (.putfield 34, 3) := dc_of dtX4_gather_0_0_ok (i := 2) rfl
theorem dX4_gather_5 : decode cX4_gather 5 = .ok (.iconst 0, 1) := dc_of dtX4_gather_0_0_ok (i := 3) rfl
theorem dX4_gather_6 : decode cX4_gather 6 = .ok (.istore 4, 2) := dc_of dtX4_gather_0_0_ok (i := 4) rfl
theorem dX4_gather_8 : decode cX4_gather 8 = .ok (.iconst 0, 1) := dc_of dtX4_gather_0_0_ok (i := 5) rfl
theorem dX4_gather_9 : decode cX4_gather 9 = .ok (.istore 5, 2) := dc_of dtX4_gather_0_0_ok (i := 6) rfl
theorem dX4_gather_11 : decode cX4_gather 11 = .ok (.iload 4, 2) := dc_of dtX4_gather_0_0_ok (i := 7) rfl
theorem dX4_gather_13 : decode cX4_gather 13 = .ok (.aload_n 1, 1) := dc_of dtX4_gather_0_0_ok (i := 8) rfl
theorem dX4_gather_14 : decode cX4_gather 14 = .ok (.getfield 34, 3) := dc_of dtX4_gather_0_0_ok (i := 9) rfl
theorem dX4_gather_17 : decode cX4_gather 17 = .ok (.if_icmp .lt 12, 3) := dc_of dtX4_gather_0_0_ok (i := 10) rfl
theorem dX4_gather_20 : decode cX4_gather 20 = .ok (.iload 5, 2) := dc_of dtX4_gather_0_0_ok (i := 11) rfl
theorem dX4_gather_22 : decode cX4_gather 22 = .ok (.aload_n 2, 1) := dc_of dtX4_gather_0_0_ok (i := 12) rfl
theorem dX4_gather_23 : decode cX4_gather 23 = .ok (.getfield 34, 3) := dc_of dtX4_gather_0_0_ok (i := 13) rfl
theorem dX4_gather_26 : decode cX4_gather 26 = .ok (.if_icmp .ge 106, 3) := dc_of dtX4_gather_0_0_ok (i := 14) rfl
theorem dX4_gather_29 : decode cX4_gather 29 = .ok (.aload_n 1, 1) := dc_of dtX4_gather_0_0_ok (i := 15) rfl
theorem dX4_gather_30 : decode cX4_gather 30 = .ok (.iload 4, 2) := dc_of dtX4_gather_0_0_ok (i := 16) rfl
theorem dX4_gather_32 : decode cX4_gather 32 = .ok (.aload_n 2, 1) := dc_of dtX4_gather_0_0_ok (i := 17) rfl
theorem dX4_gather_33 : decode cX4_gather 33 = .ok (.iload 5, 2) := dc_of dtX4_gather_0_0_ok (i := 18) rfl
theorem dX4_gather_35 : decode cX4_gather 35 = .ok (.invokestatic 59, 3) := dc_of dtX4_gather_0_0_ok (i := 19) rfl
theorem dX4_gather_38 : decode cX4_gather 38 = .ok (.istore 6, 2) := dc_of dtX4_gather_0_0_ok (i := 20) rfl
theorem dX4_gather_40 : decode cX4_gather 40 = .ok (.iload 6, 2) := dc_of dtX4_gather_0_0_ok (i := 21) rfl
theorem dX4_gather_42 : decode cX4_gather 42 = .ok (.ifCond .gt 7, 3) := dc_of dtX4_gather_0_0_ok (i := 22) rfl
theorem dX4_gather_45 : decode cX4_gather 45 = .ok (.aload_n 1, 1) := dc_of dtX4_gather_0_0_ok (i := 23) rfl
theorem dX4_gather_46 : decode cX4_gather 46 = .ok (.goto 4, 3) := dc_of dtX4_gather_0_0_ok (i := 24) rfl
theorem dX4_gather_49 : decode cX4_gather 49 = .ok (.aload_n 2, 1) := dc_of dtX4_gather_0_0_ok (i := 25) rfl
theorem dX4_gather_50 : decode cX4_gather 50 = .ok (.astore 7, 2) := dc_of dtX4_gather_0_0_ok (i := 26) rfl
theorem dX4_gather_52 : decode cX4_gather 52 = .ok (.iload 6, 2) := dc_of dtX4_gather_0_0_ok (i := 27) rfl
theorem dX4_gather_54 : decode cX4_gather 54 = .ok (.ifCond .gt 8, 3) := dc_of dtX4_gather_0_0_ok (i := 28) rfl
theorem dX4_gather_57 : decode cX4_gather 57 = .ok (.iload 4, 2) := dc_of dtX4_gather_0_0_ok (i := 29) rfl
theorem dX4_gather_59 : decode cX4_gather 59 = .ok (.goto 5, 3) := dc_of dtX4_gather_0_0_ok (i := 30) rfl
theorem dX4_gather_62 : decode cX4_gather 62 = .ok (.iload 5, 2) := dc_of dtX4_gather_0_0_ok (i := 31) rfl
def dtX4_gather_64_1 : List (Nat × Instr × Nat) := [(64, .istore 8, 2), (66, .iconst 0, 1), (67, .istore 9, 2), (69, .iload 6, 2), (71, .ifCond .gt 17, 3), (74, .iload 9, 2), (76, .aload_n 1, 1), (77, .iload 4, 2), (79, .invokevirtual 24, 3), (82, .iadd, 1), (83, .istore 9, 2), (85, .iinc 4 1, 3), (88, .iload 6, 2), (90, .ifCond .lt 19, 3), (93, .iload 9, 2), (95, .iload_n 3, 1), (96, .aload_n 2, 1), (97, .iload 5, 2), (99, .invokevirtual 24, 3), (102, .imul, 1), (103, .iadd, 1), (104, .istore 9, 2), (106, .iinc 5 1, 3), (109, .iload 9, 2), (111, .ifCond .eq 18, 3), (114, .aload_n 0, 1), (115, .aload 7, 2), (117, .iload 8, 2), (119, .iload 9, 2), (121, .invokevirtual 63, 3), (124, .ifCond .ne 5, 3), (127, .iconst 0, 1)]
theorem dtX4_gather_64_1_ok : dcAll cX4_gather dtX4_gather_64_1 = true := by decide +kernel
theorem dX4_gather_64 : decode cX4_gather 64 = .ok (.istore 8, 2) := dc_of dtX4_gather_64_1_ok (i := 0) rfl
theorem dX4_gather_66 : decode cX4_gather 66 = .ok (.iconst 0, 1) := dc_of dtX4_gather_64_1_ok (i := 1) rfl
theorem dX4_gather_67 : decode cX4_gather 67 = .ok (.istore 9, 2) := dc_of dtX4_gather_64_1_ok (i := 2) rfl
theorem dX4_gather_69 : decode cX4_gather 69 = .ok (.iload 6, 2) := dc_of dtX4_gather_64_1_ok (i := 3) rfl
theorem dX4_gather_71 : decode cX4_gather 71 = .ok (.ifCond .gt 17, 3) := dc_of dtX4_gather_64_1_ok (i := 4) rfl
theorem dX4_gather_74 : decode cX4_gather 74 = .ok (.iload 9, 2) := dc_of dtX4_gather_64_1_ok (i := 5) rfl
theorem dX4_gather_76 : decode cX4_gather 76 = .ok (.aload_n 1, 1) := dc_of dtX4_gather_64_1_ok (i := 6) rfl
theorem dX4_gather_77 : decode cX4_gather 77 = .ok (.iload 4, 2) := dc_of dtX4_gather_64_1_ok (i := 7) rfl
theorem dX4_gather_79 : decode cX4_gather 79 = .ok (.invokevirtual 24, 3) := dc_of dtX4_gather_64_1_ok (i := 8) rfl
theorem dX4_gather_82 : decode cX4_gather 82 = .ok (.iadd, 1) := dc_of dtX4_gather_64_1_ok (i := 9) rfl
theorem dX4_gather_83 : decode cX4_gather 83 = .ok (.istore 9, 2) := dc_of dtX4_gather_64_1_ok (i := 10) rfl
theorem dX4_gather_85 : decode cX4_gather 85 = .ok (.iinc 4 1, 3) := dc_of dtX4_gather_64_1_ok (i := 11) rfl
theorem dX4_gather_88 : decode cX4_gather 88 = .ok (.iload 6, 2) := dc_of dtX4_gather_64_1_ok (i := 12) rfl
theorem dX4_gather_90 : decode cX4_gather 90 = .ok (.ifCond .lt 19, 3) := dc_of dtX4_gather_64_1_ok (i := 13) rfl
theorem dX4_gather_93 : decode cX4_gather 93 = .ok (.iload 9, 2) := dc_of dtX4_gather_64_1_ok (i := 14) rfl
theorem dX4_gather_95 : decode cX4_gather 95 = .ok (.iload_n 3, 1) := dc_of dtX4_gather_64_1_ok (i := 15) rfl
theorem dX4_gather_96 : decode cX4_gather 96 = .ok (.aload_n 2, 1) := dc_of dtX4_gather_64_1_ok (i := 16) rfl
theorem dX4_gather_97 : decode cX4_gather 97 = .ok (.iload 5, 2) := dc_of dtX4_gather_64_1_ok (i := 17) rfl
theorem dX4_gather_99 : decode cX4_gather 99 = .ok (.invokevirtual 24, 3) := dc_of dtX4_gather_64_1_ok (i := 18) rfl
theorem dX4_gather_102 : decode cX4_gather 102 = .ok (.imul, 1) := dc_of dtX4_gather_64_1_ok (i := 19) rfl
theorem dX4_gather_103 : decode cX4_gather 103 = .ok (.iadd, 1) := dc_of dtX4_gather_64_1_ok (i := 20) rfl
theorem dX4_gather_104 : decode cX4_gather 104 = .ok (.istore 9, 2) := dc_of dtX4_gather_64_1_ok (i := 21) rfl
theorem dX4_gather_106 : decode cX4_gather 106 = .ok (.iinc 5 1, 3) := dc_of dtX4_gather_64_1_ok (i := 22) rfl
theorem dX4_gather_109 : decode cX4_gather 109 = .ok (.iload 9, 2) := dc_of dtX4_gather_64_1_ok (i := 23) rfl
theorem dX4_gather_111 : decode cX4_gather 111 = .ok (.ifCond .eq 18, 3) := dc_of dtX4_gather_64_1_ok (i := 24) rfl
theorem dX4_gather_114 : decode cX4_gather 114 = .ok (.aload_n 0, 1) := dc_of dtX4_gather_64_1_ok (i := 25) rfl
theorem dX4_gather_115 : decode cX4_gather 115 = .ok (.aload 7, 2) := dc_of dtX4_gather_64_1_ok (i := 26) rfl
theorem dX4_gather_117 : decode cX4_gather 117 = .ok (.iload 8, 2) := dc_of dtX4_gather_64_1_ok (i := 27) rfl
theorem dX4_gather_119 : decode cX4_gather 119 = .ok (.iload 9, 2) := dc_of dtX4_gather_64_1_ok (i := 28) rfl
theorem dX4_gather_121 : decode cX4_gather 121 = .ok (.invokevirtual 63, 3) := dc_of dtX4_gather_64_1_ok (i := 29) rfl
theorem dX4_gather_124 : decode cX4_gather 124 = .ok (.ifCond .ne 5, 3) := dc_of dtX4_gather_64_1_ok (i := 30) rfl
theorem dX4_gather_127 : decode cX4_gather 127 = .ok (.iconst 0, 1) := dc_of dtX4_gather_64_1_ok (i := 31) rfl
def dtX4_gather_128_2 : List (Nat × Instr × Nat) := [(128, .ireturn, 1), (129, .goto (-118), 3), (132, .iconst 1, 1), (133, .ireturn, 1)]
theorem dtX4_gather_128_2_ok : dcAll cX4_gather dtX4_gather_128_2 = true := by decide +kernel
theorem dX4_gather_128 : decode cX4_gather 128 = .ok (.ireturn, 1) := dc_of dtX4_gather_128_2_ok (i := 0) rfl
theorem dX4_gather_129 : decode cX4_gather 129 = .ok (.goto (-118), 3) := dc_of dtX4_gather_128_2_ok (i := 1) rfl
theorem dX4_gather_132 : decode cX4_gather 132 = .ok (.iconst 1, 1) := dc_of dtX4_gather_128_2_ok (i := 2) rfl
theorem dX4_gather_133 : decode cX4_gather 133 = .ok (.ireturn, 1) := dc_of dtX4_gather_128_2_ok (i := 3) rfl
set_option maxRecDepth 20000 in
theorem ggX4_orderOfHeads_X4_compareRow : GoodIn wsX4_orderOfHeads wsX4_compareRow := goodIn_r _ [7, 8, 2, 9, 10, 11, 12] rfl gw_wsX4_compareRow
set_option maxRecDepth 20000 in
theorem gX4_orderOfHeads_X4_compareRow : GoodIn wsX4_orderOfHeads (wsV RX4 37 RX4 yX4_compareRow wsX4_compareRow) := goodIn_app (goodIn_of _ (by decide +kernel)) ggX4_orderOfHeads_X4_compareRow
def dtX4_orderOfHeads_0_0 : List (Nat × Instr × Nat) := [(0, .iload_n 1, 1), (1, .aload_n 0, 1), (2, .getfield 34, 3), (5, .if_icmp .lt 5, 3), (8, .iconst 1, 1), (9, .ireturn, 1), (10, .iload_n 3, 1), (11, .aload_n 2, 1), (12, .getfield 34, 3), (15, .if_icmp .lt 5, 3), (18, .iconst (-1), 1), (19, .ireturn, 1), (20, .aload_n 0, 1), (21, .iload_n 1, 1), (22, .aload_n 2, 1), (23, .getfield 16, 3), (26, .iload_n 3, 1), (27, .bipush 6, 2), (29, .imul, 1), (30, .invokevirtual 37, 3), (33, .ireturn, 1)]
theorem dtX4_orderOfHeads_0_0_ok : dcAll cX4_orderOfHeads dtX4_orderOfHeads_0_0 = true := by decide +kernel
theorem dX4_orderOfHeads_0 : decode cX4_orderOfHeads 0 = .ok (.iload_n 1, 1) := dc_of dtX4_orderOfHeads_0_0_ok (i := 0) rfl
theorem dX4_orderOfHeads_1 : decode cX4_orderOfHeads 1 = .ok (.aload_n 0, 1) := dc_of dtX4_orderOfHeads_0_0_ok (i := 1) rfl
theorem dX4_orderOfHeads_2 : decode cX4_orderOfHeads 2 = .ok (.getfield 34, 3) := dc_of dtX4_orderOfHeads_0_0_ok (i := 2) rfl
theorem dX4_orderOfHeads_5 : decode cX4_orderOfHeads 5 = .ok (.if_icmp .lt 5, 3) := dc_of dtX4_orderOfHeads_0_0_ok (i := 3) rfl
theorem dX4_orderOfHeads_8 : decode cX4_orderOfHeads 8 = .ok (.iconst 1, 1) := dc_of dtX4_orderOfHeads_0_0_ok (i := 4) rfl
theorem dX4_orderOfHeads_9 : decode cX4_orderOfHeads 9 = .ok (.ireturn, 1) := dc_of dtX4_orderOfHeads_0_0_ok (i := 5) rfl
theorem dX4_orderOfHeads_10 : decode cX4_orderOfHeads 10 = .ok (.iload_n 3, 1) := dc_of dtX4_orderOfHeads_0_0_ok (i := 6) rfl
theorem dX4_orderOfHeads_11 : decode cX4_orderOfHeads 11 = .ok (.aload_n 2, 1) := dc_of dtX4_orderOfHeads_0_0_ok (i := 7) rfl
theorem dX4_orderOfHeads_12 : decode cX4_orderOfHeads 12 = .ok (.getfield 34, 3) := dc_of dtX4_orderOfHeads_0_0_ok (i := 8) rfl
theorem dX4_orderOfHeads_15 : decode cX4_orderOfHeads 15 = .ok (.if_icmp .lt 5, 3) := dc_of dtX4_orderOfHeads_0_0_ok (i := 9) rfl
theorem dX4_orderOfHeads_18 : decode cX4_orderOfHeads 18 = .ok (.iconst (-1), 1) := dc_of dtX4_orderOfHeads_0_0_ok (i := 10) rfl
theorem dX4_orderOfHeads_19 : decode cX4_orderOfHeads 19 = .ok (.ireturn, 1) := dc_of dtX4_orderOfHeads_0_0_ok (i := 11) rfl
theorem dX4_orderOfHeads_20 : decode cX4_orderOfHeads 20 = .ok (.aload_n 0, 1) := dc_of dtX4_orderOfHeads_0_0_ok (i := 12) rfl
theorem dX4_orderOfHeads_21 : decode cX4_orderOfHeads 21 = .ok (.iload_n 1, 1) := dc_of dtX4_orderOfHeads_0_0_ok (i := 13) rfl
theorem dX4_orderOfHeads_22 : decode cX4_orderOfHeads 22 = .ok (.aload_n 2, 1) := dc_of dtX4_orderOfHeads_0_0_ok (i := 14) rfl
theorem dX4_orderOfHeads_23 : decode cX4_orderOfHeads 23 = .ok (.getfield 16, 3) := dc_of dtX4_orderOfHeads_0_0_ok (i := 15) rfl
theorem dX4_orderOfHeads_26 : decode cX4_orderOfHeads 26 = .ok (.iload_n 3, 1) := dc_of dtX4_orderOfHeads_0_0_ok (i := 16) rfl
theorem dX4_orderOfHeads_27 : decode cX4_orderOfHeads 27 = .ok (.bipush 6, 2) := dc_of dtX4_orderOfHeads_0_0_ok (i := 17) rfl
theorem dX4_orderOfHeads_29 : decode cX4_orderOfHeads 29 = .ok (.imul, 1) := dc_of dtX4_orderOfHeads_0_0_ok (i := 18) rfl
theorem dX4_orderOfHeads_30 : decode cX4_orderOfHeads 30 = .ok (.invokevirtual 37, 3) := dc_of dtX4_orderOfHeads_0_0_ok (i := 19) rfl
theorem dX4_orderOfHeads_33 : decode cX4_orderOfHeads 33 = .ok (.ireturn, 1) := dc_of dtX4_orderOfHeads_0_0_ok (i := 20) rfl
def dtX5_init_0_0 : List (Nat × Instr × Nat) := [(0, .aload_n 0, 1), (1, .invokespecial 3, 3), (4, .aload_n 0, 1), (5, .sipush 901, 3), (8, .newarray .int, 2), (10, .putfield 9, 3), (13, .aload_n 0, 1), (14, .sipush 901, 3), (17, .newarray .int, 2), (19, .putfield 15, 3), (22, .aload_n 0, 1), (23, .sipush 901, 3), (26, .newarray .int, 2), (28, .putfield 18, 3), (31, .aload_n 0, 1), (32, .sipush 901, 3), (35, .newarray .long, 2), (37, .putfield 21, 3), (40, .return_, 1)]
theorem dtX5_init_0_0_ok : dcAll cX5_init dtX5_init_0_0 = true := by decide +kernel
theorem dX5_init_0 : decode cX5_init 0 = .ok (.aload_n 0, 1) := dc_of dtX5_init_0_0_ok (i := 0) rfl
theorem dX5_init_1 : decode cX5_init 1 = .ok (.invokespecial 3, 3) := dc_of dtX5_init_0_0_ok (i := 1) rfl
theorem dX5_init_4 : decode cX5_init 4 = .ok (.aload_n 0, 1) := dc_of dtX5_init_0_0_ok (i := 2) rfl
theorem dX5_init_5 : decode cX5_init 5 = .ok (.sipush 901, 3) := dc_of dtX5_init_0_0_ok (i := 3) rfl
theorem dX5_init_8 : decode cX5_init 8 = .ok (.newarray .int, 2) := dc_of dtX5_init_0_0_ok (i := 4) rfl
theorem dX5_init_10 : decode cX5_init 10 = .ok (.putfield 9, 3) := dc_of dtX5_init_0_0_ok (i := 5) rfl
theorem dX5_init_13 : decode cX5_init 13 = .ok (.aload_n 0, 1) := dc_of dtX5_init_0_0_ok (i := 6) rfl
theorem dX5_init_14 : decode cX5_init 14 = .ok (.sipush 901, 3) := dc_of dtX5_init_0_0_ok (i := 7) rfl
theorem dX5_init_17 : decode cX5_init 17 = .ok (.newarray .int, 2) := dc_of dtX5_init_0_0_ok (i := 8) rfl
theorem dX5_init_19 : decode cX5_init 19 = .ok (.putfield 15, 3) := dc_of dtX5_init_0_0_ok (i := 9) rfl
theorem dX5_init_22 : decode cX5_init 22 = .ok (.aload_n 0, 1) := dc_of dtX5_init_0_0_ok (i := 10) rfl
theorem dX5_init_23 : decode cX5_init 23 = .ok (.sipush 901, 3) := dc_of dtX5_init_0_0_ok (i := 11) rfl
theorem dX5_init_26 : decode cX5_init 26 = .ok (.newarray .int, 2) := dc_of dtX5_init_0_0_ok (i := 12) rfl
theorem dX5_init_28 : decode cX5_init 28 = .ok (.putfield 18, 3) := dc_of dtX5_init_0_0_ok (i := 13) rfl
theorem dX5_init_31 : decode cX5_init 31 = .ok (.aload_n 0, 1) := dc_of dtX5_init_0_0_ok (i := 14) rfl
theorem dX5_init_32 : decode cX5_init 32 = .ok (.sipush 901, 3) := dc_of dtX5_init_0_0_ok (i := 15) rfl
theorem dX5_init_35 : decode cX5_init 35 = .ok (.newarray .long, 2) := dc_of dtX5_init_0_0_ok (i := 16) rfl
theorem dX5_init_37 : decode cX5_init 37 = .ok (.putfield 21, 3) := dc_of dtX5_init_0_0_ok (i := 17) rfl
theorem dX5_init_40 : decode cX5_init 40 = .ok (.return_, 1) := dc_of dtX5_init_0_0_ok (i := 18) rfl
set_option maxRecDepth 20000 in
theorem gw_wsX5_isRunSign : wsX5_isRunSign.all goodWord = true := by decide +kernel
set_option maxRecDepth 20000 in
theorem ggX5_read_X5_isRunSign : GoodIn wsX5_read wsX5_isRunSign := goodIn_r _ [5, 6, 7, 4, 8] rfl gw_wsX5_isRunSign
set_option maxRecDepth 20000 in
theorem gX5_read_X5_isRunSign : GoodIn wsX5_read (va_wsS RX5 29 yX5_isRunSign wsX5_isRunSign) := goodIn_app (goodIn_of _ (by decide +kernel)) ggX5_read_X5_isRunSign
set_option maxRecDepth 20000 in
theorem gw_wsX5_readRun : wsX5_readRun.all goodWord = true := by decide +kernel
set_option maxRecDepth 20000 in
theorem ggX5_read_X5_readRun : GoodIn wsX5_read wsX5_readRun := goodIn_r _ [12, 6, 7, 4, 8, 13, 14, 15, 16, 17, 18, 19, 20, 21, 22, 23, 24, 25, 26, 27, 28, 29, 30, 31, 32, 33, 34, 35, 36, 37, 38, 39, 40, 41, 42, 43, 44, 45, 46, 47, 48, 49, 50, 51, 52, 53, 54, 55, 56, 57, 58, 59, 60, 61, 62, 63, 64, 65, 66, 67, 68, 69, 70, 71, 72, 73, 74, 75, 1, 76, 77, 78, 79, 80, 81, 143, 144, 145, 146, 147] rfl gw_wsX5_readRun
set_option maxRecDepth 20000 in
theorem gX5_read_X5_readRun : GoodIn wsX5_read (wsV RX5 33 RX5 yX5_readRun wsX5_readRun) := goodIn_app (goodIn_of _ (by decide +kernel)) ggX5_read_X5_readRun
set_option maxRecDepth 20000 in
theorem gw_wsJ0_indexOf_0f7a4 : wsJ0_indexOf_0f7a4.all goodWord = true := by decide +kernel
set_option maxRecDepth 20000 in
theorem ggX5_read_J0_indexOf_0f7a4 : GoodIn wsX5_read wsJ0_indexOf_0f7a4 := goodIn_r _ [85, 86, 87, 88, 19, 89, 21, 32, 33, 34, 35, 26, 27, 90, 17, 18, 20, 22, 23, 24, 25, 91, 92, 38, 93, 94, 95, 96, 97, 98, 99, 100, 101, 102, 103, 104, 105, 106, 107, 108, 50, 109, 110, 111, 112, 113, 114, 115, 116, 117, 118, 55, 56, 57, 119, 120, 121, 43, 122, 123, 46, 124, 125, 126, 127, 59, 60, 61, 62, 63, 64, 128, 129, 130, 131, 132, 133, 134, 135, 136, 137, 138, 139, 140, 141, 142] rfl gw_wsJ0_indexOf_0f7a4
set_option maxRecDepth 20000 in
theorem gX5_read_J0_indexOf_0f7a4 : GoodIn wsX5_read (wsV RX5 39 RJ0 yJ0_indexOf_0f7a4 wsJ0_indexOf_0f7a4) := goodIn_app (goodIn_of _ (by decide +kernel)) ggX5_read_J0_indexOf_0f7a4
set_option maxRecDepth 20000 in
theorem gw_wsX5_addToken : wsX5_addToken.all goodWord = true := by decide +kernel
set_option maxRecDepth 20000 in
theorem ggX5_read_X5_addToken : GoodIn wsX5_read wsX5_addToken := goodIn_r _ [74, 75, 1, 76, 77, 78, 143, 144, 145, 146, 147] rfl gw_wsX5_addToken
set_option maxRecDepth 20000 in
theorem gX5_read_X5_addToken : GoodIn wsX5_read (wsV RX5 45 RX5 yX5_addToken wsX5_addToken) := goodIn_app (goodIn_of _ (by decide +kernel)) ggX5_read_X5_addToken
def dtX5_read_0_0 : List (Nat × Instr × Nat) := [(0, .aload_n 0, 1), (1, .iconst 0, 1), (2, .putfield 25, 3), (5, .iconst 0, 1), (6, .istore_n 3, 1), (7, .iload_n 3, 1), (8, .iload_n 2, 1), (9, .if_icmp .ge 119, 3), (12, .iload_n 3, 1), (13, .istore 4, 2), (15, .iinc 3 1, 3), (18, .aload_n 1, 1), (19, .iload 4, 2), (21, .baload, 1), (22, .invokestatic 29, 3), (25, .ifCond .eq 34, 3), (28, .iload_n 3, 1), (29, .iload_n 2, 1), (30, .if_icmp .ge 18, 3), (33, .aload_n 1, 1), (34, .iload_n 3, 1), (35, .baload, 1), (36, .invokestatic 29, 3), (39, .ifCond .eq 9, 3), (42, .iinc 3 1, 3), (45, .goto (-17), 3), (48, .aload_n 0, 1), (49, .aload_n 1, 1), (50, .iload 4, 2), (52, .iload_n 3, 1), (53, .invokevirtual 33, 3), (56, .goto 69, 3)]
theorem dtX5_read_0_0_ok : dcAll cX5_read dtX5_read_0_0 = true := by decide +kernel
theorem dX5_read_0 : decode cX5_read 0 = .ok (.aload_n 0, 1) := dc_of dtX5_read_0_0_ok (i := 0) rfl
theorem dX5_read_1 : decode cX5_read 1 = .ok (.iconst 0, 1) := dc_of dtX5_read_0_0_ok (i := 1) rfl
theorem dX5_read_2 : decode cX5_read 2 = .ok (.putfield 25, 3) := dc_of dtX5_read_0_0_ok (i := 2) rfl
theorem dX5_read_5 : decode cX5_read 5 = .ok (.iconst 0, 1) := dc_of dtX5_read_0_0_ok (i := 3) rfl
theorem dX5_read_6 : decode cX5_read 6 = .ok (.istore_n 3, 1) := dc_of dtX5_read_0_0_ok (i := 4) rfl
theorem dX5_read_7 : decode cX5_read 7 = .ok (.iload_n 3, 1) := dc_of dtX5_read_0_0_ok (i := 5) rfl
theorem dX5_read_8 : decode cX5_read 8 = .ok (.iload_n 2, 1) := dc_of dtX5_read_0_0_ok (i := 6) rfl
theorem dX5_read_9 : decode cX5_read 9 = .ok (.if_icmp .ge 119, 3) := dc_of dtX5_read_0_0_ok (i := 7) rfl
theorem dX5_read_12 : decode cX5_read 12 = .ok (.iload_n 3, 1) := dc_of dtX5_read_0_0_ok (i := 8) rfl
theorem dX5_read_13 : decode cX5_read 13 = .ok (.istore 4, 2) := dc_of dtX5_read_0_0_ok (i := 9) rfl
theorem dX5_read_15 : decode cX5_read 15 = .ok (.iinc 3 1, 3) := dc_of dtX5_read_0_0_ok (i := 10) rfl
theorem dX5_read_18 : decode cX5_read 18 = .ok (.aload_n 1, 1) := dc_of dtX5_read_0_0_ok (i := 11) rfl
theorem dX5_read_19 : decode cX5_read 19 = .ok (.iload 4, 2) := dc_of dtX5_read_0_0_ok (i := 12) rfl
theorem dX5_read_21 : decode cX5_read 21 = .ok (.baload, 1) := dc_of dtX5_read_0_0_ok (i := 13) rfl
theorem dX5_read_22 : decode cX5_read 22 = .ok (.invokestatic 29, 3) := dc_of dtX5_read_0_0_ok (i := 14) rfl
theorem dX5_read_25 : decode cX5_read 25 = .ok (.ifCond .eq 34, 3) := dc_of dtX5_read_0_0_ok (i := 15) rfl
theorem dX5_read_28 : decode cX5_read 28 = .ok (.iload_n 3, 1) := dc_of dtX5_read_0_0_ok (i := 16) rfl
theorem dX5_read_29 : decode cX5_read 29 = .ok (.iload_n 2, 1) := dc_of dtX5_read_0_0_ok (i := 17) rfl
theorem dX5_read_30 : decode cX5_read 30 = .ok (.if_icmp .ge 18, 3) := dc_of dtX5_read_0_0_ok (i := 18) rfl
theorem dX5_read_33 : decode cX5_read 33 = .ok (.aload_n 1, 1) := dc_of dtX5_read_0_0_ok (i := 19) rfl
theorem dX5_read_34 : decode cX5_read 34 = .ok (.iload_n 3, 1) := dc_of dtX5_read_0_0_ok (i := 20) rfl
theorem dX5_read_35 : decode cX5_read 35 = .ok (.baload, 1) := dc_of dtX5_read_0_0_ok (i := 21) rfl
theorem dX5_read_36 : decode cX5_read 36 = .ok (.invokestatic 29, 3) := dc_of dtX5_read_0_0_ok (i := 22) rfl
theorem dX5_read_39 : decode cX5_read 39 = .ok (.ifCond .eq 9, 3) := dc_of dtX5_read_0_0_ok (i := 23) rfl
theorem dX5_read_42 : decode cX5_read 42 = .ok (.iinc 3 1, 3) := dc_of dtX5_read_0_0_ok (i := 24) rfl
theorem dX5_read_45 : decode cX5_read 45 = .ok (.goto (-17), 3) := dc_of dtX5_read_0_0_ok (i := 25) rfl
theorem dX5_read_48 : decode cX5_read 48 = .ok (.aload_n 0, 1) := dc_of dtX5_read_0_0_ok (i := 26) rfl
theorem dX5_read_49 : decode cX5_read 49 = .ok (.aload_n 1, 1) := dc_of dtX5_read_0_0_ok (i := 27) rfl
theorem dX5_read_50 : decode cX5_read 50 = .ok (.iload 4, 2) := dc_of dtX5_read_0_0_ok (i := 28) rfl
theorem dX5_read_52 : decode cX5_read 52 = .ok (.iload_n 3, 1) := dc_of dtX5_read_0_0_ok (i := 29) rfl
theorem dX5_read_53 : decode cX5_read 53 = .ok (.invokevirtual 33, 3) := dc_of dtX5_read_0_0_ok (i := 30) rfl
theorem dX5_read_56 : decode cX5_read 56 = .ok (.goto 69, 3) := dc_of dtX5_read_0_0_ok (i := 31) rfl
def dtX5_read_59_1 : List (Nat × Instr × Nat) := [(59, .aload_n 1, 1), (60, .iload 4, 2), (62, .baload, 1), (63, .bipush 32, 2), (65, .if_icmp .eq 60, 3), (68, .aload_n 1, 1), (69, .iload 4, 2), (71, .baload, 1), (72, .bipush 10, 2), (74, .if_icmp .eq 51, 3), (77, .aload_n 1, 1), (78, .iload 4, 2), (80, .baload, 1), (81, .ifCond .le 20, 3), (84, .ldc 37, 2), (86, .aload_n 1, 1), (87, .iload 4, 2), (89, .baload, 1), (90, .i2c, 1), (91, .invokevirtual 39, 3), (94, .ifCond .lt 7, 3), (97, .iconst 1, 1), (98, .goto 4, 3), (101, .iconst 0, 1), (102, .istore 5, 2), (104, .aload_n 0, 1), (105, .iload 5, 2), (107, .ifCond .eq 10, 3), (110, .aload_n 1, 1), (111, .iload 4, 2), (113, .baload, 1), (114, .goto 4, 3)]
theorem dtX5_read_59_1_ok : dcAll cX5_read dtX5_read_59_1 = true := by decide +kernel
theorem dX5_read_59 : decode cX5_read 59 = .ok (.aload_n 1, 1) := dc_of dtX5_read_59_1_ok (i := 0) rfl
theorem dX5_read_60 : decode cX5_read 60 = .ok (.iload 4, 2) := dc_of dtX5_read_59_1_ok (i := 1) rfl
theorem dX5_read_62 : decode cX5_read 62 = .ok (.baload, 1) := dc_of dtX5_read_59_1_ok (i := 2) rfl
theorem dX5_read_63 : decode cX5_read 63 = .ok (.bipush 32, 2) := dc_of dtX5_read_59_1_ok (i := 3) rfl
theorem dX5_read_65 : decode cX5_read 65 = .ok (.if_icmp .eq 60, 3) := dc_of dtX5_read_59_1_ok (i := 4) rfl
theorem dX5_read_68 : decode cX5_read 68 = .ok (.aload_n 1, 1) := dc_of dtX5_read_59_1_ok (i := 5) rfl
theorem dX5_read_69 : decode cX5_read 69 = .ok (.iload 4, 2) := dc_of dtX5_read_59_1_ok (i := 6) rfl
theorem dX5_read_71 : decode cX5_read 71 = .ok (.baload, 1) := dc_of dtX5_read_59_1_ok (i := 7) rfl
theorem dX5_read_72 : decode cX5_read 72 = .ok (.bipush 10, 2) := dc_of dtX5_read_59_1_ok (i := 8) rfl
theorem dX5_read_74 : decode cX5_read 74 = .ok (.if_icmp .eq 51, 3) := dc_of dtX5_read_59_1_ok (i := 9) rfl
theorem dX5_read_77 : decode cX5_read 77 = .ok (.aload_n 1, 1) := dc_of dtX5_read_59_1_ok (i := 10) rfl
theorem dX5_read_78 : decode cX5_read 78 = .ok (.iload 4, 2) := dc_of dtX5_read_59_1_ok (i := 11) rfl
theorem dX5_read_80 : decode cX5_read 80 = .ok (.baload, 1) := dc_of dtX5_read_59_1_ok (i := 12) rfl
theorem dX5_read_81 : decode cX5_read 81 = .ok (.ifCond .le 20, 3) := dc_of dtX5_read_59_1_ok (i := 13) rfl
theorem dX5_read_84 : decode cX5_read 84 = .ok (.ldc 37, 2) := dc_of dtX5_read_59_1_ok (i := 14) rfl
theorem dX5_read_86 : decode cX5_read 86 = .ok (.aload_n 1, 1) := dc_of dtX5_read_59_1_ok (i := 15) rfl
theorem dX5_read_87 : decode cX5_read 87 = .ok (.iload 4, 2) := dc_of dtX5_read_59_1_ok (i := 16) rfl
theorem dX5_read_89 : decode cX5_read 89 = .ok (.baload, 1) := dc_of dtX5_read_59_1_ok (i := 17) rfl
theorem dX5_read_90 : decode cX5_read 90 = .ok (.i2c, 1) := dc_of dtX5_read_59_1_ok (i := 18) rfl
theorem dX5_read_91 : decode cX5_read 91 = .ok (.invokevirtual 39, 3) := dc_of dtX5_read_59_1_ok (i := 19) rfl
theorem dX5_read_94 : decode cX5_read 94 = .ok (.ifCond .lt 7, 3) := dc_of dtX5_read_59_1_ok (i := 20) rfl
theorem dX5_read_97 : decode cX5_read 97 = .ok (.iconst 1, 1) := dc_of dtX5_read_59_1_ok (i := 21) rfl
theorem dX5_read_98 : decode cX5_read 98 = .ok (.goto 4, 3) := dc_of dtX5_read_59_1_ok (i := 22) rfl
theorem dX5_read_101 : decode cX5_read 101 = .ok (.iconst 0, 1) := dc_of dtX5_read_59_1_ok (i := 23) rfl
theorem dX5_read_102 : decode cX5_read 102 = .ok (.istore 5, 2) := dc_of dtX5_read_59_1_ok (i := 24) rfl
theorem dX5_read_104 : decode cX5_read 104 = .ok (.aload_n 0, 1) := dc_of dtX5_read_59_1_ok (i := 25) rfl
theorem dX5_read_105 : decode cX5_read 105 = .ok (.iload 5, 2) := dc_of dtX5_read_59_1_ok (i := 26) rfl
theorem dX5_read_107 : decode cX5_read 107 = .ok (.ifCond .eq 10, 3) := dc_of dtX5_read_59_1_ok (i := 27) rfl
theorem dX5_read_110 : decode cX5_read 110 = .ok (.aload_n 1, 1) := dc_of dtX5_read_59_1_ok (i := 28) rfl
theorem dX5_read_111 : decode cX5_read 111 = .ok (.iload 4, 2) := dc_of dtX5_read_59_1_ok (i := 29) rfl
theorem dX5_read_113 : decode cX5_read 113 = .ok (.baload, 1) := dc_of dtX5_read_59_1_ok (i := 30) rfl
theorem dX5_read_114 : decode cX5_read 114 = .ok (.goto 4, 3) := dc_of dtX5_read_59_1_ok (i := 31) rfl
def dtX5_read_117_2 : List (Nat × Instr × Nat) := [(117, .iconst 1, 1), (118, .iload 4, 2), (120, .iconst 0, 1), (121, .lconst 0, 1), (122, .invokevirtual 45, 3), (125, .goto (-118), 3), (128, .aload_n 0, 1), (129, .iconst 0, 1), (130, .iload_n 2, 1), (131, .iconst 0, 1), (132, .lconst 0, 1), (133, .invokevirtual 45, 3), (136, .return_, 1)]
theorem dtX5_read_117_2_ok : dcAll cX5_read dtX5_read_117_2 = true := by decide +kernel
theorem dX5_read_117 : decode cX5_read 117 = .ok (.iconst 1, 1) := dc_of dtX5_read_117_2_ok (i := 0) rfl
theorem dX5_read_118 : decode cX5_read 118 = .ok (.iload 4, 2) := dc_of dtX5_read_117_2_ok (i := 1) rfl
theorem dX5_read_120 : decode cX5_read 120 = .ok (.iconst 0, 1) := dc_of dtX5_read_117_2_ok (i := 2) rfl
theorem dX5_read_121 : decode cX5_read 121 = .ok (.lconst 0, 1) := dc_of dtX5_read_117_2_ok (i := 3) rfl
theorem dX5_read_122 : decode cX5_read 122 = .ok (.invokevirtual 45, 3) := dc_of dtX5_read_117_2_ok (i := 4) rfl
theorem dX5_read_125 : decode cX5_read 125 = .ok (.goto (-118), 3) := dc_of dtX5_read_117_2_ok (i := 5) rfl
theorem dX5_read_128 : decode cX5_read 128 = .ok (.aload_n 0, 1) := dc_of dtX5_read_117_2_ok (i := 6) rfl
theorem dX5_read_129 : decode cX5_read 129 = .ok (.iconst 0, 1) := dc_of dtX5_read_117_2_ok (i := 7) rfl
theorem dX5_read_130 : decode cX5_read 130 = .ok (.iload_n 2, 1) := dc_of dtX5_read_117_2_ok (i := 8) rfl
theorem dX5_read_131 : decode cX5_read 131 = .ok (.iconst 0, 1) := dc_of dtX5_read_117_2_ok (i := 9) rfl
theorem dX5_read_132 : decode cX5_read 132 = .ok (.lconst 0, 1) := dc_of dtX5_read_117_2_ok (i := 10) rfl
theorem dX5_read_133 : decode cX5_read 133 = .ok (.invokevirtual 45, 3) := dc_of dtX5_read_117_2_ok (i := 11) rfl
theorem dX5_read_136 : decode cX5_read 136 = .ok (.return_, 1) := dc_of dtX5_read_117_2_ok (i := 12) rfl
def dtX5_addToken_0_0 : List (Nat × Instr × Nat) := [(0, .aload_n 0, 1), (1, .getfield 9, 3), (4, .aload_n 0, 1), (5, .getfield 25, 3), (8, .iload_n 1, 1), (9, .iastore, 1), (10, .aload_n 0, 1), (11, .getfield 15, 3), (14, .aload_n 0, 1), (15, .getfield 25, 3), (18, .iload_n 2, 1), (19, .iastore, 1), (20, .aload_n 0, 1), (21, .getfield 18, 3), (24, .aload_n 0, 1), (25, .getfield 25, 3), (28, .iload_n 3, 1), (29, .iastore, 1), (30, .aload_n 0, 1), (31, .getfield 21, 3), (34, .aload_n 0, 1), (35, .getfield 25, 3), (38, .lload 4, 2), (40, .lastore, 1), (41, .aload_n 0, 1), (42, .dup, 1), (43, .getfield 25, 3), (46, .iconst 1, 1), (47, .iadd, 1), (48, .putfield 25, 3), (51, .return_, 1)]
theorem dtX5_addToken_0_0_ok : dcAll cX5_addToken dtX5_addToken_0_0 = true := by decide +kernel
theorem dX5_addToken_0 : decode cX5_addToken 0 = .ok (.aload_n 0, 1) := dc_of dtX5_addToken_0_0_ok (i := 0) rfl
theorem dX5_addToken_1 : decode cX5_addToken 1 = .ok (.getfield 9, 3) := dc_of dtX5_addToken_0_0_ok (i := 1) rfl
theorem dX5_addToken_4 : decode cX5_addToken 4 = .ok (.aload_n 0, 1) := dc_of dtX5_addToken_0_0_ok (i := 2) rfl
theorem dX5_addToken_5 : decode cX5_addToken 5 = .ok (.getfield 25, 3) := dc_of dtX5_addToken_0_0_ok (i := 3) rfl
theorem dX5_addToken_8 : decode cX5_addToken 8 = .ok (.iload_n 1, 1) := dc_of dtX5_addToken_0_0_ok (i := 4) rfl
theorem dX5_addToken_9 : decode cX5_addToken 9 = .ok (.iastore, 1) := dc_of dtX5_addToken_0_0_ok (i := 5) rfl
theorem dX5_addToken_10 : decode cX5_addToken 10 = .ok (.aload_n 0, 1) := dc_of dtX5_addToken_0_0_ok (i := 6) rfl
theorem dX5_addToken_11 : decode cX5_addToken 11 = .ok (.getfield 15, 3) := dc_of dtX5_addToken_0_0_ok (i := 7) rfl
theorem dX5_addToken_14 : decode cX5_addToken 14 = .ok (.aload_n 0, 1) := dc_of dtX5_addToken_0_0_ok (i := 8) rfl
theorem dX5_addToken_15 : decode cX5_addToken 15 = .ok (.getfield 25, 3) := dc_of dtX5_addToken_0_0_ok (i := 9) rfl
theorem dX5_addToken_18 : decode cX5_addToken 18 = .ok (.iload_n 2, 1) := dc_of dtX5_addToken_0_0_ok (i := 10) rfl
theorem dX5_addToken_19 : decode cX5_addToken 19 = .ok (.iastore, 1) := dc_of dtX5_addToken_0_0_ok (i := 11) rfl
theorem dX5_addToken_20 : decode cX5_addToken 20 = .ok (.aload_n 0, 1) := dc_of dtX5_addToken_0_0_ok (i := 12) rfl
theorem dX5_addToken_21 : decode cX5_addToken 21 = .ok (.getfield 18, 3) := dc_of dtX5_addToken_0_0_ok (i := 13) rfl
theorem dX5_addToken_24 : decode cX5_addToken 24 = .ok (.aload_n 0, 1) := dc_of dtX5_addToken_0_0_ok (i := 14) rfl
theorem dX5_addToken_25 : decode cX5_addToken 25 = .ok (.getfield 25, 3) := dc_of dtX5_addToken_0_0_ok (i := 15) rfl
theorem dX5_addToken_28 : decode cX5_addToken 28 = .ok (.iload_n 3, 1) := dc_of dtX5_addToken_0_0_ok (i := 16) rfl
theorem dX5_addToken_29 : decode cX5_addToken 29 = .ok (.iastore, 1) := dc_of dtX5_addToken_0_0_ok (i := 17) rfl
theorem dX5_addToken_30 : decode cX5_addToken 30 = .ok (.aload_n 0, 1) := dc_of dtX5_addToken_0_0_ok (i := 18) rfl
theorem dX5_addToken_31 : decode cX5_addToken 31 = .ok (.getfield 21, 3) := dc_of dtX5_addToken_0_0_ok (i := 19) rfl
theorem dX5_addToken_34 : decode cX5_addToken 34 = .ok (.aload_n 0, 1) := dc_of dtX5_addToken_0_0_ok (i := 20) rfl
theorem dX5_addToken_35 : decode cX5_addToken 35 = .ok (.getfield 25, 3) := dc_of dtX5_addToken_0_0_ok (i := 21) rfl
theorem dX5_addToken_38 : decode cX5_addToken 38 = .ok (.lload 4, 2) := dc_of dtX5_addToken_0_0_ok (i := 22) rfl
theorem dX5_addToken_40 : decode cX5_addToken 40 = .ok (.lastore, 1) := dc_of dtX5_addToken_0_0_ok (i := 23) rfl
theorem dX5_addToken_41 : decode cX5_addToken 41 = .ok (.aload_n 0, 1) := dc_of dtX5_addToken_0_0_ok (i := 24) rfl
theorem dX5_addToken_42 : decode cX5_addToken 42 = .ok (.dup, 1) := dc_of dtX5_addToken_0_0_ok (i := 25) rfl
theorem dX5_addToken_43 : decode cX5_addToken 43 = .ok (.getfield 25, 3) := dc_of dtX5_addToken_0_0_ok (i := 26) rfl
theorem dX5_addToken_46 : decode cX5_addToken 46 = .ok (.iconst 1, 1) := dc_of dtX5_addToken_0_0_ok (i := 27) rfl
theorem dX5_addToken_47 : decode cX5_addToken 47 = .ok (.iadd, 1) := dc_of dtX5_addToken_0_0_ok (i := 28) rfl
theorem dX5_addToken_48 : decode cX5_addToken 48 = .ok (.putfield 25, 3) := dc_of dtX5_addToken_0_0_ok (i := 29) rfl
theorem dX5_addToken_51 : decode cX5_addToken 51 = .ok (.return_, 1) := dc_of dtX5_addToken_0_0_ok (i := 30) rfl
def dtX5_isDigit_0_0 : List (Nat × Instr × Nat) := [(0, .iload_n 0, 1), (1, .bipush 48, 2), (3, .if_icmp .lt 13, 3), (6, .iload_n 0, 1), (7, .bipush 57, 2), (9, .if_icmp .gt 7, 3), (12, .iconst 1, 1), (13, .goto 4, 3), (16, .iconst 0, 1), (17, .ireturn, 1)]
theorem dtX5_isDigit_0_0_ok : dcAll cX5_isDigit dtX5_isDigit_0_0 = true := by decide +kernel
theorem dX5_isDigit_0 : decode cX5_isDigit 0 = .ok (.iload_n 0, 1) := dc_of dtX5_isDigit_0_0_ok (i := 0) rfl
theorem dX5_isDigit_1 : decode cX5_isDigit 1 = .ok (.bipush 48, 2) := dc_of dtX5_isDigit_0_0_ok (i := 1) rfl
theorem dX5_isDigit_3 : decode cX5_isDigit 3 = .ok (.if_icmp .lt 13, 3) := dc_of dtX5_isDigit_0_0_ok (i := 2) rfl
theorem dX5_isDigit_6 : decode cX5_isDigit 6 = .ok (.iload_n 0, 1) := dc_of dtX5_isDigit_0_0_ok (i := 3) rfl
theorem dX5_isDigit_7 : decode cX5_isDigit 7 = .ok (.bipush 57, 2) := dc_of dtX5_isDigit_0_0_ok (i := 4) rfl
theorem dX5_isDigit_9 : decode cX5_isDigit 9 = .ok (.if_icmp .gt 7, 3) := dc_of dtX5_isDigit_0_0_ok (i := 5) rfl
theorem dX5_isDigit_12 : decode cX5_isDigit 12 = .ok (.iconst 1, 1) := dc_of dtX5_isDigit_0_0_ok (i := 6) rfl
theorem dX5_isDigit_13 : decode cX5_isDigit 13 = .ok (.goto 4, 3) := dc_of dtX5_isDigit_0_0_ok (i := 7) rfl
theorem dX5_isDigit_16 : decode cX5_isDigit 16 = .ok (.iconst 0, 1) := dc_of dtX5_isDigit_0_0_ok (i := 8) rfl
theorem dX5_isDigit_17 : decode cX5_isDigit 17 = .ok (.ireturn, 1) := dc_of dtX5_isDigit_0_0_ok (i := 9) rfl
set_option maxRecDepth 20000 in
theorem gw_wsX5_isDigit : wsX5_isDigit.all goodWord = true := by decide +kernel
set_option maxRecDepth 20000 in
theorem ggX5_isRunSign_X5_isDigit : GoodIn wsX5_isRunSign wsX5_isDigit := goodIn_r _ [4] rfl gw_wsX5_isDigit
set_option maxRecDepth 20000 in
theorem gX5_isRunSign_X5_isDigit : GoodIn wsX5_isRunSign (va_wsS RX5 49 yX5_isDigit wsX5_isDigit) := goodIn_app (goodIn_of _ (by decide +kernel)) ggX5_isRunSign_X5_isDigit
def dtX5_isRunSign_0_0 : List (Nat × Instr × Nat) := [(0, .iload_n 0, 1), (1, .invokestatic 49, 3), (4, .ifCond .ne 15, 3), (7, .iload_n 0, 1), (8, .bipush 97, 2), (10, .if_icmp .lt 13, 3), (13, .iload_n 0, 1), (14, .bipush 122, 2), (16, .if_icmp .gt 7, 3), (19, .iconst 1, 1), (20, .goto 4, 3), (23, .iconst 0, 1), (24, .ireturn, 1)]
theorem dtX5_isRunSign_0_0_ok : dcAll cX5_isRunSign dtX5_isRunSign_0_0 = true := by decide +kernel
theorem dX5_isRunSign_0 : decode cX5_isRunSign 0 = .ok (.iload_n 0, 1) := dc_of dtX5_isRunSign_0_0_ok (i := 0) rfl
theorem dX5_isRunSign_1 : decode cX5_isRunSign 1 = .ok (.invokestatic 49, 3) := dc_of dtX5_isRunSign_0_0_ok (i := 1) rfl
theorem dX5_isRunSign_4 : decode cX5_isRunSign 4 = .ok (.ifCond .ne 15, 3) := dc_of dtX5_isRunSign_0_0_ok (i := 2) rfl
theorem dX5_isRunSign_7 : decode cX5_isRunSign 7 = .ok (.iload_n 0, 1) := dc_of dtX5_isRunSign_0_0_ok (i := 3) rfl
theorem dX5_isRunSign_8 : decode cX5_isRunSign 8 = .ok (.bipush 97, 2) := dc_of dtX5_isRunSign_0_0_ok (i := 4) rfl
theorem dX5_isRunSign_10 : decode cX5_isRunSign 10 = .ok (.if_icmp .lt 13, 3) := dc_of dtX5_isRunSign_0_0_ok (i := 5) rfl
theorem dX5_isRunSign_13 : decode cX5_isRunSign 13 = .ok (.iload_n 0, 1) := dc_of dtX5_isRunSign_0_0_ok (i := 6) rfl
theorem dX5_isRunSign_14 : decode cX5_isRunSign 14 = .ok (.bipush 122, 2) := dc_of dtX5_isRunSign_0_0_ok (i := 7) rfl
theorem dX5_isRunSign_16 : decode cX5_isRunSign 16 = .ok (.if_icmp .gt 7, 3) := dc_of dtX5_isRunSign_0_0_ok (i := 8) rfl
theorem dX5_isRunSign_19 : decode cX5_isRunSign 19 = .ok (.iconst 1, 1) := dc_of dtX5_isRunSign_0_0_ok (i := 9) rfl
theorem dX5_isRunSign_20 : decode cX5_isRunSign 20 = .ok (.goto 4, 3) := dc_of dtX5_isRunSign_0_0_ok (i := 10) rfl
theorem dX5_isRunSign_23 : decode cX5_isRunSign 23 = .ok (.iconst 0, 1) := dc_of dtX5_isRunSign_0_0_ok (i := 11) rfl
theorem dX5_isRunSign_24 : decode cX5_isRunSign 24 = .ok (.ireturn, 1) := dc_of dtX5_isRunSign_0_0_ok (i := 12) rfl
set_option maxRecDepth 20000 in
theorem ggX5_readRun_X5_isDigit : GoodIn wsX5_readRun wsX5_isDigit := goodIn_r _ [4] rfl gw_wsX5_isDigit
set_option maxRecDepth 20000 in
theorem gX5_readRun_X5_isDigit : GoodIn wsX5_readRun (va_wsS RX5 49 yX5_isDigit wsX5_isDigit) := goodIn_app (goodIn_of _ (by decide +kernel)) ggX5_readRun_X5_isDigit
set_option maxRecDepth 20000 in
theorem gw_wsX5_wordNumber : wsX5_wordNumber.all goodWord = true := by decide +kernel
set_option maxRecDepth 20000 in
theorem ggX5_readRun_X5_wordNumber : GoodIn wsX5_readRun wsX5_wordNumber := goodIn_r _ [7, 8, 9, 10, 11, 12, 13, 14, 15, 16, 17, 18, 19, 20, 21, 22, 23, 24, 25, 26, 27, 28, 29, 30, 31, 32, 33, 34, 35, 36, 37, 38, 39, 40, 41, 42, 43, 44, 45, 46, 47, 48, 49, 50, 51, 52, 53, 54, 55, 56, 57, 58, 3, 59] rfl gw_wsX5_wordNumber
set_option maxRecDepth 20000 in
theorem gX5_readRun_X5_wordNumber : GoodIn wsX5_readRun (va_wsS RX5 52 yX5_wordNumber wsX5_wordNumber) := goodIn_app (goodIn_of _ (by decide +kernel)) ggX5_readRun_X5_wordNumber
set_option maxRecDepth 20000 in
theorem gw_wsX5_nameOf : wsX5_nameOf.all goodWord = true := by decide +kernel
set_option maxRecDepth 20000 in
theorem ggX5_readRun_X5_nameOf : GoodIn wsX5_readRun wsX5_nameOf := goodIn_r _ [62] rfl gw_wsX5_nameOf
set_option maxRecDepth 20000 in
theorem gX5_readRun_X5_nameOf : GoodIn wsX5_readRun (va_wsS RX5 56 yX5_nameOf wsX5_nameOf) := goodIn_app (goodIn_of _ (by decide +kernel)) ggX5_readRun_X5_nameOf
set_option maxRecDepth 20000 in
theorem ggX5_readRun_X5_addToken : GoodIn wsX5_readRun wsX5_addToken := goodIn_r _ [66, 67, 68, 69, 70, 71, 75, 76, 77, 78, 79] rfl gw_wsX5_addToken
set_option maxRecDepth 20000 in
theorem gX5_readRun_X5_addToken : GoodIn wsX5_readRun (wsV RX5 45 RX5 yX5_addToken wsX5_addToken) := goodIn_app (goodIn_of _ (by decide +kernel)) ggX5_readRun_X5_addToken
set_option maxRecDepth 20000 in
theorem gw_wsX5_numberOf : wsX5_numberOf.all goodWord = true := by decide +kernel
set_option maxRecDepth 20000 in
theorem ggX5_readRun_X5_numberOf : GoodIn wsX5_readRun wsX5_numberOf := goodIn_r _ [74] rfl gw_wsX5_numberOf
set_option maxRecDepth 20000 in
theorem gX5_readRun_X5_numberOf : GoodIn wsX5_readRun (va_wsS RX5 60 yX5_numberOf wsX5_numberOf) := goodIn_app (goodIn_of _ (by decide +kernel)) ggX5_readRun_X5_numberOf
def dtX5_readRun_0_0 : List (Nat × Instr × Nat) := [(0, .iconst 0, 1), (1, .istore 4, 2), (3, .iload_n 2, 1), (4, .istore 5, 2), (6, .iload 5, 2), (8, .iload_n 3, 1), (9, .if_icmp .ge 29, 3), (12, .iload 4, 2), (14, .aload_n 1, 1), (15, .iload 5, 2), (17, .baload, 1), (18, .invokestatic 49, 3), (21, .ifCond .eq 7, 3), (24, .iconst 1, 1), (25, .goto 4, 3), (28, .iconst 0, 1), (29, .iadd, 1), (30, .istore 4, 2), (32, .iinc 5 1, 3), (35, .goto (-29), 3), (38, .iload_n 3, 1), (39, .iload_n 2, 1), (40, .isub, 1), (41, .istore 5, 2), (43, .iload 4, 2), (45, .ifCond .ne 31, 3), (48, .iload 5, 2), (50, .bipush 8, 2), (52, .if_icmp .gt 24, 3), (55, .aload_n 0, 1), (56, .iconst 3, 1), (57, .iload_n 2, 1)]
theorem dtX5_readRun_0_0_ok : dcAll cX5_readRun dtX5_readRun_0_0 = true := by decide +kernel
theorem dX5_readRun_0 : decode cX5_readRun 0 = .ok (.iconst 0, 1) := dc_of dtX5_readRun_0_0_ok (i := 0) rfl
theorem dX5_readRun_1 : decode cX5_readRun 1 = .ok (.istore 4, 2) := dc_of dtX5_readRun_0_0_ok (i := 1) rfl
theorem dX5_readRun_3 : decode cX5_readRun 3 = .ok (.iload_n 2, 1) := dc_of dtX5_readRun_0_0_ok (i := 2) rfl
theorem dX5_readRun_4 : decode cX5_readRun 4 = .ok (.istore 5, 2) := dc_of dtX5_readRun_0_0_ok (i := 3) rfl
theorem dX5_readRun_6 : decode cX5_readRun 6 = .ok (.iload 5, 2) := dc_of dtX5_readRun_0_0_ok (i := 4) rfl
theorem dX5_readRun_8 : decode cX5_readRun 8 = .ok (.iload_n 3, 1) := dc_of dtX5_readRun_0_0_ok (i := 5) rfl
theorem dX5_readRun_9 : decode cX5_readRun 9 = .ok (.if_icmp .ge 29, 3) := dc_of dtX5_readRun_0_0_ok (i := 6) rfl
theorem dX5_readRun_12 : decode cX5_readRun 12 = .ok (.iload 4, 2) := dc_of dtX5_readRun_0_0_ok (i := 7) rfl
theorem dX5_readRun_14 : decode cX5_readRun 14 = .ok (.aload_n 1, 1) := dc_of dtX5_readRun_0_0_ok (i := 8) rfl
theorem dX5_readRun_15 : decode cX5_readRun 15 = .ok (.iload 5, 2) := dc_of dtX5_readRun_0_0_ok (i := 9) rfl
theorem dX5_readRun_17 : decode cX5_readRun 17 = .ok (.baload, 1) := dc_of dtX5_readRun_0_0_ok (i := 10) rfl
theorem dX5_readRun_18 : decode cX5_readRun 18 = .ok (.invokestatic 49, 3) := dc_of dtX5_readRun_0_0_ok (i := 11) rfl
theorem dX5_readRun_21 : decode cX5_readRun 21 = .ok (.ifCond .eq 7, 3) := dc_of dtX5_readRun_0_0_ok (i := 12) rfl
theorem dX5_readRun_24 : decode cX5_readRun 24 = .ok (.iconst 1, 1) := dc_of dtX5_readRun_0_0_ok (i := 13) rfl
theorem dX5_readRun_25 : decode cX5_readRun 25 = .ok (.goto 4, 3) := dc_of dtX5_readRun_0_0_ok (i := 14) rfl
theorem dX5_readRun_28 : decode cX5_readRun 28 = .ok (.iconst 0, 1) := dc_of dtX5_readRun_0_0_ok (i := 15) rfl
theorem dX5_readRun_29 : decode cX5_readRun 29 = .ok (.iadd, 1) := dc_of dtX5_readRun_0_0_ok (i := 16) rfl
theorem dX5_readRun_30 : decode cX5_readRun 30 = .ok (.istore 4, 2) := dc_of dtX5_readRun_0_0_ok (i := 17) rfl
theorem dX5_readRun_32 : decode cX5_readRun 32 = .ok (.iinc 5 1, 3) := dc_of dtX5_readRun_0_0_ok (i := 18) rfl
theorem dX5_readRun_35 : decode cX5_readRun 35 = .ok (.goto (-29), 3) := dc_of dtX5_readRun_0_0_ok (i := 19) rfl
theorem dX5_readRun_38 : decode cX5_readRun 38 = .ok (.iload_n 3, 1) := dc_of dtX5_readRun_0_0_ok (i := 20) rfl
theorem dX5_readRun_39 : decode cX5_readRun 39 = .ok (.iload_n 2, 1) := dc_of dtX5_readRun_0_0_ok (i := 21) rfl
theorem dX5_readRun_40 : decode cX5_readRun 40 = .ok (.isub, 1) := dc_of dtX5_readRun_0_0_ok (i := 22) rfl
theorem dX5_readRun_41 : decode cX5_readRun 41 = .ok (.istore 5, 2) := dc_of dtX5_readRun_0_0_ok (i := 23) rfl
theorem dX5_readRun_43 : decode cX5_readRun 43 = .ok (.iload 4, 2) := dc_of dtX5_readRun_0_0_ok (i := 24) rfl
theorem dX5_readRun_45 : decode cX5_readRun 45 = .ok (.ifCond .ne 31, 3) := dc_of dtX5_readRun_0_0_ok (i := 25) rfl
theorem dX5_readRun_48 : decode cX5_readRun 48 = .ok (.iload 5, 2) := dc_of dtX5_readRun_0_0_ok (i := 26) rfl
theorem dX5_readRun_50 : decode cX5_readRun 50 = .ok (.bipush 8, 2) := dc_of dtX5_readRun_0_0_ok (i := 27) rfl
theorem dX5_readRun_52 : decode cX5_readRun 52 = .ok (.if_icmp .gt 24, 3) := dc_of dtX5_readRun_0_0_ok (i := 28) rfl
theorem dX5_readRun_55 : decode cX5_readRun 55 = .ok (.aload_n 0, 1) := dc_of dtX5_readRun_0_0_ok (i := 29) rfl
theorem dX5_readRun_56 : decode cX5_readRun 56 = .ok (.iconst 3, 1) := dc_of dtX5_readRun_0_0_ok (i := 30) rfl
theorem dX5_readRun_57 : decode cX5_readRun 57 = .ok (.iload_n 2, 1) := dc_of dtX5_readRun_0_0_ok (i := 31) rfl
def dtX5_readRun_58_1 : List (Nat × Instr × Nat) := [(58, .aload_n 1, 1), (59, .iload_n 2, 1), (60, .iload_n 3, 1), (61, .invokestatic 52, 3), (64, .aload_n 1, 1), (65, .iload_n 2, 1), (66, .iload_n 3, 1), (67, .invokestatic 56, 3), (70, .invokevirtual 45, 3), (73, .goto 92, 3), (76, .iload 4, 2), (78, .iload 5, 2), (80, .if_icmp .ne 25, 3), (83, .iload 5, 2), (85, .iconst 4, 1), (86, .if_icmp .gt 19, 3), (89, .aload_n 0, 1), (90, .iconst 4, 1), (91, .iload_n 2, 1), (92, .aload_n 1, 1), (93, .iload_n 2, 1), (94, .iload_n 3, 1), (95, .invokestatic 60, 3), (98, .lconst 0, 1), (99, .invokevirtual 45, 3), (102, .goto 63, 3), (105, .iload 5, 2), (107, .iconst 2, 1), (108, .if_icmp .ne 49, 3), (111, .aload_n 1, 1), (112, .iload_n 2, 1), (113, .baload, 1)]
theorem dtX5_readRun_58_1_ok : dcAll cX5_readRun dtX5_readRun_58_1 = true := by decide +kernel
theorem dX5_readRun_58 : decode cX5_readRun 58 = .ok (.aload_n 1, 1) := dc_of dtX5_readRun_58_1_ok (i := 0) rfl
theorem dX5_readRun_59 : decode cX5_readRun 59 = .ok (.iload_n 2, 1) := dc_of dtX5_readRun_58_1_ok (i := 1) rfl
theorem dX5_readRun_60 : decode cX5_readRun 60 = .ok (.iload_n 3, 1) := dc_of dtX5_readRun_58_1_ok (i := 2) rfl
theorem dX5_readRun_61 : decode cX5_readRun 61 = .ok (.invokestatic 52, 3) := dc_of dtX5_readRun_58_1_ok (i := 3) rfl
theorem dX5_readRun_64 : decode cX5_readRun 64 = .ok (.aload_n 1, 1) := dc_of dtX5_readRun_58_1_ok (i := 4) rfl
theorem dX5_readRun_65 : decode cX5_readRun 65 = .ok (.iload_n 2, 1) := dc_of dtX5_readRun_58_1_ok (i := 5) rfl
theorem dX5_readRun_66 : decode cX5_readRun 66 = .ok (.iload_n 3, 1) := dc_of dtX5_readRun_58_1_ok (i := 6) rfl
theorem dX5_readRun_67 : decode cX5_readRun 67 = .ok (.invokestatic 56, 3) := dc_of dtX5_readRun_58_1_ok (i := 7) rfl
theorem dX5_readRun_70 : decode cX5_readRun 70 = .ok (.invokevirtual 45, 3) := dc_of dtX5_readRun_58_1_ok (i := 8) rfl
theorem dX5_readRun_73 : decode cX5_readRun 73 = .ok (.goto 92, 3) := dc_of dtX5_readRun_58_1_ok (i := 9) rfl
theorem dX5_readRun_76 : decode cX5_readRun 76 = .ok (.iload 4, 2) := dc_of dtX5_readRun_58_1_ok (i := 10) rfl
theorem dX5_readRun_78 : decode cX5_readRun 78 = .ok (.iload 5, 2) := dc_of dtX5_readRun_58_1_ok (i := 11) rfl
theorem dX5_readRun_80 : decode cX5_readRun 80 = .ok (.if_icmp .ne 25, 3) := dc_of dtX5_readRun_58_1_ok (i := 12) rfl
theorem dX5_readRun_83 : decode cX5_readRun 83 = .ok (.iload 5, 2) := dc_of dtX5_readRun_58_1_ok (i := 13) rfl
theorem dX5_readRun_85 : decode cX5_readRun 85 = .ok (.iconst 4, 1) := dc_of dtX5_readRun_58_1_ok (i := 14) rfl
theorem dX5_readRun_86 : decode cX5_readRun 86 = .ok (.if_icmp .gt 19, 3) := dc_of dtX5_readRun_58_1_ok (i := 15) rfl
theorem dX5_readRun_89 : decode cX5_readRun 89 = .ok (.aload_n 0, 1) := dc_of dtX5_readRun_58_1_ok (i := 16) rfl
theorem dX5_readRun_90 : decode cX5_readRun 90 = .ok (.iconst 4, 1) := dc_of dtX5_readRun_58_1_ok (i := 17) rfl
theorem dX5_readRun_91 : decode cX5_readRun 91 = .ok (.iload_n 2, 1) := dc_of dtX5_readRun_58_1_ok (i := 18) rfl
theorem dX5_readRun_92 : decode cX5_readRun 92 = .ok (.aload_n 1, 1) := dc_of dtX5_readRun_58_1_ok (i := 19) rfl
theorem dX5_readRun_93 : decode cX5_readRun 93 = .ok (.iload_n 2, 1) := dc_of dtX5_readRun_58_1_ok (i := 20) rfl
theorem dX5_readRun_94 : decode cX5_readRun 94 = .ok (.iload_n 3, 1) := dc_of dtX5_readRun_58_1_ok (i := 21) rfl
theorem dX5_readRun_95 : decode cX5_readRun 95 = .ok (.invokestatic 60, 3) := dc_of dtX5_readRun_58_1_ok (i := 22) rfl
theorem dX5_readRun_98 : decode cX5_readRun 98 = .ok (.lconst 0, 1) := dc_of dtX5_readRun_58_1_ok (i := 23) rfl
theorem dX5_readRun_99 : decode cX5_readRun 99 = .ok (.invokevirtual 45, 3) := dc_of dtX5_readRun_58_1_ok (i := 24) rfl
theorem dX5_readRun_102 : decode cX5_readRun 102 = .ok (.goto 63, 3) := dc_of dtX5_readRun_58_1_ok (i := 25) rfl
theorem dX5_readRun_105 : decode cX5_readRun 105 = .ok (.iload 5, 2) := dc_of dtX5_readRun_58_1_ok (i := 26) rfl
theorem dX5_readRun_107 : decode cX5_readRun 107 = .ok (.iconst 2, 1) := dc_of dtX5_readRun_58_1_ok (i := 27) rfl
theorem dX5_readRun_108 : decode cX5_readRun 108 = .ok (.if_icmp .ne 49, 3) := dc_of dtX5_readRun_58_1_ok (i := 28) rfl
theorem dX5_readRun_111 : decode cX5_readRun 111 = .ok (.aload_n 1, 1) := dc_of dtX5_readRun_58_1_ok (i := 29) rfl
theorem dX5_readRun_112 : decode cX5_readRun 112 = .ok (.iload_n 2, 1) := dc_of dtX5_readRun_58_1_ok (i := 30) rfl
theorem dX5_readRun_113 : decode cX5_readRun 113 = .ok (.baload, 1) := dc_of dtX5_readRun_58_1_ok (i := 31) rfl
def dtX5_readRun_114_2 : List (Nat × Instr × Nat) := [(114, .bipush 99, 2), (116, .if_icmp .ne 41, 3), (119, .aload_n 1, 1), (120, .iload_n 2, 1), (121, .iconst 1, 1), (122, .iadd, 1), (123, .baload, 1), (124, .bipush 48, 2), (126, .if_icmp .lt 31, 3), (129, .aload_n 1, 1), (130, .iload_n 2, 1), (131, .iconst 1, 1), (132, .iadd, 1), (133, .baload, 1), (134, .bipush 51, 2), (136, .if_icmp .gt 21, 3), (139, .aload_n 0, 1), (140, .iconst 2, 1), (141, .iload_n 2, 1), (142, .aload_n 1, 1), (143, .iload_n 2, 1), (144, .iconst 1, 1), (145, .iadd, 1), (146, .baload, 1), (147, .bipush 48, 2), (149, .isub, 1), (150, .lconst 0, 1), (151, .invokevirtual 45, 3), (154, .goto 11, 3), (157, .aload_n 0, 1), (158, .iconst 1, 1), (159, .iload_n 2, 1)]
theorem dtX5_readRun_114_2_ok : dcAll cX5_readRun dtX5_readRun_114_2 = true := by decide +kernel
theorem dX5_readRun_114 : decode cX5_readRun 114 = .ok (.bipush 99, 2) := dc_of dtX5_readRun_114_2_ok (i := 0) rfl
theorem dX5_readRun_116 : decode cX5_readRun 116 = .ok (.if_icmp .ne 41, 3) := dc_of dtX5_readRun_114_2_ok (i := 1) rfl
theorem dX5_readRun_119 : decode cX5_readRun 119 = .ok (.aload_n 1, 1) := dc_of dtX5_readRun_114_2_ok (i := 2) rfl
theorem dX5_readRun_120 : decode cX5_readRun 120 = .ok (.iload_n 2, 1) := dc_of dtX5_readRun_114_2_ok (i := 3) rfl
theorem dX5_readRun_121 : decode cX5_readRun 121 = .ok (.iconst 1, 1) := dc_of dtX5_readRun_114_2_ok (i := 4) rfl
theorem dX5_readRun_122 : decode cX5_readRun 122 = .ok (.iadd, 1) := dc_of dtX5_readRun_114_2_ok (i := 5) rfl
theorem dX5_readRun_123 : decode cX5_readRun 123 = .ok (.baload, 1) := dc_of dtX5_readRun_114_2_ok (i := 6) rfl
theorem dX5_readRun_124 : decode cX5_readRun 124 = .ok (.bipush 48, 2) := dc_of dtX5_readRun_114_2_ok (i := 7) rfl
theorem dX5_readRun_126 : decode cX5_readRun 126 = .ok (.if_icmp .lt 31, 3) := dc_of dtX5_readRun_114_2_ok (i := 8) rfl
theorem dX5_readRun_129 : decode cX5_readRun 129 = .ok (.aload_n 1, 1) := dc_of dtX5_readRun_114_2_ok (i := 9) rfl
theorem dX5_readRun_130 : decode cX5_readRun 130 = .ok (.iload_n 2, 1) := dc_of dtX5_readRun_114_2_ok (i := 10) rfl
theorem dX5_readRun_131 : decode cX5_readRun 131 = .ok (.iconst 1, 1) := dc_of dtX5_readRun_114_2_ok (i := 11) rfl
theorem dX5_readRun_132 : decode cX5_readRun 132 = .ok (.iadd, 1) := dc_of dtX5_readRun_114_2_ok (i := 12) rfl
theorem dX5_readRun_133 : decode cX5_readRun 133 = .ok (.baload, 1) := dc_of dtX5_readRun_114_2_ok (i := 13) rfl
theorem dX5_readRun_134 : decode cX5_readRun 134 = .ok (.bipush 51, 2) := dc_of dtX5_readRun_114_2_ok (i := 14) rfl
theorem dX5_readRun_136 : decode cX5_readRun 136 = .ok (.if_icmp .gt 21, 3) := dc_of dtX5_readRun_114_2_ok (i := 15) rfl
theorem dX5_readRun_139 : decode cX5_readRun 139 = .ok (.aload_n 0, 1) := dc_of dtX5_readRun_114_2_ok (i := 16) rfl
theorem dX5_readRun_140 : decode cX5_readRun 140 = .ok (.iconst 2, 1) := dc_of dtX5_readRun_114_2_ok (i := 17) rfl
theorem dX5_readRun_141 : decode cX5_readRun 141 = .ok (.iload_n 2, 1) := dc_of dtX5_readRun_114_2_ok (i := 18) rfl
theorem dX5_readRun_142 : decode cX5_readRun 142 = .ok (.aload_n 1, 1) := dc_of dtX5_readRun_114_2_ok (i := 19) rfl
theorem dX5_readRun_143 : decode cX5_readRun 143 = .ok (.iload_n 2, 1) := dc_of dtX5_readRun_114_2_ok (i := 20) rfl
theorem dX5_readRun_144 : decode cX5_readRun 144 = .ok (.iconst 1, 1) := dc_of dtX5_readRun_114_2_ok (i := 21) rfl
theorem dX5_readRun_145 : decode cX5_readRun 145 = .ok (.iadd, 1) := dc_of dtX5_readRun_114_2_ok (i := 22) rfl
theorem dX5_readRun_146 : decode cX5_readRun 146 = .ok (.baload, 1) := dc_of dtX5_readRun_114_2_ok (i := 23) rfl
theorem dX5_readRun_147 : decode cX5_readRun 147 = .ok (.bipush 48, 2) := dc_of dtX5_readRun_114_2_ok (i := 24) rfl
theorem dX5_readRun_149 : decode cX5_readRun 149 = .ok (.isub, 1) := dc_of dtX5_readRun_114_2_ok (i := 25) rfl
theorem dX5_readRun_150 : decode cX5_readRun 150 = .ok (.lconst 0, 1) := dc_of dtX5_readRun_114_2_ok (i := 26) rfl
theorem dX5_readRun_151 : decode cX5_readRun 151 = .ok (.invokevirtual 45, 3) := dc_of dtX5_readRun_114_2_ok (i := 27) rfl
theorem dX5_readRun_154 : decode cX5_readRun 154 = .ok (.goto 11, 3) := dc_of dtX5_readRun_114_2_ok (i := 28) rfl
theorem dX5_readRun_157 : decode cX5_readRun 157 = .ok (.aload_n 0, 1) := dc_of dtX5_readRun_114_2_ok (i := 29) rfl
theorem dX5_readRun_158 : decode cX5_readRun 158 = .ok (.iconst 1, 1) := dc_of dtX5_readRun_114_2_ok (i := 30) rfl
theorem dX5_readRun_159 : decode cX5_readRun 159 = .ok (.iload_n 2, 1) := dc_of dtX5_readRun_114_2_ok (i := 31) rfl
def dtX5_readRun_160_3 : List (Nat × Instr × Nat) := [(160, .iconst 0, 1), (161, .lconst 0, 1), (162, .invokevirtual 45, 3), (165, .return_, 1)]
theorem dtX5_readRun_160_3_ok : dcAll cX5_readRun dtX5_readRun_160_3 = true := by decide +kernel
theorem dX5_readRun_160 : decode cX5_readRun 160 = .ok (.iconst 0, 1) := dc_of dtX5_readRun_160_3_ok (i := 0) rfl
theorem dX5_readRun_161 : decode cX5_readRun 161 = .ok (.lconst 0, 1) := dc_of dtX5_readRun_160_3_ok (i := 1) rfl
theorem dX5_readRun_162 : decode cX5_readRun 162 = .ok (.invokevirtual 45, 3) := dc_of dtX5_readRun_160_3_ok (i := 2) rfl
theorem dX5_readRun_165 : decode cX5_readRun 165 = .ok (.return_, 1) := dc_of dtX5_readRun_160_3_ok (i := 3) rfl
def dtX5_nameOf_0_0 : List (Nat × Instr × Nat) := [(0, .lconst 0, 1), (1, .lstore_n 3, 1), (2, .iload_n 1, 1), (3, .istore 5, 2), (5, .iload 5, 2), (7, .iload_n 2, 1), (8, .if_icmp .ge 24, 3), (11, .lload_n 3, 1), (12, .iconst 5, 1), (13, .lshl, 1), (14, .aload_n 0, 1), (15, .iload 5, 2), (17, .baload, 1), (18, .bipush 97, 2), (20, .isub, 1), (21, .iconst 1, 1), (22, .iadd, 1), (23, .i2l, 1), (24, .lor, 1), (25, .lstore_n 3, 1), (26, .iinc 5 1, 3), (29, .goto (-24), 3), (32, .lload_n 3, 1), (33, .lreturn, 1)]
theorem dtX5_nameOf_0_0_ok : dcAll cX5_nameOf dtX5_nameOf_0_0 = true := by decide +kernel
theorem dX5_nameOf_0 : decode cX5_nameOf 0 = .ok (.lconst 0, 1) := dc_of dtX5_nameOf_0_0_ok (i := 0) rfl
theorem dX5_nameOf_1 : decode cX5_nameOf 1 = .ok (.lstore_n 3, 1) := dc_of dtX5_nameOf_0_0_ok (i := 1) rfl
theorem dX5_nameOf_2 : decode cX5_nameOf 2 = .ok (.iload_n 1, 1) := dc_of dtX5_nameOf_0_0_ok (i := 2) rfl
theorem dX5_nameOf_3 : decode cX5_nameOf 3 = .ok (.istore 5, 2) := dc_of dtX5_nameOf_0_0_ok (i := 3) rfl
theorem dX5_nameOf_5 : decode cX5_nameOf 5 = .ok (.iload 5, 2) := dc_of dtX5_nameOf_0_0_ok (i := 4) rfl
theorem dX5_nameOf_7 : decode cX5_nameOf 7 = .ok (.iload_n 2, 1) := dc_of dtX5_nameOf_0_0_ok (i := 5) rfl
theorem dX5_nameOf_8 : decode cX5_nameOf 8 = .ok (.if_icmp .ge 24, 3) := dc_of dtX5_nameOf_0_0_ok (i := 6) rfl
theorem dX5_nameOf_11 : decode cX5_nameOf 11 = .ok (.lload_n 3, 1) := dc_of dtX5_nameOf_0_0_ok (i := 7) rfl
theorem dX5_nameOf_12 : decode cX5_nameOf 12 = .ok (.iconst 5, 1) := dc_of dtX5_nameOf_0_0_ok (i := 8) rfl
theorem dX5_nameOf_13 : decode cX5_nameOf 13 = .ok (.lshl, 1) := dc_of dtX5_nameOf_0_0_ok (i := 9) rfl
theorem dX5_nameOf_14 : decode cX5_nameOf 14 = .ok (.aload_n 0, 1) := dc_of dtX5_nameOf_0_0_ok (i := 10) rfl
theorem dX5_nameOf_15 : decode cX5_nameOf 15 = .ok (.iload 5, 2) := dc_of dtX5_nameOf_0_0_ok (i := 11) rfl
theorem dX5_nameOf_17 : decode cX5_nameOf 17 = .ok (.baload, 1) := dc_of dtX5_nameOf_0_0_ok (i := 12) rfl
theorem dX5_nameOf_18 : decode cX5_nameOf 18 = .ok (.bipush 97, 2) := dc_of dtX5_nameOf_0_0_ok (i := 13) rfl
theorem dX5_nameOf_20 : decode cX5_nameOf 20 = .ok (.isub, 1) := dc_of dtX5_nameOf_0_0_ok (i := 14) rfl
theorem dX5_nameOf_21 : decode cX5_nameOf 21 = .ok (.iconst 1, 1) := dc_of dtX5_nameOf_0_0_ok (i := 15) rfl
theorem dX5_nameOf_22 : decode cX5_nameOf 22 = .ok (.iadd, 1) := dc_of dtX5_nameOf_0_0_ok (i := 16) rfl
theorem dX5_nameOf_23 : decode cX5_nameOf 23 = .ok (.i2l, 1) := dc_of dtX5_nameOf_0_0_ok (i := 17) rfl
theorem dX5_nameOf_24 : decode cX5_nameOf 24 = .ok (.lor, 1) := dc_of dtX5_nameOf_0_0_ok (i := 18) rfl
theorem dX5_nameOf_25 : decode cX5_nameOf 25 = .ok (.lstore_n 3, 1) := dc_of dtX5_nameOf_0_0_ok (i := 19) rfl
theorem dX5_nameOf_26 : decode cX5_nameOf 26 = .ok (.iinc 5 1, 3) := dc_of dtX5_nameOf_0_0_ok (i := 20) rfl
theorem dX5_nameOf_29 : decode cX5_nameOf 29 = .ok (.goto (-24), 3) := dc_of dtX5_nameOf_0_0_ok (i := 21) rfl
theorem dX5_nameOf_32 : decode cX5_nameOf 32 = .ok (.lload_n 3, 1) := dc_of dtX5_nameOf_0_0_ok (i := 22) rfl
theorem dX5_nameOf_33 : decode cX5_nameOf 33 = .ok (.lreturn, 1) := dc_of dtX5_nameOf_0_0_ok (i := 23) rfl
def dtX5_numberOf_0_0 : List (Nat × Instr × Nat) := [(0, .iconst 0, 1), (1, .istore_n 3, 1), (2, .iload_n 1, 1), (3, .istore 4, 2), (5, .iload 4, 2), (7, .iload_n 2, 1), (8, .if_icmp .ge 22, 3), (11, .bipush 10, 2), (13, .iload_n 3, 1), (14, .imul, 1), (15, .aload_n 0, 1), (16, .iload 4, 2), (18, .baload, 1), (19, .iadd, 1), (20, .bipush 48, 2), (22, .isub, 1), (23, .istore_n 3, 1), (24, .iinc 4 1, 3), (27, .goto (-22), 3), (30, .iload_n 3, 1), (31, .ireturn, 1)]
theorem dtX5_numberOf_0_0_ok : dcAll cX5_numberOf dtX5_numberOf_0_0 = true := by decide +kernel
theorem dX5_numberOf_0 : decode cX5_numberOf 0 = .ok (.iconst 0, 1) := dc_of dtX5_numberOf_0_0_ok (i := 0) rfl
theorem dX5_numberOf_1 : decode cX5_numberOf 1 = .ok (.istore_n 3, 1) := dc_of dtX5_numberOf_0_0_ok (i := 1) rfl
theorem dX5_numberOf_2 : decode cX5_numberOf 2 = .ok (.iload_n 1, 1) := dc_of dtX5_numberOf_0_0_ok (i := 2) rfl
theorem dX5_numberOf_3 : decode cX5_numberOf 3 = .ok (.istore 4, 2) := dc_of dtX5_numberOf_0_0_ok (i := 3) rfl
theorem dX5_numberOf_5 : decode cX5_numberOf 5 = .ok (.iload 4, 2) := dc_of dtX5_numberOf_0_0_ok (i := 4) rfl
theorem dX5_numberOf_7 : decode cX5_numberOf 7 = .ok (.iload_n 2, 1) := dc_of dtX5_numberOf_0_0_ok (i := 5) rfl
theorem dX5_numberOf_8 : decode cX5_numberOf 8 = .ok (.if_icmp .ge 22, 3) := dc_of dtX5_numberOf_0_0_ok (i := 6) rfl
theorem dX5_numberOf_11 : decode cX5_numberOf 11 = .ok (.bipush 10, 2) := dc_of dtX5_numberOf_0_0_ok (i := 7) rfl
theorem dX5_numberOf_13 : decode cX5_numberOf 13 = .ok (.iload_n 3, 1) := dc_of dtX5_numberOf_0_0_ok (i := 8) rfl
theorem dX5_numberOf_14 : decode cX5_numberOf 14 = .ok (.imul, 1) := dc_of dtX5_numberOf_0_0_ok (i := 9) rfl
theorem dX5_numberOf_15 : decode cX5_numberOf 15 = .ok (.aload_n 0, 1) := dc_of dtX5_numberOf_0_0_ok (i := 10) rfl
theorem dX5_numberOf_16 : decode cX5_numberOf 16 = .ok (.iload 4, 2) := dc_of dtX5_numberOf_0_0_ok (i := 11) rfl
theorem dX5_numberOf_18 : decode cX5_numberOf 18 = .ok (.baload, 1) := dc_of dtX5_numberOf_0_0_ok (i := 12) rfl
theorem dX5_numberOf_19 : decode cX5_numberOf 19 = .ok (.iadd, 1) := dc_of dtX5_numberOf_0_0_ok (i := 13) rfl
theorem dX5_numberOf_20 : decode cX5_numberOf 20 = .ok (.bipush 48, 2) := dc_of dtX5_numberOf_0_0_ok (i := 14) rfl
theorem dX5_numberOf_22 : decode cX5_numberOf 22 = .ok (.isub, 1) := dc_of dtX5_numberOf_0_0_ok (i := 15) rfl
theorem dX5_numberOf_23 : decode cX5_numberOf 23 = .ok (.istore_n 3, 1) := dc_of dtX5_numberOf_0_0_ok (i := 16) rfl
theorem dX5_numberOf_24 : decode cX5_numberOf 24 = .ok (.iinc 4 1, 3) := dc_of dtX5_numberOf_0_0_ok (i := 17) rfl
theorem dX5_numberOf_27 : decode cX5_numberOf 27 = .ok (.goto (-22), 3) := dc_of dtX5_numberOf_0_0_ok (i := 18) rfl
theorem dX5_numberOf_30 : decode cX5_numberOf 30 = .ok (.iload_n 3, 1) := dc_of dtX5_numberOf_0_0_ok (i := 19) rfl
theorem dX5_numberOf_31 : decode cX5_numberOf 31 = .ok (.ireturn, 1) := dc_of dtX5_numberOf_0_0_ok (i := 20) rfl
set_option maxRecDepth 20000 in
theorem gw_wsJ0_length_8abf5 : wsJ0_length_8abf5.all goodWord = true := by decide +kernel
set_option maxRecDepth 20000 in
theorem ggX5_wordNumber_J0_length_8abf5 : GoodIn wsX5_wordNumber wsJ0_length_8abf5 := goodIn_r _ [5, 6, 7, 8, 9, 4, 10, 11, 12] rfl gw_wsJ0_length_8abf5
set_option maxRecDepth 20000 in
theorem gX5_wordNumber_J0_length_8abf5 : GoodIn wsX5_wordNumber (wsV RX5 65 RJ0 yJ0_length_8abf5 wsJ0_length_8abf5) := goodIn_app (goodIn_of _ (by decide +kernel)) ggX5_wordNumber_J0_length_8abf5
set_option maxRecDepth 20000 in
theorem gw_wsJ0_charAt_5068e : wsJ0_charAt_5068e.all goodWord = true := by decide +kernel
set_option maxRecDepth 20000 in
theorem ggX5_wordNumber_J0_charAt_5068e : GoodIn wsX5_wordNumber wsJ0_charAt_5068e := goodIn_r _ [16, 6, 17, 18, 19, 4, 20, 11, 12, 21, 22, 23, 24, 25, 26, 27, 28, 29, 30, 31, 32, 33, 34, 35, 36, 37, 38, 39, 40, 41, 42, 43, 44, 45, 46, 47, 48, 49] rfl gw_wsJ0_charAt_5068e
set_option maxRecDepth 20000 in
theorem gX5_wordNumber_J0_charAt_5068e : GoodIn wsX5_wordNumber (wsV RX5 68 RJ0 yJ0_charAt_5068e wsJ0_charAt_5068e) := goodIn_app (goodIn_of _ (by decide +kernel)) ggX5_wordNumber_J0_charAt_5068e
set_option maxRecDepth 20000 in
theorem gw_wsX5_wordsAgree : wsX5_wordsAgree.all goodWord = true := by decide +kernel
set_option maxRecDepth 20000 in
theorem ggX5_wordNumber_X5_wordsAgree : GoodIn wsX5_wordNumber wsX5_wordsAgree := goodIn_r _ [53, 13, 14, 15, 4, 16, 6, 17, 18, 19, 20, 11, 12, 21, 22, 23, 24, 25, 26, 27, 28, 29, 30, 31, 32, 33, 34, 35, 36, 37, 38, 39, 40, 41, 42, 43, 44, 45, 46, 47, 48, 49] rfl gw_wsX5_wordsAgree
set_option maxRecDepth 20000 in
theorem gX5_wordNumber_X5_wordsAgree : GoodIn wsX5_wordNumber (va_wsS RX5 72 yX5_wordsAgree wsX5_wordsAgree) := goodIn_app (goodIn_of _ (by decide +kernel)) ggX5_wordNumber_X5_wordsAgree
def dtX5_wordNumber_0_0 : List (Nat × Instr × Nat) := [(0, .iconst 0, 1), (1, .istore_n 3, 1), (2, .iconst 0, 1), (3, .istore 4, 2), (5, .iconst 0, 1), (6, .istore 5, 2), (8, .iload 5, 2), (10, .ldc 63, 2), (12, .invokevirtual 65, 3), (15, .if_icmp .ge 55, 3), (18, .ldc 63, 2), (20, .iload 5, 2), (22, .invokevirtual 68, 3), (25, .bipush 32, 2), (27, .if_icmp .ne 37, 3), (30, .iload 5, 2), (32, .iload 4, 2), (34, .isub, 1), (35, .iload_n 2, 1), (36, .iload_n 1, 1), (37, .isub, 1), (38, .if_icmp .ne 17, 3), (41, .iload 4, 2), (43, .iload 5, 2), (45, .aload_n 0, 1), (46, .iload_n 1, 1), (47, .invokestatic 72, 3), (50, .ifCond .eq 5, 3), (53, .iload_n 3, 1), (54, .ireturn, 1), (55, .iinc 3 1, 3), (58, .iload 5, 2)]
theorem dtX5_wordNumber_0_0_ok : dcAll cX5_wordNumber dtX5_wordNumber_0_0 = true := by decide +kernel
theorem dX5_wordNumber_0 : decode cX5_wordNumber 0 = .ok (.iconst 0, 1) := dc_of dtX5_wordNumber_0_0_ok (i := 0) rfl
theorem dX5_wordNumber_1 : decode cX5_wordNumber 1 = .ok (.istore_n 3, 1) := dc_of dtX5_wordNumber_0_0_ok (i := 1) rfl
theorem dX5_wordNumber_2 : decode cX5_wordNumber 2 = .ok (.iconst 0, 1) := dc_of dtX5_wordNumber_0_0_ok (i := 2) rfl
theorem dX5_wordNumber_3 : decode cX5_wordNumber 3 = .ok (.istore 4, 2) := dc_of dtX5_wordNumber_0_0_ok (i := 3) rfl
theorem dX5_wordNumber_5 : decode cX5_wordNumber 5 = .ok (.iconst 0, 1) := dc_of dtX5_wordNumber_0_0_ok (i := 4) rfl
theorem dX5_wordNumber_6 : decode cX5_wordNumber 6 = .ok (.istore 5, 2) := dc_of dtX5_wordNumber_0_0_ok (i := 5) rfl
theorem dX5_wordNumber_8 : decode cX5_wordNumber 8 = .ok (.iload 5, 2) := dc_of dtX5_wordNumber_0_0_ok (i := 6) rfl
theorem dX5_wordNumber_10 : decode cX5_wordNumber 10 = .ok (.ldc 63, 2) := dc_of dtX5_wordNumber_0_0_ok (i := 7) rfl
theorem dX5_wordNumber_12 : decode cX5_wordNumber 12 = .ok (.invokevirtual 65, 3) := dc_of dtX5_wordNumber_0_0_ok (i := 8) rfl
theorem dX5_wordNumber_15 : decode cX5_wordNumber 15 = .ok (.if_icmp .ge 55, 3) := dc_of dtX5_wordNumber_0_0_ok (i := 9) rfl
theorem dX5_wordNumber_18 : decode cX5_wordNumber 18 = .ok (.ldc 63, 2) := dc_of dtX5_wordNumber_0_0_ok (i := 10) rfl
theorem dX5_wordNumber_20 : decode cX5_wordNumber 20 = .ok (.iload 5, 2) := dc_of dtX5_wordNumber_0_0_ok (i := 11) rfl
theorem dX5_wordNumber_22 : decode cX5_wordNumber 22 = .ok (.invokevirtual 68, 3) := dc_of dtX5_wordNumber_0_0_ok (i := 12) rfl
theorem dX5_wordNumber_25 : decode cX5_wordNumber 25 = .ok (.bipush 32, 2) := dc_of dtX5_wordNumber_0_0_ok (i := 13) rfl
theorem dX5_wordNumber_27 : decode cX5_wordNumber 27 = .ok (.if_icmp .ne 37, 3) := dc_of dtX5_wordNumber_0_0_ok (i := 14) rfl
theorem dX5_wordNumber_30 : decode cX5_wordNumber 30 = .ok (.iload 5, 2) := dc_of dtX5_wordNumber_0_0_ok (i := 15) rfl
theorem dX5_wordNumber_32 : decode cX5_wordNumber 32 = .ok (.iload 4, 2) := dc_of dtX5_wordNumber_0_0_ok (i := 16) rfl
theorem dX5_wordNumber_34 : decode cX5_wordNumber 34 = .ok (.isub, 1) := dc_of dtX5_wordNumber_0_0_ok (i := 17) rfl
theorem dX5_wordNumber_35 : decode cX5_wordNumber 35 = .ok (.iload_n 2, 1) := dc_of dtX5_wordNumber_0_0_ok (i := 18) rfl
theorem dX5_wordNumber_36 : decode cX5_wordNumber 36 = .ok (.iload_n 1, 1) := dc_of dtX5_wordNumber_0_0_ok (i := 19) rfl
theorem dX5_wordNumber_37 : decode cX5_wordNumber 37 = .ok (.isub, 1) := dc_of dtX5_wordNumber_0_0_ok (i := 20) rfl
theorem dX5_wordNumber_38 : decode cX5_wordNumber 38 = .ok (.if_icmp .ne 17, 3) := dc_of dtX5_wordNumber_0_0_ok (i := 21) rfl
theorem dX5_wordNumber_41 : decode cX5_wordNumber 41 = .ok (.iload 4, 2) := dc_of dtX5_wordNumber_0_0_ok (i := 22) rfl
theorem dX5_wordNumber_43 : decode cX5_wordNumber 43 = .ok (.iload 5, 2) := dc_of dtX5_wordNumber_0_0_ok (i := 23) rfl
theorem dX5_wordNumber_45 : decode cX5_wordNumber 45 = .ok (.aload_n 0, 1) := dc_of dtX5_wordNumber_0_0_ok (i := 24) rfl
theorem dX5_wordNumber_46 : decode cX5_wordNumber 46 = .ok (.iload_n 1, 1) := dc_of dtX5_wordNumber_0_0_ok (i := 25) rfl
theorem dX5_wordNumber_47 : decode cX5_wordNumber 47 = .ok (.invokestatic 72, 3) := dc_of dtX5_wordNumber_0_0_ok (i := 26) rfl
theorem dX5_wordNumber_50 : decode cX5_wordNumber 50 = .ok (.ifCond .eq 5, 3) := dc_of dtX5_wordNumber_0_0_ok (i := 27) rfl
theorem dX5_wordNumber_53 : decode cX5_wordNumber 53 = .ok (.iload_n 3, 1) := dc_of dtX5_wordNumber_0_0_ok (i := 28) rfl
theorem dX5_wordNumber_54 : decode cX5_wordNumber 54 = .ok (.ireturn, 1) := dc_of dtX5_wordNumber_0_0_ok (i := 29) rfl
theorem dX5_wordNumber_55 : decode cX5_wordNumber 55 = .ok (.iinc 3 1, 3) := dc_of dtX5_wordNumber_0_0_ok (i := 30) rfl
theorem dX5_wordNumber_58 : decode cX5_wordNumber 58 = .ok (.iload 5, 2) := dc_of dtX5_wordNumber_0_0_ok (i := 31) rfl
def dtX5_wordNumber_60_1 : List (Nat × Instr × Nat) := [(60, .iconst 1, 1), (61, .iadd, 1), (62, .istore 4, 2), (64, .iinc 5 1, 3), (67, .goto (-59), 3), (70, .iconst (-1), 1), (71, .ireturn, 1)]
theorem dtX5_wordNumber_60_1_ok : dcAll cX5_wordNumber dtX5_wordNumber_60_1 = true := by decide +kernel
theorem dX5_wordNumber_60 : decode cX5_wordNumber 60 = .ok (.iconst 1, 1) := dc_of dtX5_wordNumber_60_1_ok (i := 0) rfl
theorem dX5_wordNumber_61 : decode cX5_wordNumber 61 = .ok (.iadd, 1) := dc_of dtX5_wordNumber_60_1_ok (i := 1) rfl
theorem dX5_wordNumber_62 : decode cX5_wordNumber 62 = .ok (.istore 4, 2) := dc_of dtX5_wordNumber_60_1_ok (i := 2) rfl
theorem dX5_wordNumber_64 : decode cX5_wordNumber 64 = .ok (.iinc 5 1, 3) := dc_of dtX5_wordNumber_60_1_ok (i := 3) rfl
theorem dX5_wordNumber_67 : decode cX5_wordNumber 67 = .ok (.goto (-59), 3) := dc_of dtX5_wordNumber_60_1_ok (i := 4) rfl
theorem dX5_wordNumber_70 : decode cX5_wordNumber 70 = .ok (.iconst (-1), 1) := dc_of dtX5_wordNumber_60_1_ok (i := 5) rfl
theorem dX5_wordNumber_71 : decode cX5_wordNumber 71 = .ok (.ireturn, 1) := dc_of dtX5_wordNumber_60_1_ok (i := 6) rfl
set_option maxRecDepth 20000 in
theorem ggX5_wordsAgree_J0_charAt_5068e : GoodIn wsX5_wordsAgree wsJ0_charAt_5068e := goodIn_r _ [5, 6, 7, 8, 9, 4, 10, 11, 12, 13, 14, 15, 16, 17, 18, 19, 20, 21, 22, 23, 24, 25, 26, 27, 28, 29, 30, 31, 32, 33, 34, 35, 36, 37, 38, 39, 40, 41] rfl gw_wsJ0_charAt_5068e
set_option maxRecDepth 20000 in
theorem gX5_wordsAgree_J0_charAt_5068e : GoodIn wsX5_wordsAgree (wsV RX5 68 RJ0 yJ0_charAt_5068e wsJ0_charAt_5068e) := goodIn_app (goodIn_of _ (by decide +kernel)) ggX5_wordsAgree_J0_charAt_5068e
def dtX5_wordsAgree_0_0 : List (Nat × Instr × Nat) := [(0, .iconst 0, 1), (1, .istore 4, 2), (3, .iload 4, 2), (5, .iload_n 1, 1), (6, .iload_n 0, 1), (7, .isub, 1), (8, .if_icmp .ge 29, 3), (11, .ldc 63, 2), (13, .iload_n 0, 1), (14, .iload 4, 2), (16, .iadd, 1), (17, .invokevirtual 68, 3), (20, .aload_n 2, 1), (21, .iload_n 3, 1), (22, .iload 4, 2), (24, .iadd, 1), (25, .baload, 1), (26, .if_icmp .eq 5, 3), (29, .iconst 0, 1), (30, .ireturn, 1), (31, .iinc 4 1, 3), (34, .goto (-31), 3), (37, .iconst 1, 1), (38, .ireturn, 1)]
theorem dtX5_wordsAgree_0_0_ok : dcAll cX5_wordsAgree dtX5_wordsAgree_0_0 = true := by decide +kernel
theorem dX5_wordsAgree_0 : decode cX5_wordsAgree 0 = .ok (.iconst 0, 1) := dc_of dtX5_wordsAgree_0_0_ok (i := 0) rfl
theorem dX5_wordsAgree_1 : decode cX5_wordsAgree 1 = .ok (.istore 4, 2) := dc_of dtX5_wordsAgree_0_0_ok (i := 1) rfl
theorem dX5_wordsAgree_3 : decode cX5_wordsAgree 3 = .ok (.iload 4, 2) := dc_of dtX5_wordsAgree_0_0_ok (i := 2) rfl
theorem dX5_wordsAgree_5 : decode cX5_wordsAgree 5 = .ok (.iload_n 1, 1) := dc_of dtX5_wordsAgree_0_0_ok (i := 3) rfl
theorem dX5_wordsAgree_6 : decode cX5_wordsAgree 6 = .ok (.iload_n 0, 1) := dc_of dtX5_wordsAgree_0_0_ok (i := 4) rfl
theorem dX5_wordsAgree_7 : decode cX5_wordsAgree 7 = .ok (.isub, 1) := dc_of dtX5_wordsAgree_0_0_ok (i := 5) rfl
theorem dX5_wordsAgree_8 : decode cX5_wordsAgree 8 = .ok (.if_icmp .ge 29, 3) := dc_of dtX5_wordsAgree_0_0_ok (i := 6) rfl
theorem dX5_wordsAgree_11 : decode cX5_wordsAgree 11 = .ok (.ldc 63, 2) := dc_of dtX5_wordsAgree_0_0_ok (i := 7) rfl
theorem dX5_wordsAgree_13 : decode cX5_wordsAgree 13 = .ok (.iload_n 0, 1) := dc_of dtX5_wordsAgree_0_0_ok (i := 8) rfl
theorem dX5_wordsAgree_14 : decode cX5_wordsAgree 14 = .ok (.iload 4, 2) := dc_of dtX5_wordsAgree_0_0_ok (i := 9) rfl
theorem dX5_wordsAgree_16 : decode cX5_wordsAgree 16 = .ok (.iadd, 1) := dc_of dtX5_wordsAgree_0_0_ok (i := 10) rfl
theorem dX5_wordsAgree_17 : decode cX5_wordsAgree 17 = .ok (.invokevirtual 68, 3) := dc_of dtX5_wordsAgree_0_0_ok (i := 11) rfl
theorem dX5_wordsAgree_20 : decode cX5_wordsAgree 20 = .ok (.aload_n 2, 1) := dc_of dtX5_wordsAgree_0_0_ok (i := 12) rfl
theorem dX5_wordsAgree_21 : decode cX5_wordsAgree 21 = .ok (.iload_n 3, 1) := dc_of dtX5_wordsAgree_0_0_ok (i := 13) rfl
theorem dX5_wordsAgree_22 : decode cX5_wordsAgree 22 = .ok (.iload 4, 2) := dc_of dtX5_wordsAgree_0_0_ok (i := 14) rfl
theorem dX5_wordsAgree_24 : decode cX5_wordsAgree 24 = .ok (.iadd, 1) := dc_of dtX5_wordsAgree_0_0_ok (i := 15) rfl
theorem dX5_wordsAgree_25 : decode cX5_wordsAgree 25 = .ok (.baload, 1) := dc_of dtX5_wordsAgree_0_0_ok (i := 16) rfl
theorem dX5_wordsAgree_26 : decode cX5_wordsAgree 26 = .ok (.if_icmp .eq 5, 3) := dc_of dtX5_wordsAgree_0_0_ok (i := 17) rfl
theorem dX5_wordsAgree_29 : decode cX5_wordsAgree 29 = .ok (.iconst 0, 1) := dc_of dtX5_wordsAgree_0_0_ok (i := 18) rfl
theorem dX5_wordsAgree_30 : decode cX5_wordsAgree 30 = .ok (.ireturn, 1) := dc_of dtX5_wordsAgree_0_0_ok (i := 19) rfl
theorem dX5_wordsAgree_31 : decode cX5_wordsAgree 31 = .ok (.iinc 4 1, 3) := dc_of dtX5_wordsAgree_0_0_ok (i := 20) rfl
theorem dX5_wordsAgree_34 : decode cX5_wordsAgree 34 = .ok (.goto (-31), 3) := dc_of dtX5_wordsAgree_0_0_ok (i := 21) rfl
theorem dX5_wordsAgree_37 : decode cX5_wordsAgree 37 = .ok (.iconst 1, 1) := dc_of dtX5_wordsAgree_0_0_ok (i := 22) rfl
theorem dX5_wordsAgree_38 : decode cX5_wordsAgree 38 = .ok (.ireturn, 1) := dc_of dtX5_wordsAgree_0_0_ok (i := 23) rfl
set_option maxRecDepth 20000 in
theorem gw_wsX1_init : wsX1_init.all goodWord = true := by decide +kernel
set_option maxRecDepth 20000 in
theorem ggX6_init_X1_init : GoodIn wsX6_init wsX1_init := goodIn_r _ [32, 33, 2, 3, 34, 35, 36, 37, 38, 11, 12, 39, 40, 41, 42, 43, 44, 28, 45, 46, 47, 48, 49, 50, 51, 52, 53, 54, 55, 56, 57, 58, 59, 60, 61, 115, 116, 117, 118, 119, 101, 102, 103, 104, 105, 106, 107, 120, 121, 122, 123, 124, 125, 126, 127, 128, 129, 130, 131, 132, 133, 134] rfl gw_wsX1_init
set_option maxRecDepth 20000 in
theorem gX6_init_X1_init_n15 : GoodIn wsX6_init (wsX1_init) := ggX6_init_X1_init
set_option maxRecDepth 20000 in
theorem ggX6_init_X2_init : GoodIn wsX6_init wsX2_init := goodIn_r _ [52, 53, 2, 3, 54, 55, 56, 57, 58, 59, 60, 28, 61, 105, 106, 107, 120, 121, 122, 123, 124, 125, 126, 127, 128, 129, 130, 131, 132, 133, 134] rfl gw_wsX2_init
set_option maxRecDepth 20000 in
theorem gX6_init_X2_init : GoodIn wsX6_init (wsX2_init) := ggX6_init_X2_init
set_option maxRecDepth 20000 in
theorem gw_wsX3_init : wsX3_init.all goodWord = true := by decide +kernel
set_option maxRecDepth 20000 in
theorem ggX6_init_X3_init : GoodIn wsX6_init wsX3_init := goodIn_r _ [64, 65, 2, 3, 28, 66, 67, 68, 108, 109, 110] rfl gw_wsX3_init
set_option maxRecDepth 20000 in
theorem gX6_init_X3_init_n29 : GoodIn wsX6_init (wsX3_init) := ggX6_init_X3_init
set_option maxRecDepth 20000 in
theorem gw_wsX6_newBags : wsX6_newBags.all goodWord = true := by decide +kernel
set_option maxRecDepth 20000 in
theorem ggX6_init_X6_newBags : GoodIn wsX6_init wsX6_newBags := goodIn_r _ [72, 21, 22, 23, 73, 74, 75, 76, 2, 3, 77, 78, 28, 79, 111, 112, 113, 114] rfl gw_wsX6_newBags
set_option maxRecDepth 20000 in
theorem gX6_init_X6_newBags : GoodIn wsX6_init (va_wsS RX6 34 yX6_newBags wsX6_newBags) := goodIn_app (goodIn_of _ (by decide +kernel)) ggX6_init_X6_newBags
set_option maxRecDepth 20000 in
theorem gw_wsX4_init : wsX4_init.all goodWord = true := by decide +kernel
set_option maxRecDepth 20000 in
theorem ggX6_init_X4_init : GoodIn wsX6_init wsX4_init := goodIn_r _ [75, 76, 2, 3, 77, 78, 28, 79, 111, 112, 113, 114] rfl gw_wsX4_init
set_option maxRecDepth 20000 in
theorem gX6_init_X4_init : GoodIn wsX6_init (wsX4_init) := ggX6_init_X4_init
set_option maxRecDepth 20000 in
theorem gw_wsX6_newHistory : wsX6_newHistory.all goodWord = true := by decide +kernel
set_option maxRecDepth 20000 in
theorem ggX6_init_X6_newHistory : GoodIn wsX6_init wsX6_newHistory := goodIn_r _ [82, 21, 22, 23, 73, 74, 75, 76, 2, 3, 77, 78, 28, 79, 111, 112, 113, 114] rfl gw_wsX6_newHistory
set_option maxRecDepth 20000 in
theorem gX6_init_X6_newHistory : GoodIn wsX6_init (va_wsS RX6 70 yX6_newHistory wsX6_newHistory) := goodIn_app (goodIn_of _ (by decide +kernel)) ggX6_init_X6_newHistory
def dtX6_init_0_0 : List (Nat × Instr × Nat) := [(0, .aload_n 0, 1), (1, .invokespecial 1, 3), (4, .aload_n 0, 1), (5, .sipush 936, 3), (8, .newarray .byte, 2), (10, .putfield 9, 3), (13, .aload_n 0, 1), (14, .new 13, 3), (17, .dup, 1), (18, .invokespecial 15, 3), (21, .putfield 16, 3), (24, .aload_n 0, 1), (25, .new 20, 3), (28, .dup, 1), (29, .invokespecial 22, 3), (32, .putfield 23, 3), (35, .aload_n 0, 1), (36, .new 27, 3), (39, .dup, 1), (40, .invokespecial 29, 3), (43, .putfield 30, 3), (46, .aload_n 0, 1), (47, .bipush 120, 2), (49, .invokestatic 34, 3), (52, .putfield 38, 3), (55, .aload_n 0, 1), (56, .bipush 120, 2), (58, .invokestatic 34, 3), (61, .putfield 42, 3), (64, .aload_n 0, 1), (65, .sipush 240, 3), (68, .invokestatic 34, 3)]
theorem dtX6_init_0_0_ok : dcAll cX6_init dtX6_init_0_0 = true := by decide +kernel
theorem dX6_init_0 : decode cX6_init 0 = .ok (.aload_n 0, 1) := dc_of dtX6_init_0_0_ok (i := 0) rfl
theorem dX6_init_1 : decode cX6_init 1 = .ok (.invokespecial 1, 3) := dc_of dtX6_init_0_0_ok (i := 1) rfl
theorem dX6_init_4 : decode cX6_init 4 = .ok (.aload_n 0, 1) := dc_of dtX6_init_0_0_ok (i := 2) rfl
theorem dX6_init_5 : decode cX6_init 5 = .ok (.sipush 936, 3) := dc_of dtX6_init_0_0_ok (i := 3) rfl
theorem dX6_init_8 : decode cX6_init 8 = .ok (.newarray .byte, 2) := dc_of dtX6_init_0_0_ok (i := 4) rfl
theorem dX6_init_10 : decode cX6_init 10 = .ok (.putfield 9, 3) := dc_of dtX6_init_0_0_ok (i := 5) rfl
theorem dX6_init_13 : decode cX6_init 13 = .ok (.aload_n 0, 1) := dc_of dtX6_init_0_0_ok (i := 6) rfl
theorem dX6_init_14 : decode cX6_init 14 = .ok (.new 13, 3) := dc_of dtX6_init_0_0_ok (i := 7) rfl
theorem dX6_init_17 : decode cX6_init 17 = .ok (.dup, 1) := dc_of dtX6_init_0_0_ok (i := 8) rfl
theorem dX6_init_18 : decode cX6_init 18 = .ok (.invokespecial 15, 3) := dc_of dtX6_init_0_0_ok (i := 9) rfl
theorem dX6_init_21 : decode cX6_init 21 = .ok (.putfield 16, 3) := dc_of dtX6_init_0_0_ok (i := 10) rfl
theorem dX6_init_24 : decode cX6_init 24 = .ok (.aload_n 0, 1) := dc_of dtX6_init_0_0_ok (i := 11) rfl
theorem dX6_init_25 : decode cX6_init 25 = .ok (.new 20, 3) := dc_of dtX6_init_0_0_ok (i := 12) rfl
theorem dX6_init_28 : decode cX6_init 28 = .ok (.dup, 1) := dc_of dtX6_init_0_0_ok (i := 13) rfl
theorem dX6_init_29 : decode cX6_init 29 = .ok (.invokespecial 22, 3) := dc_of dtX6_init_0_0_ok (i := 14) rfl
theorem dX6_init_32 : decode cX6_init 32 = .ok (.putfield 23, 3) := dc_of dtX6_init_0_0_ok (i := 15) rfl
theorem dX6_init_35 : decode cX6_init 35 = .ok (.aload_n 0, 1) := dc_of dtX6_init_0_0_ok (i := 16) rfl
theorem dX6_init_36 : decode cX6_init 36 = .ok (.new 27, 3) := dc_of dtX6_init_0_0_ok (i := 17) rfl
theorem dX6_init_39 : decode cX6_init 39 = .ok (.dup, 1) := dc_of dtX6_init_0_0_ok (i := 18) rfl
theorem dX6_init_40 : decode cX6_init 40 = .ok (.invokespecial 29, 3) := dc_of dtX6_init_0_0_ok (i := 19) rfl
theorem dX6_init_43 : decode cX6_init 43 = .ok (.putfield 30, 3) := dc_of dtX6_init_0_0_ok (i := 20) rfl
theorem dX6_init_46 : decode cX6_init 46 = .ok (.aload_n 0, 1) := dc_of dtX6_init_0_0_ok (i := 21) rfl
theorem dX6_init_47 : decode cX6_init 47 = .ok (.bipush 120, 2) := dc_of dtX6_init_0_0_ok (i := 22) rfl
theorem dX6_init_49 : decode cX6_init 49 = .ok (.invokestatic 34, 3) := dc_of dtX6_init_0_0_ok (i := 23) rfl
theorem dX6_init_52 : decode cX6_init 52 = .ok (.putfield 38, 3) := dc_of dtX6_init_0_0_ok (i := 24) rfl
theorem dX6_init_55 : decode cX6_init 55 = .ok (.aload_n 0, 1) := dc_of dtX6_init_0_0_ok (i := 25) rfl
theorem dX6_init_56 : decode cX6_init 56 = .ok (.bipush 120, 2) := dc_of dtX6_init_0_0_ok (i := 26) rfl
theorem dX6_init_58 : decode cX6_init 58 = .ok (.invokestatic 34, 3) := dc_of dtX6_init_0_0_ok (i := 27) rfl
theorem dX6_init_61 : decode cX6_init 61 = .ok (.putfield 42, 3) := dc_of dtX6_init_0_0_ok (i := 28) rfl
theorem dX6_init_64 : decode cX6_init 64 = .ok (.aload_n 0, 1) := dc_of dtX6_init_0_0_ok (i := 29) rfl
theorem dX6_init_65 : decode cX6_init 65 = .ok (.sipush 240, 3) := dc_of dtX6_init_0_0_ok (i := 30) rfl
theorem dX6_init_68 : decode cX6_init 68 = .ok (.invokestatic 34, 3) := dc_of dtX6_init_0_0_ok (i := 31) rfl
def dtX6_init_71_1 : List (Nat × Instr × Nat) := [(71, .putfield 45, 3), (74, .aload_n 0, 1), (75, .new 48, 3), (78, .dup, 1), (79, .iconst 5, 1), (80, .bipush 40, 2), (82, .invokespecial 50, 3), (85, .putfield 53, 3), (88, .aload_n 0, 1), (89, .new 48, 3), (92, .dup, 1), (93, .iconst 5, 1), (94, .bipush 40, 2), (96, .invokespecial 50, 3), (99, .putfield 57, 3), (102, .aload_n 0, 1), (103, .new 48, 3), (106, .dup, 1), (107, .iconst 4, 1), (108, .bipush 40, 2), (110, .invokespecial 50, 3), (113, .putfield 60, 3), (116, .aload_n 0, 1), (117, .new 48, 3), (120, .dup, 1), (121, .iconst 4, 1), (122, .sipush 240, 3), (125, .invokespecial 50, 3), (128, .putfield 63, 3), (131, .aload_n 0, 1), (132, .iconst 5, 1), (133, .newarray .int, 2)]
theorem dtX6_init_71_1_ok : dcAll cX6_init dtX6_init_71_1 = true := by decide +kernel
theorem dX6_init_71 : decode cX6_init 71 = .ok (.putfield 45, 3) := dc_of dtX6_init_71_1_ok (i := 0) rfl
theorem dX6_init_74 : decode cX6_init 74 = .ok (.aload_n 0, 1) := dc_of dtX6_init_71_1_ok (i := 1) rfl
theorem dX6_init_75 : decode cX6_init 75 = .ok (.new 48, 3) := dc_of dtX6_init_71_1_ok (i := 2) rfl
theorem dX6_init_78 : decode cX6_init 78 = .ok (.dup, 1) := dc_of dtX6_init_71_1_ok (i := 3) rfl
theorem dX6_init_79 : decode cX6_init 79 = .ok (.iconst 5, 1) := dc_of dtX6_init_71_1_ok (i := 4) rfl
theorem dX6_init_80 : decode cX6_init 80 = .ok (.bipush 40, 2) := dc_of dtX6_init_71_1_ok (i := 5) rfl
theorem dX6_init_82 : decode cX6_init 82 = .ok (.invokespecial 50, 3) := dc_of dtX6_init_71_1_ok (i := 6) rfl
theorem dX6_init_85 : decode cX6_init 85 = .ok (.putfield 53, 3) := dc_of dtX6_init_71_1_ok (i := 7) rfl
theorem dX6_init_88 : decode cX6_init 88 = .ok (.aload_n 0, 1) := dc_of dtX6_init_71_1_ok (i := 8) rfl
theorem dX6_init_89 : decode cX6_init 89 = .ok (.new 48, 3) := dc_of dtX6_init_71_1_ok (i := 9) rfl
theorem dX6_init_92 : decode cX6_init 92 = .ok (.dup, 1) := dc_of dtX6_init_71_1_ok (i := 10) rfl
theorem dX6_init_93 : decode cX6_init 93 = .ok (.iconst 5, 1) := dc_of dtX6_init_71_1_ok (i := 11) rfl
theorem dX6_init_94 : decode cX6_init 94 = .ok (.bipush 40, 2) := dc_of dtX6_init_71_1_ok (i := 12) rfl
theorem dX6_init_96 : decode cX6_init 96 = .ok (.invokespecial 50, 3) := dc_of dtX6_init_71_1_ok (i := 13) rfl
theorem dX6_init_99 : decode cX6_init 99 = .ok (.putfield 57, 3) := dc_of dtX6_init_71_1_ok (i := 14) rfl
theorem dX6_init_102 : decode cX6_init 102 = .ok (.aload_n 0, 1) := dc_of dtX6_init_71_1_ok (i := 15) rfl
theorem dX6_init_103 : decode cX6_init 103 = .ok (.new 48, 3) := dc_of dtX6_init_71_1_ok (i := 16) rfl
theorem dX6_init_106 : decode cX6_init 106 = .ok (.dup, 1) := dc_of dtX6_init_71_1_ok (i := 17) rfl
theorem dX6_init_107 : decode cX6_init 107 = .ok (.iconst 4, 1) := dc_of dtX6_init_71_1_ok (i := 18) rfl
theorem dX6_init_108 : decode cX6_init 108 = .ok (.bipush 40, 2) := dc_of dtX6_init_71_1_ok (i := 19) rfl
theorem dX6_init_110 : decode cX6_init 110 = .ok (.invokespecial 50, 3) := dc_of dtX6_init_71_1_ok (i := 20) rfl
theorem dX6_init_113 : decode cX6_init 113 = .ok (.putfield 60, 3) := dc_of dtX6_init_71_1_ok (i := 21) rfl
theorem dX6_init_116 : decode cX6_init 116 = .ok (.aload_n 0, 1) := dc_of dtX6_init_71_1_ok (i := 22) rfl
theorem dX6_init_117 : decode cX6_init 117 = .ok (.new 48, 3) := dc_of dtX6_init_71_1_ok (i := 23) rfl
theorem dX6_init_120 : decode cX6_init 120 = .ok (.dup, 1) := dc_of dtX6_init_71_1_ok (i := 24) rfl
theorem dX6_init_121 : decode cX6_init 121 = .ok (.iconst 4, 1) := dc_of dtX6_init_71_1_ok (i := 25) rfl
theorem dX6_init_122 : decode cX6_init 122 = .ok (.sipush 240, 3) := dc_of dtX6_init_71_1_ok (i := 26) rfl
theorem dX6_init_125 : decode cX6_init 125 = .ok (.invokespecial 50, 3) := dc_of dtX6_init_71_1_ok (i := 27) rfl
theorem dX6_init_128 : decode cX6_init 128 = .ok (.putfield 63, 3) := dc_of dtX6_init_71_1_ok (i := 28) rfl
theorem dX6_init_131 : decode cX6_init 131 = .ok (.aload_n 0, 1) := dc_of dtX6_init_71_1_ok (i := 29) rfl
theorem dX6_init_132 : decode cX6_init 132 = .ok (.iconst 5, 1) := dc_of dtX6_init_71_1_ok (i := 30) rfl
theorem dX6_init_133 : decode cX6_init 133 = .ok (.newarray .int, 2) := dc_of dtX6_init_71_1_ok (i := 31) rfl
def dtX6_init_135_2 : List (Nat × Instr × Nat) := [(135, .putfield 66, 3), (138, .aload_n 0, 1), (139, .invokestatic 70, 3), (142, .putfield 74, 3), (145, .return_, 1)]
theorem dtX6_init_135_2_ok : dcAll cX6_init dtX6_init_135_2 = true := by decide +kernel
theorem dX6_init_135 : decode cX6_init 135 = .ok (.putfield 66, 3) := dc_of dtX6_init_135_2_ok (i := 0) rfl
theorem dX6_init_138 : decode cX6_init 138 = .ok (.aload_n 0, 1) := dc_of dtX6_init_135_2_ok (i := 1) rfl
theorem dX6_init_139 : decode cX6_init 139 = .ok (.invokestatic 70, 3) := dc_of dtX6_init_135_2_ok (i := 2) rfl
theorem dX6_init_142 : decode cX6_init 142 = .ok (.putfield 74, 3) := dc_of dtX6_init_135_2_ok (i := 3) rfl
theorem dX6_init_145 : decode cX6_init 145 = .ok (.return_, 1) := dc_of dtX6_init_135_2_ok (i := 4) rfl
set_option maxRecDepth 20000 in
theorem ggX6_newBags_X4_init : GoodIn wsX6_newBags wsX4_init := goodIn_r _ [6, 7, 8, 9, 10, 11, 12, 13, 14, 15, 16, 17] rfl gw_wsX4_init
set_option maxRecDepth 20000 in
theorem gX6_newBags_X4_init : GoodIn wsX6_newBags (wsX4_init) := ggX6_newBags_X4_init
def dtX6_newBags_0_0 : List (Nat × Instr × Nat) := [(0, .bipush 16, 2), (2, .anewarray 48, 3), (5, .astore_n 1, 1), (6, .iconst 0, 1), (7, .istore_n 2, 1), (8, .iload_n 2, 1), (9, .bipush 16, 2), (11, .if_icmp .ge 21, 3), (14, .aload_n 1, 1), (15, .iload_n 2, 1), (16, .new 48, 3), (19, .dup, 1), (20, .iconst 4, 1), (21, .iload_n 0, 1), (22, .invokespecial 50, 3), (25, .aastore, 1), (26, .iinc 2 1, 3), (29, .goto (-21), 3), (32, .aload_n 1, 1), (33, .areturn, 1)]
theorem dtX6_newBags_0_0_ok : dcAll cX6_newBags dtX6_newBags_0_0 = true := by decide +kernel
theorem dX6_newBags_0 : decode cX6_newBags 0 = .ok (.bipush 16, 2) := dc_of dtX6_newBags_0_0_ok (i := 0) rfl
theorem dX6_newBags_2 : decode cX6_newBags 2 = .ok (.anewarray 48, 3) := dc_of dtX6_newBags_0_0_ok (i := 1) rfl
theorem dX6_newBags_5 : decode cX6_newBags 5 = .ok (.astore_n 1, 1) := dc_of dtX6_newBags_0_0_ok (i := 2) rfl
theorem dX6_newBags_6 : decode cX6_newBags 6 = .ok (.iconst 0, 1) := dc_of dtX6_newBags_0_0_ok (i := 3) rfl
theorem dX6_newBags_7 : decode cX6_newBags 7 = .ok (.istore_n 2, 1) := dc_of dtX6_newBags_0_0_ok (i := 4) rfl
theorem dX6_newBags_8 : decode cX6_newBags 8 = .ok (.iload_n 2, 1) := dc_of dtX6_newBags_0_0_ok (i := 5) rfl
theorem dX6_newBags_9 : decode cX6_newBags 9 = .ok (.bipush 16, 2) := dc_of dtX6_newBags_0_0_ok (i := 6) rfl
theorem dX6_newBags_11 : decode cX6_newBags 11 = .ok (.if_icmp .ge 21, 3) := dc_of dtX6_newBags_0_0_ok (i := 7) rfl
theorem dX6_newBags_14 : decode cX6_newBags 14 = .ok (.aload_n 1, 1) := dc_of dtX6_newBags_0_0_ok (i := 8) rfl
theorem dX6_newBags_15 : decode cX6_newBags 15 = .ok (.iload_n 2, 1) := dc_of dtX6_newBags_0_0_ok (i := 9) rfl
theorem dX6_newBags_16 : decode cX6_newBags 16 = .ok (.new 48, 3) := dc_of dtX6_newBags_0_0_ok (i := 10) rfl
theorem dX6_newBags_19 : decode cX6_newBags 19 = .ok (.dup, 1) := dc_of dtX6_newBags_0_0_ok (i := 11) rfl
theorem dX6_newBags_20 : decode cX6_newBags 20 = .ok (.iconst 4, 1) := dc_of dtX6_newBags_0_0_ok (i := 12) rfl
theorem dX6_newBags_21 : decode cX6_newBags 21 = .ok (.iload_n 0, 1) := dc_of dtX6_newBags_0_0_ok (i := 13) rfl
theorem dX6_newBags_22 : decode cX6_newBags 22 = .ok (.invokespecial 50, 3) := dc_of dtX6_newBags_0_0_ok (i := 14) rfl
theorem dX6_newBags_25 : decode cX6_newBags 25 = .ok (.aastore, 1) := dc_of dtX6_newBags_0_0_ok (i := 15) rfl
theorem dX6_newBags_26 : decode cX6_newBags 26 = .ok (.iinc 2 1, 3) := dc_of dtX6_newBags_0_0_ok (i := 16) rfl
theorem dX6_newBags_29 : decode cX6_newBags 29 = .ok (.goto (-21), 3) := dc_of dtX6_newBags_0_0_ok (i := 17) rfl
theorem dX6_newBags_32 : decode cX6_newBags 32 = .ok (.aload_n 1, 1) := dc_of dtX6_newBags_0_0_ok (i := 18) rfl
theorem dX6_newBags_33 : decode cX6_newBags 33 = .ok (.areturn, 1) := dc_of dtX6_newBags_0_0_ok (i := 19) rfl
set_option maxRecDepth 20000 in
theorem ggX6_newHistory_X4_init : GoodIn wsX6_newHistory wsX4_init := goodIn_r _ [6, 7, 8, 9, 10, 11, 12, 13, 14, 15, 16, 17] rfl gw_wsX4_init
set_option maxRecDepth 20000 in
theorem gX6_newHistory_X4_init : GoodIn wsX6_newHistory (wsX4_init) := ggX6_newHistory_X4_init
def dtX6_newHistory_0_0 : List (Nat × Instr × Nat) := [(0, .bipush 8, 2), (2, .anewarray 48, 3), (5, .astore_n 0, 1), (6, .iconst 0, 1), (7, .istore_n 1, 1), (8, .iload_n 1, 1), (9, .bipush 8, 2), (11, .if_icmp .ge 22, 3), (14, .aload_n 0, 1), (15, .iload_n 1, 1), (16, .new 48, 3), (19, .dup, 1), (20, .iconst 5, 1), (21, .bipush 40, 2), (23, .invokespecial 50, 3), (26, .aastore, 1), (27, .iinc 1 1, 3), (30, .goto (-22), 3), (33, .aload_n 0, 1), (34, .areturn, 1)]
theorem dtX6_newHistory_0_0_ok : dcAll cX6_newHistory dtX6_newHistory_0_0 = true := by decide +kernel
theorem dX6_newHistory_0 : decode cX6_newHistory 0 = .ok (.bipush 8, 2) := dc_of dtX6_newHistory_0_0_ok (i := 0) rfl
theorem dX6_newHistory_2 : decode cX6_newHistory 2 = .ok (.anewarray 48, 3) := dc_of dtX6_newHistory_0_0_ok (i := 1) rfl
theorem dX6_newHistory_5 : decode cX6_newHistory 5 = .ok (.astore_n 0, 1) := dc_of dtX6_newHistory_0_0_ok (i := 2) rfl
theorem dX6_newHistory_6 : decode cX6_newHistory 6 = .ok (.iconst 0, 1) := dc_of dtX6_newHistory_0_0_ok (i := 3) rfl
theorem dX6_newHistory_7 : decode cX6_newHistory 7 = .ok (.istore_n 1, 1) := dc_of dtX6_newHistory_0_0_ok (i := 4) rfl
theorem dX6_newHistory_8 : decode cX6_newHistory 8 = .ok (.iload_n 1, 1) := dc_of dtX6_newHistory_0_0_ok (i := 5) rfl
theorem dX6_newHistory_9 : decode cX6_newHistory 9 = .ok (.bipush 8, 2) := dc_of dtX6_newHistory_0_0_ok (i := 6) rfl
theorem dX6_newHistory_11 : decode cX6_newHistory 11 = .ok (.if_icmp .ge 22, 3) := dc_of dtX6_newHistory_0_0_ok (i := 7) rfl
theorem dX6_newHistory_14 : decode cX6_newHistory 14 = .ok (.aload_n 0, 1) := dc_of dtX6_newHistory_0_0_ok (i := 8) rfl
theorem dX6_newHistory_15 : decode cX6_newHistory 15 = .ok (.iload_n 1, 1) := dc_of dtX6_newHistory_0_0_ok (i := 9) rfl
theorem dX6_newHistory_16 : decode cX6_newHistory 16 = .ok (.new 48, 3) := dc_of dtX6_newHistory_0_0_ok (i := 10) rfl
theorem dX6_newHistory_19 : decode cX6_newHistory 19 = .ok (.dup, 1) := dc_of dtX6_newHistory_0_0_ok (i := 11) rfl
theorem dX6_newHistory_20 : decode cX6_newHistory 20 = .ok (.iconst 5, 1) := dc_of dtX6_newHistory_0_0_ok (i := 12) rfl
theorem dX6_newHistory_21 : decode cX6_newHistory 21 = .ok (.bipush 40, 2) := dc_of dtX6_newHistory_0_0_ok (i := 13) rfl
theorem dX6_newHistory_23 : decode cX6_newHistory 23 = .ok (.invokespecial 50, 3) := dc_of dtX6_newHistory_0_0_ok (i := 14) rfl
theorem dX6_newHistory_26 : decode cX6_newHistory 26 = .ok (.aastore, 1) := dc_of dtX6_newHistory_0_0_ok (i := 15) rfl
theorem dX6_newHistory_27 : decode cX6_newHistory 27 = .ok (.iinc 1 1, 3) := dc_of dtX6_newHistory_0_0_ok (i := 16) rfl
theorem dX6_newHistory_30 : decode cX6_newHistory 30 = .ok (.goto (-22), 3) := dc_of dtX6_newHistory_0_0_ok (i := 17) rfl
theorem dX6_newHistory_33 : decode cX6_newHistory 33 = .ok (.aload_n 0, 1) := dc_of dtX6_newHistory_0_0_ok (i := 18) rfl
theorem dX6_newHistory_34 : decode cX6_newHistory 34 = .ok (.areturn, 1) := dc_of dtX6_newHistory_0_0_ok (i := 19) rfl
set_option maxRecDepth 20000 in
theorem gw_wsX6_putBytes : wsX6_putBytes.all goodWord = true := by decide +kernel
set_option maxRecDepth 20000 in
theorem ggX6_feed_X6_putBytes : GoodIn wsX6_feed wsX6_putBytes := goodIn_r _ [6, 7, 1, 8, 9, 10, 11, 12, 13, 14, 15, 16, 17, 18, 19, 20, 21, 22, 23, 24, 25] rfl gw_wsX6_putBytes
set_option maxRecDepth 20000 in
theorem gX6_feed_X6_putBytes : GoodIn wsX6_feed (wsV RX6 81 RX6 yX6_putBytes wsX6_putBytes) := goodIn_app (goodIn_of _ (by decide +kernel)) ggX6_feed_X6_putBytes
def dtX6_feed_0_0 : List (Nat × Instr × Nat) := [(0, .aload_n 0, 1), (1, .getfield 77, 3), (4, .bipush 24, 2), (6, .iadd, 1), (7, .sipush 936, 3), (10, .if_icmp .le 5, 3), (13, .iconst (-1), 1), (14, .ireturn, 1), (15, .aload_n 0, 1), (16, .lload_n 1, 1), (17, .invokevirtual 81, 3), (20, .aload_n 0, 1), (21, .lload_n 3, 1), (22, .invokevirtual 81, 3), (25, .aload_n 0, 1), (26, .lload 5, 2), (28, .invokevirtual 81, 3), (31, .aload_n 0, 1), (32, .getfield 77, 3), (35, .ireturn, 1)]
theorem dtX6_feed_0_0_ok : dcAll cX6_feed dtX6_feed_0_0 = true := by decide +kernel
theorem dX6_feed_0 : decode cX6_feed 0 = .ok (.aload_n 0, 1) := dc_of dtX6_feed_0_0_ok (i := 0) rfl
theorem dX6_feed_1 : decode cX6_feed 1 = .ok (.getfield 77, 3) := dc_of dtX6_feed_0_0_ok (i := 1) rfl
theorem dX6_feed_4 : decode cX6_feed 4 = .ok (.bipush 24, 2) := dc_of dtX6_feed_0_0_ok (i := 2) rfl
theorem dX6_feed_6 : decode cX6_feed 6 = .ok (.iadd, 1) := dc_of dtX6_feed_0_0_ok (i := 3) rfl
theorem dX6_feed_7 : decode cX6_feed 7 = .ok (.sipush 936, 3) := dc_of dtX6_feed_0_0_ok (i := 4) rfl
theorem dX6_feed_10 : decode cX6_feed 10 = .ok (.if_icmp .le 5, 3) := dc_of dtX6_feed_0_0_ok (i := 5) rfl
theorem dX6_feed_13 : decode cX6_feed 13 = .ok (.iconst (-1), 1) := dc_of dtX6_feed_0_0_ok (i := 6) rfl
theorem dX6_feed_14 : decode cX6_feed 14 = .ok (.ireturn, 1) := dc_of dtX6_feed_0_0_ok (i := 7) rfl
theorem dX6_feed_15 : decode cX6_feed 15 = .ok (.aload_n 0, 1) := dc_of dtX6_feed_0_0_ok (i := 8) rfl
theorem dX6_feed_16 : decode cX6_feed 16 = .ok (.lload_n 1, 1) := dc_of dtX6_feed_0_0_ok (i := 9) rfl
theorem dX6_feed_17 : decode cX6_feed 17 = .ok (.invokevirtual 81, 3) := dc_of dtX6_feed_0_0_ok (i := 10) rfl
theorem dX6_feed_20 : decode cX6_feed 20 = .ok (.aload_n 0, 1) := dc_of dtX6_feed_0_0_ok (i := 11) rfl
theorem dX6_feed_21 : decode cX6_feed 21 = .ok (.lload_n 3, 1) := dc_of dtX6_feed_0_0_ok (i := 12) rfl
theorem dX6_feed_22 : decode cX6_feed 22 = .ok (.invokevirtual 81, 3) := dc_of dtX6_feed_0_0_ok (i := 13) rfl
theorem dX6_feed_25 : decode cX6_feed 25 = .ok (.aload_n 0, 1) := dc_of dtX6_feed_0_0_ok (i := 14) rfl
theorem dX6_feed_26 : decode cX6_feed 26 = .ok (.lload 5, 2) := dc_of dtX6_feed_0_0_ok (i := 15) rfl
theorem dX6_feed_28 : decode cX6_feed 28 = .ok (.invokevirtual 81, 3) := dc_of dtX6_feed_0_0_ok (i := 16) rfl
theorem dX6_feed_31 : decode cX6_feed 31 = .ok (.aload_n 0, 1) := dc_of dtX6_feed_0_0_ok (i := 17) rfl
theorem dX6_feed_32 : decode cX6_feed 32 = .ok (.getfield 77, 3) := dc_of dtX6_feed_0_0_ok (i := 18) rfl
theorem dX6_feed_35 : decode cX6_feed 35 = .ok (.ireturn, 1) := dc_of dtX6_feed_0_0_ok (i := 19) rfl
def dtX6_putBytes_0_0 : List (Nat × Instr × Nat) := [(0, .bipush 56, 2), (2, .istore_n 3, 1), (3, .iload_n 3, 1), (4, .ifCond .lt 33, 3), (7, .aload_n 0, 1), (8, .getfield 9, 3), (11, .aload_n 0, 1), (12, .getfield 77, 3), (15, .lload_n 1, 1), (16, .iload_n 3, 1), (17, .lushr, 1), (18, .l2i, 1), (19, .i2b, 1), (20, .bastore, 1), (21, .aload_n 0, 1), (22, .dup, 1), (23, .getfield 77, 3), (26, .iconst 1, 1), (27, .iadd, 1), (28, .putfield 77, 3), (31, .iinc 3 (-8), 3), (34, .goto (-31), 3), (37, .return_, 1)]
theorem dtX6_putBytes_0_0_ok : dcAll cX6_putBytes dtX6_putBytes_0_0 = true := by decide +kernel
theorem dX6_putBytes_0 : decode cX6_putBytes 0 = .ok (.bipush 56, 2) := dc_of dtX6_putBytes_0_0_ok (i := 0) rfl
theorem dX6_putBytes_2 : decode cX6_putBytes 2 = .ok (.istore_n 3, 1) := dc_of dtX6_putBytes_0_0_ok (i := 1) rfl
theorem dX6_putBytes_3 : decode cX6_putBytes 3 = .ok (.iload_n 3, 1) := dc_of dtX6_putBytes_0_0_ok (i := 2) rfl
theorem dX6_putBytes_4 : decode cX6_putBytes 4 = .ok (.ifCond .lt 33, 3) := dc_of dtX6_putBytes_0_0_ok (i := 3) rfl
theorem dX6_putBytes_7 : decode cX6_putBytes 7 = .ok (.aload_n 0, 1) := dc_of dtX6_putBytes_0_0_ok (i := 4) rfl
theorem dX6_putBytes_8 : decode cX6_putBytes 8 = .ok (.getfield 9, 3) := dc_of dtX6_putBytes_0_0_ok (i := 5) rfl
theorem dX6_putBytes_11 : decode cX6_putBytes 11 = .ok (.aload_n 0, 1) := dc_of dtX6_putBytes_0_0_ok (i := 6) rfl
theorem dX6_putBytes_12 : decode cX6_putBytes 12 = .ok (.getfield 77, 3) := dc_of dtX6_putBytes_0_0_ok (i := 7) rfl
theorem dX6_putBytes_15 : decode cX6_putBytes 15 = .ok (.lload_n 1, 1) := dc_of dtX6_putBytes_0_0_ok (i := 8) rfl
theorem dX6_putBytes_16 : decode cX6_putBytes 16 = .ok (.iload_n 3, 1) := dc_of dtX6_putBytes_0_0_ok (i := 9) rfl
theorem dX6_putBytes_17 : decode cX6_putBytes 17 = .ok (.lushr, 1) := dc_of dtX6_putBytes_0_0_ok (i := 10) rfl
theorem dX6_putBytes_18 : decode cX6_putBytes 18 = .ok (.l2i, 1) := dc_of dtX6_putBytes_0_0_ok (i := 11) rfl
theorem dX6_putBytes_19 : decode cX6_putBytes 19 = .ok (.i2b, 1) := dc_of dtX6_putBytes_0_0_ok (i := 12) rfl
theorem dX6_putBytes_20 : decode cX6_putBytes 20 = .ok (.bastore, 1) := dc_of dtX6_putBytes_0_0_ok (i := 13) rfl
theorem dX6_putBytes_21 : decode cX6_putBytes 21 = .ok (.aload_n 0, 1) := dc_of dtX6_putBytes_0_0_ok (i := 14) rfl
theorem dX6_putBytes_22 : decode cX6_putBytes 22 = .ok (.dup, 1) := dc_of dtX6_putBytes_0_0_ok (i := 15) rfl
theorem dX6_putBytes_23 : decode cX6_putBytes 23 = .ok (.getfield 77, 3) := dc_of dtX6_putBytes_0_0_ok (i := 16) rfl
theorem dX6_putBytes_26 : decode cX6_putBytes 26 = .ok (.iconst 1, 1) := dc_of dtX6_putBytes_0_0_ok (i := 17) rfl
theorem dX6_putBytes_27 : decode cX6_putBytes 27 = .ok (.iadd, 1) := dc_of dtX6_putBytes_0_0_ok (i := 18) rfl
theorem dX6_putBytes_28 : decode cX6_putBytes 28 = .ok (.putfield 77, 3) := dc_of dtX6_putBytes_0_0_ok (i := 19) rfl
theorem dX6_putBytes_31 : decode cX6_putBytes 31 = .ok (.iinc 3 (-8), 3) := dc_of dtX6_putBytes_0_0_ok (i := 20) rfl
theorem dX6_putBytes_34 : decode cX6_putBytes 34 = .ok (.goto (-31), 3) := dc_of dtX6_putBytes_0_0_ok (i := 21) rfl
theorem dX6_putBytes_37 : decode cX6_putBytes 37 = .ok (.return_, 1) := dc_of dtX6_putBytes_0_0_ok (i := 22) rfl
def dtX6_end_0_0 : List (Nat × Instr × Nat) := [(0, .iload_n 1, 1), (1, .ifCond .lt 11, 3), (4, .iload_n 1, 1), (5, .aload_n 0, 1), (6, .getfield 77, 3), (9, .if_icmp .le 5, 3), (12, .iconst (-1), 1), (13, .ireturn, 1), (14, .aload_n 0, 1), (15, .iload_n 1, 1), (16, .putfield 77, 3), (19, .iload_n 1, 1), (20, .ireturn, 1)]
theorem dtX6_end_0_0_ok : dcAll cX6_end dtX6_end_0_0 = true := by decide +kernel
theorem dX6_end_0 : decode cX6_end 0 = .ok (.iload_n 1, 1) := dc_of dtX6_end_0_0_ok (i := 0) rfl
theorem dX6_end_1 : decode cX6_end 1 = .ok (.ifCond .lt 11, 3) := dc_of dtX6_end_0_0_ok (i := 1) rfl
theorem dX6_end_4 : decode cX6_end 4 = .ok (.iload_n 1, 1) := dc_of dtX6_end_0_0_ok (i := 2) rfl
theorem dX6_end_5 : decode cX6_end 5 = .ok (.aload_n 0, 1) := dc_of dtX6_end_0_0_ok (i := 3) rfl
theorem dX6_end_6 : decode cX6_end 6 = .ok (.getfield 77, 3) := dc_of dtX6_end_0_0_ok (i := 4) rfl
theorem dX6_end_9 : decode cX6_end 9 = .ok (.if_icmp .le 5, 3) := dc_of dtX6_end_0_0_ok (i := 5) rfl
theorem dX6_end_12 : decode cX6_end 12 = .ok (.iconst (-1), 1) := dc_of dtX6_end_0_0_ok (i := 6) rfl
theorem dX6_end_13 : decode cX6_end 13 = .ok (.ireturn, 1) := dc_of dtX6_end_0_0_ok (i := 7) rfl
theorem dX6_end_14 : decode cX6_end 14 = .ok (.aload_n 0, 1) := dc_of dtX6_end_0_0_ok (i := 8) rfl
theorem dX6_end_15 : decode cX6_end 15 = .ok (.iload_n 1, 1) := dc_of dtX6_end_0_0_ok (i := 9) rfl
theorem dX6_end_16 : decode cX6_end 16 = .ok (.putfield 77, 3) := dc_of dtX6_end_0_0_ok (i := 10) rfl
theorem dX6_end_19 : decode cX6_end 19 = .ok (.iload_n 1, 1) := dc_of dtX6_end_0_0_ok (i := 11) rfl
theorem dX6_end_20 : decode cX6_end 20 = .ok (.ireturn, 1) := dc_of dtX6_end_0_0_ok (i := 12) rfl
set_option maxRecDepth 20000 in
theorem gw_wsX1_parse : wsX1_parse.all goodWord = true := by decide +kernel
set_option maxRecDepth 20000 in
theorem ggX6_plan_X1_parse : GoodIn wsX6_plan wsX1_parse := goodIn_r _ [10, 11, 12, 13, 14, 15, 16, 17, 18, 19, 20, 21, 22, 23, 24, 25, 26, 27, 28, 29, 30, 31, 32, 33, 34, 35, 36, 37, 38, 39, 40, 41, 42, 43, 44, 45, 46, 47, 48, 49, 50, 51, 52, 53, 54, 55, 56, 57, 58, 59, 60, 61, 62, 63, 64, 65, 66, 67, 68, 69, 70, 71, 72, 73, 74, 75, 76, 77, 78, 79, 80, 81, 82, 83, 84, 85, 86, 87, 88, 89, 90, 91, 92, 93, 94, 95, 96, 97, 98, 99, 100, 101, 102, 103, 104, 105, 106, 107, 108, 109, 110, 111, 112, 113, 114, 115, 116, 117, 118, 119, 120, 121, 122, 123, 124, 125, 126, 127, 128, 129, 130, 131, 132, 133, 134, 135, 136, 137, 138, 139, 140, 141, 142, 143, 144, 145, 146, 147, 148, 149, 150, 151, 152, 153, 154, 155, 156, 157, 158, 159, 160, 161, 162, 163, 164, 165, 166, 9, 167, 168, 169, 170, 171, 172, 173, 174, 175, 176, 177, 178, 179, 180, 181, 182, 183, 184, 185, 186, 187, 188, 189, 190, 191, 192, 193, 194, 195, 196, 197, 198, 199, 200, 201, 202, 203, 204, 205, 206, 207, 208, 209, 210, 211, 212, 213, 214, 215, 216, 217, 218, 219, 220, 221, 222, 223, 224, 225, 226, 227, 228, 229, 230, 231, 232, 233, 234, 235, 236, 237, 238, 239, 240, 241, 242, 243, 244, 245, 246, 247, 248, 249, 250, 251, 252, 253, 254, 255, 256, 257, 258, 259, 260, 261, 262, 263, 264, 265, 266, 267, 268, 269, 270, 271, 272, 273, 274, 275, 276, 277, 278, 279, 280, 281, 282, 283, 284, 285, 286, 287, 288, 289, 290, 291, 292, 293, 294, 295, 296, 297, 298, 299, 300, 301, 302, 303, 304, 305, 306, 307, 308, 309, 310, 311, 312, 313, 314, 315, 316, 317, 318, 319, 320, 321, 322, 323, 324, 325, 326, 327, 328, 329, 330, 331, 332, 333, 334, 335, 336, 337, 338, 339, 340, 341, 342, 343, 344, 345, 346, 347, 348, 349, 350, 351, 352, 353, 354, 355, 356, 357, 358, 359, 360, 361, 362, 363, 364, 365, 366, 367, 368, 369, 370, 408, 409, 410, 411, 405, 406, 407, 412, 413, 414, 415, 416, 417, 418, 419, 420, 421, 422, 423, 424, 425, 426, 427, 428, 429, 430, 431] rfl gw_wsX1_parse
set_option maxRecDepth 20000 in
theorem gX6_plan_X1_parse : GoodIn wsX6_plan (wsV RX6 85 RX1 yX1_parse wsX1_parse) := goodIn_app (goodIn_of _ (by decide +kernel)) ggX6_plan_X1_parse
set_option maxRecDepth 20000 in
theorem gw_wsX1_exchangePlan : wsX1_exchangePlan.all goodWord = true := by decide +kernel
set_option maxRecDepth 20000 in
theorem ggX6_plan_X1_exchangePlan : GoodIn wsX6_plan wsX1_exchangePlan := goodIn_r _ [374, 12, 408, 409, 410, 411] rfl gw_wsX1_exchangePlan
set_option maxRecDepth 20000 in
theorem gX6_plan_X1_exchangePlan : GoodIn wsX6_plan (wsV RX6 89 RX1 yX1_exchangePlan wsX1_exchangePlan) := goodIn_app (goodIn_of _ (by decide +kernel)) ggX6_plan_X1_exchangePlan
set_option maxRecDepth 20000 in
theorem gw_wsX6_startAnew : wsX6_startAnew.all goodWord = true := by decide +kernel
set_option maxRecDepth 20000 in
theorem ggX6_plan_X6_startAnew : GoodIn wsX6_plan wsX6_startAnew := goodIn_r _ [379, 380, 381, 382, 383, 384, 385, 386, 387, 388, 389, 390, 391, 392, 393, 394, 395, 396, 397, 398, 399, 400, 401, 402, 403, 404, 432, 433, 434, 435] rfl gw_wsX6_startAnew
set_option maxRecDepth 20000 in
theorem gX6_plan_X6_startAnew : GoodIn wsX6_plan (wsV RX6 93 RX6 yX6_startAnew wsX6_startAnew) := goodIn_app (goodIn_of _ (by decide +kernel)) ggX6_plan_X6_startAnew
def dtX6_plan_0_0 : List (Nat × Instr × Nat) := [(0, .aload_n 0, 1), (1, .getfield 77, 3), (4, .istore_n 1, 1), (5, .aload_n 0, 1), (6, .iconst 0, 1), (7, .putfield 77, 3), (10, .iload_n 1, 1), (11, .sipush 900, 3), (14, .if_icmp .le 5, 3), (17, .iconst (-1), 1), (18, .ireturn, 1), (19, .aload_n 0, 1), (20, .getfield 16, 3), (23, .aload_n 0, 1), (24, .getfield 9, 3), (27, .iload_n 1, 1), (28, .invokevirtual 85, 3), (31, .istore_n 2, 1), (32, .iload_n 2, 1), (33, .ifCond .eq 8, 3), (36, .bipush (-2), 2), (38, .iload_n 2, 1), (39, .isub, 1), (40, .ireturn, 1), (41, .aload_n 0, 1), (42, .aload_n 0, 1), (43, .getfield 16, 3), (46, .aload_n 0, 1), (47, .getfield 23, 3), (50, .invokevirtual 89, 3), (53, .putfield 23, 3), (56, .aload_n 0, 1)]
theorem dtX6_plan_0_0_ok : dcAll cX6_plan dtX6_plan_0_0 = true := by decide +kernel
theorem dX6_plan_0 : decode cX6_plan 0 = .ok (.aload_n 0, 1) := dc_of dtX6_plan_0_0_ok (i := 0) rfl
theorem dX6_plan_1 : decode cX6_plan 1 = .ok (.getfield 77, 3) := dc_of dtX6_plan_0_0_ok (i := 1) rfl
theorem dX6_plan_4 : decode cX6_plan 4 = .ok (.istore_n 1, 1) := dc_of dtX6_plan_0_0_ok (i := 2) rfl
theorem dX6_plan_5 : decode cX6_plan 5 = .ok (.aload_n 0, 1) := dc_of dtX6_plan_0_0_ok (i := 3) rfl
theorem dX6_plan_6 : decode cX6_plan 6 = .ok (.iconst 0, 1) := dc_of dtX6_plan_0_0_ok (i := 4) rfl
theorem dX6_plan_7 : decode cX6_plan 7 = .ok (.putfield 77, 3) := dc_of dtX6_plan_0_0_ok (i := 5) rfl
theorem dX6_plan_10 : decode cX6_plan 10 = .ok (.iload_n 1, 1) := dc_of dtX6_plan_0_0_ok (i := 6) rfl
theorem dX6_plan_11 : decode cX6_plan 11 = .ok (.sipush 900, 3) := dc_of dtX6_plan_0_0_ok (i := 7) rfl
theorem dX6_plan_14 : decode cX6_plan 14 = .ok (.if_icmp .le 5, 3) := dc_of dtX6_plan_0_0_ok (i := 8) rfl
theorem dX6_plan_17 : decode cX6_plan 17 = .ok (.iconst (-1), 1) := dc_of dtX6_plan_0_0_ok (i := 9) rfl
theorem dX6_plan_18 : decode cX6_plan 18 = .ok (.ireturn, 1) := dc_of dtX6_plan_0_0_ok (i := 10) rfl
theorem dX6_plan_19 : decode cX6_plan 19 = .ok (.aload_n 0, 1) := dc_of dtX6_plan_0_0_ok (i := 11) rfl
theorem dX6_plan_20 : decode cX6_plan 20 = .ok (.getfield 16, 3) := dc_of dtX6_plan_0_0_ok (i := 12) rfl
theorem dX6_plan_23 : decode cX6_plan 23 = .ok (.aload_n 0, 1) := dc_of dtX6_plan_0_0_ok (i := 13) rfl
theorem dX6_plan_24 : decode cX6_plan 24 = .ok (.getfield 9, 3) := dc_of dtX6_plan_0_0_ok (i := 14) rfl
theorem dX6_plan_27 : decode cX6_plan 27 = .ok (.iload_n 1, 1) := dc_of dtX6_plan_0_0_ok (i := 15) rfl
theorem dX6_plan_28 : decode cX6_plan 28 = .ok (.invokevirtual 85, 3) := dc_of dtX6_plan_0_0_ok (i := 16) rfl
theorem dX6_plan_31 : decode cX6_plan 31 = .ok (.istore_n 2, 1) := dc_of dtX6_plan_0_0_ok (i := 17) rfl
theorem dX6_plan_32 : decode cX6_plan 32 = .ok (.iload_n 2, 1) := dc_of dtX6_plan_0_0_ok (i := 18) rfl
theorem dX6_plan_33 : decode cX6_plan 33 = .ok (.ifCond .eq 8, 3) := dc_of dtX6_plan_0_0_ok (i := 19) rfl
theorem dX6_plan_36 : decode cX6_plan 36 = .ok (.bipush (-2), 2) := dc_of dtX6_plan_0_0_ok (i := 20) rfl
theorem dX6_plan_38 : decode cX6_plan 38 = .ok (.iload_n 2, 1) := dc_of dtX6_plan_0_0_ok (i := 21) rfl
theorem dX6_plan_39 : decode cX6_plan 39 = .ok (.isub, 1) := dc_of dtX6_plan_0_0_ok (i := 22) rfl
theorem dX6_plan_40 : decode cX6_plan 40 = .ok (.ireturn, 1) := dc_of dtX6_plan_0_0_ok (i := 23) rfl
theorem dX6_plan_41 : decode cX6_plan 41 = .ok (.aload_n 0, 1) := dc_of dtX6_plan_0_0_ok (i := 24) rfl
theorem dX6_plan_42 : decode cX6_plan 42 = .ok (.aload_n 0, 1) := dc_of dtX6_plan_0_0_ok (i := 25) rfl
theorem dX6_plan_43 : decode cX6_plan 43 = .ok (.getfield 16, 3) := dc_of dtX6_plan_0_0_ok (i := 26) rfl
theorem dX6_plan_46 : decode cX6_plan 46 = .ok (.aload_n 0, 1) := dc_of dtX6_plan_0_0_ok (i := 27) rfl
theorem dX6_plan_47 : decode cX6_plan 47 = .ok (.getfield 23, 3) := dc_of dtX6_plan_0_0_ok (i := 28) rfl
theorem dX6_plan_50 : decode cX6_plan 50 = .ok (.invokevirtual 89, 3) := dc_of dtX6_plan_0_0_ok (i := 29) rfl
theorem dX6_plan_53 : decode cX6_plan 53 = .ok (.putfield 23, 3) := dc_of dtX6_plan_0_0_ok (i := 30) rfl
theorem dX6_plan_56 : decode cX6_plan 56 = .ok (.aload_n 0, 1) := dc_of dtX6_plan_0_0_ok (i := 31) rfl
def dtX6_plan_57_1 : List (Nat × Instr × Nat) := [(57, .invokevirtual 93, 3), (60, .aload_n 0, 1), (61, .getfield 23, 3), (64, .getfield 96, 3), (67, .ireturn, 1)]
theorem dtX6_plan_57_1_ok : dcAll cX6_plan dtX6_plan_57_1 = true := by decide +kernel
theorem dX6_plan_57 : decode cX6_plan 57 = .ok (.invokevirtual 93, 3) := dc_of dtX6_plan_57_1_ok (i := 0) rfl
theorem dX6_plan_60 : decode cX6_plan 60 = .ok (.aload_n 0, 1) := dc_of dtX6_plan_57_1_ok (i := 1) rfl
theorem dX6_plan_61 : decode cX6_plan 61 = .ok (.getfield 23, 3) := dc_of dtX6_plan_57_1_ok (i := 2) rfl
theorem dX6_plan_64 : decode cX6_plan 64 = .ok (.getfield 96, 3) := dc_of dtX6_plan_57_1_ok (i := 3) rfl
theorem dX6_plan_67 : decode cX6_plan 67 = .ok (.ireturn, 1) := dc_of dtX6_plan_57_1_ok (i := 4) rfl
def dtX6_startAnew_0_0 : List (Nat × Instr × Nat) := [(0, .iconst 0, 1), (1, .istore_n 1, 1), (2, .iload_n 1, 1), (3, .bipush 16, 2), (5, .if_icmp .ge 29, 3), (8, .aload_n 0, 1), (9, .getfield 38, 3), (12, .iload_n 1, 1), (13, .aaload, 1), (14, .iconst 0, 1), (15, .putfield 99, 3), (18, .aload_n 0, 1), (19, .getfield 45, 3), (22, .iload_n 1, 1), (23, .aaload, 1), (24, .iconst 0, 1), (25, .putfield 99, 3), (28, .iinc 1 1, 3), (31, .goto (-29), 3), (34, .aload_n 0, 1), (35, .getfield 53, 3), (38, .iconst 0, 1), (39, .putfield 99, 3), (42, .aload_n 0, 1), (43, .iconst 0, 1), (44, .putfield 100, 3), (47, .aload_n 0, 1), (48, .iconst 0, 1), (49, .putfield 103, 3), (52, .aload_n 0, 1), (53, .iconst 0, 1), (54, .putfield 106, 3)]
theorem dtX6_startAnew_0_0_ok : dcAll cX6_startAnew dtX6_startAnew_0_0 = true := by decide +kernel
theorem dX6_startAnew_0 : decode cX6_startAnew 0 = .ok (.iconst 0, 1) := dc_of dtX6_startAnew_0_0_ok (i := 0) rfl
theorem dX6_startAnew_1 : decode cX6_startAnew 1 = .ok (.istore_n 1, 1) := dc_of dtX6_startAnew_0_0_ok (i := 1) rfl
theorem dX6_startAnew_2 : decode cX6_startAnew 2 = .ok (.iload_n 1, 1) := dc_of dtX6_startAnew_0_0_ok (i := 2) rfl
theorem dX6_startAnew_3 : decode cX6_startAnew 3 = .ok (.bipush 16, 2) := dc_of dtX6_startAnew_0_0_ok (i := 3) rfl
theorem dX6_startAnew_5 : decode cX6_startAnew 5 = .ok (.if_icmp .ge 29, 3) := dc_of dtX6_startAnew_0_0_ok (i := 4) rfl
theorem dX6_startAnew_8 : decode cX6_startAnew 8 = .ok (.aload_n 0, 1) := dc_of dtX6_startAnew_0_0_ok (i := 5) rfl
theorem dX6_startAnew_9 : decode cX6_startAnew 9 = .ok (.getfield 38, 3) := dc_of dtX6_startAnew_0_0_ok (i := 6) rfl
theorem dX6_startAnew_12 : decode cX6_startAnew 12 = .ok (.iload_n 1, 1) := dc_of dtX6_startAnew_0_0_ok (i := 7) rfl
theorem dX6_startAnew_13 : decode cX6_startAnew 13 = .ok (.aaload, 1) := dc_of dtX6_startAnew_0_0_ok (i := 8) rfl
theorem dX6_startAnew_14 : decode cX6_startAnew 14 = .ok (.iconst 0, 1) := dc_of dtX6_startAnew_0_0_ok (i := 9) rfl
theorem dX6_startAnew_15 : decode cX6_startAnew 15 = .ok (.putfield 99, 3) := dc_of dtX6_startAnew_0_0_ok (i := 10) rfl
theorem dX6_startAnew_18 : decode cX6_startAnew 18 = .ok (.aload_n 0, 1) := dc_of dtX6_startAnew_0_0_ok (i := 11) rfl
theorem dX6_startAnew_19 : decode cX6_startAnew 19 = .ok (.getfield 45, 3) := dc_of dtX6_startAnew_0_0_ok (i := 12) rfl
theorem dX6_startAnew_22 : decode cX6_startAnew 22 = .ok (.iload_n 1, 1) := dc_of dtX6_startAnew_0_0_ok (i := 13) rfl
theorem dX6_startAnew_23 : decode cX6_startAnew 23 = .ok (.aaload, 1) := dc_of dtX6_startAnew_0_0_ok (i := 14) rfl
theorem dX6_startAnew_24 : decode cX6_startAnew 24 = .ok (.iconst 0, 1) := dc_of dtX6_startAnew_0_0_ok (i := 15) rfl
theorem dX6_startAnew_25 : decode cX6_startAnew 25 = .ok (.putfield 99, 3) := dc_of dtX6_startAnew_0_0_ok (i := 16) rfl
theorem dX6_startAnew_28 : decode cX6_startAnew 28 = .ok (.iinc 1 1, 3) := dc_of dtX6_startAnew_0_0_ok (i := 17) rfl
theorem dX6_startAnew_31 : decode cX6_startAnew 31 = .ok (.goto (-29), 3) := dc_of dtX6_startAnew_0_0_ok (i := 18) rfl
theorem dX6_startAnew_34 : decode cX6_startAnew 34 = .ok (.aload_n 0, 1) := dc_of dtX6_startAnew_0_0_ok (i := 19) rfl
theorem dX6_startAnew_35 : decode cX6_startAnew 35 = .ok (.getfield 53, 3) := dc_of dtX6_startAnew_0_0_ok (i := 20) rfl
theorem dX6_startAnew_38 : decode cX6_startAnew 38 = .ok (.iconst 0, 1) := dc_of dtX6_startAnew_0_0_ok (i := 21) rfl
theorem dX6_startAnew_39 : decode cX6_startAnew 39 = .ok (.putfield 99, 3) := dc_of dtX6_startAnew_0_0_ok (i := 22) rfl
theorem dX6_startAnew_42 : decode cX6_startAnew 42 = .ok (.aload_n 0, 1) := dc_of dtX6_startAnew_0_0_ok (i := 23) rfl
theorem dX6_startAnew_43 : decode cX6_startAnew 43 = .ok (.iconst 0, 1) := dc_of dtX6_startAnew_0_0_ok (i := 24) rfl
theorem dX6_startAnew_44 : decode cX6_startAnew 44 = .ok (.putfield 100, 3) := dc_of dtX6_startAnew_0_0_ok (i := 25) rfl
theorem dX6_startAnew_47 : decode cX6_startAnew 47 = .ok (.aload_n 0, 1) := dc_of dtX6_startAnew_0_0_ok (i := 26) rfl
theorem dX6_startAnew_48 : decode cX6_startAnew 48 = .ok (.iconst 0, 1) := dc_of dtX6_startAnew_0_0_ok (i := 27) rfl
theorem dX6_startAnew_49 : decode cX6_startAnew 49 = .ok (.putfield 103, 3) := dc_of dtX6_startAnew_0_0_ok (i := 28) rfl
theorem dX6_startAnew_52 : decode cX6_startAnew 52 = .ok (.aload_n 0, 1) := dc_of dtX6_startAnew_0_0_ok (i := 29) rfl
theorem dX6_startAnew_53 : decode cX6_startAnew 53 = .ok (.iconst 0, 1) := dc_of dtX6_startAnew_0_0_ok (i := 30) rfl
theorem dX6_startAnew_54 : decode cX6_startAnew 54 = .ok (.putfield 106, 3) := dc_of dtX6_startAnew_0_0_ok (i := 31) rfl
def dtX6_startAnew_57_1 : List (Nat × Instr × Nat) := [(57, .return_, 1)]
theorem dtX6_startAnew_57_1_ok : dcAll cX6_startAnew dtX6_startAnew_57_1 = true := by decide +kernel
theorem dX6_startAnew_57 : decode cX6_startAnew 57 = .ok (.return_, 1) := dc_of dtX6_startAnew_57_1_ok (i := 0) rfl
def dtX6_isRelation_0_0 : List (Nat × Instr × Nat) := [(0, .iload_n 1, 1), (1, .ifCond .lt 18, 3), (4, .iload_n 1, 1), (5, .aload_n 0, 1), (6, .getfield 23, 3), (9, .getfield 96, 3), (12, .if_icmp .ge 7, 3), (15, .iconst 1, 1), (16, .goto 4, 3), (19, .iconst 0, 1)]
theorem dtX6_isRelation_0_0_ok : dcAll cX6_isRelation dtX6_isRelation_0_0 = true := by decide +kernel
theorem dX6_isRelation_0 : decode cX6_isRelation 0 = .ok (.iload_n 1, 1) := dc_of dtX6_isRelation_0_0_ok (i := 0) rfl
theorem dX6_isRelation_1 : decode cX6_isRelation 1 = .ok (.ifCond .lt 18, 3) := dc_of dtX6_isRelation_0_0_ok (i := 1) rfl
theorem dX6_isRelation_4 : decode cX6_isRelation 4 = .ok (.iload_n 1, 1) := dc_of dtX6_isRelation_0_0_ok (i := 2) rfl
theorem dX6_isRelation_5 : decode cX6_isRelation 5 = .ok (.aload_n 0, 1) := dc_of dtX6_isRelation_0_0_ok (i := 3) rfl
theorem dX6_isRelation_6 : decode cX6_isRelation 6 = .ok (.getfield 23, 3) := dc_of dtX6_isRelation_0_0_ok (i := 4) rfl
theorem dX6_isRelation_9 : decode cX6_isRelation 9 = .ok (.getfield 96, 3) := dc_of dtX6_isRelation_0_0_ok (i := 5) rfl
theorem dX6_isRelation_12 : decode cX6_isRelation 12 = .ok (.if_icmp .ge 7, 3) := dc_of dtX6_isRelation_0_0_ok (i := 6) rfl
theorem dX6_isRelation_15 : decode cX6_isRelation 15 = .ok (.iconst 1, 1) := dc_of dtX6_isRelation_0_0_ok (i := 7) rfl
theorem dX6_isRelation_16 : decode cX6_isRelation 16 = .ok (.goto 4, 3) := dc_of dtX6_isRelation_0_0_ok (i := 8) rfl
theorem dX6_isRelation_19 : decode cX6_isRelation 19 = .ok (.iconst 0, 1) := dc_of dtX6_isRelation_0_0_ok (i := 9) rfl
