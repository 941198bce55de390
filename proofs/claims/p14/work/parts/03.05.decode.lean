def dtX7_terms_91_0 : List (Nat × Instr × Nat) := [(91, .return_, 1)]
theorem dtX7_terms_91_0_ok : dcAll cX7_terms dtX7_terms_91_0 = true := by decide +kernel
theorem dX7_terms_91 : decode cX7_terms 91 = .ok (.return_, 1) := dc_of dtX7_terms_91_0_ok (i := 0) rfl
def dtX7_joins_0_0 : List (Nat × Instr × Nat) := [(0, .aload_n 0, 1), (1, .iload_n 2, 1), (2, .invokevirtual 289, 3), (5, .istore_n 3, 1), (6, .aload_n 0, 1), (7, .iload_n 2, 1), (8, .invokevirtual 292, 3), (11, .istore 4, 2), (13, .aload_n 0, 1), (14, .getfield 7, 3), (17, .bipush 40, 2), (19, .iload_n 2, 1), (20, .imul, 1), (21, .iconst 5, 1), (22, .iadd, 1), (23, .iaload, 1), (24, .istore 5, 2), (26, .iconst 0, 1), (27, .istore 6, 2), (29, .iconst 0, 1), (30, .istore 7, 2), (32, .iload 7, 2), (34, .aload_n 0, 1), (35, .iload_n 1, 1), (36, .iload_n 3, 1), (37, .invokevirtual 295, 3), (40, .if_icmp .ge 251, 3), (43, .iconst 0, 1), (44, .istore 8, 2), (46, .iload 8, 2), (48, .aload_n 0, 1), (49, .iload_n 1, 1)]
theorem dtX7_joins_0_0_ok : dcAll cX7_joins dtX7_joins_0_0 = true := by decide +kernel
theorem dX7_joins_0 : decode cX7_joins 0 = .ok (.aload_n 0, 1) := dc_of dtX7_joins_0_0_ok (i := 0) rfl
theorem dX7_joins_1 : decode cX7_joins 1 = .ok (.iload_n 2, 1) := dc_of dtX7_joins_0_0_ok (i := 1) rfl
theorem dX7_joins_2 : decode cX7_joins 2 = .ok (.invokevirtual 289, 3) := dc_of dtX7_joins_0_0_ok (i := 2) rfl
theorem dX7_joins_5 : decode cX7_joins 5 = .ok (.istore_n 3, 1) := dc_of dtX7_joins_0_0_ok (i := 3) rfl
theorem dX7_joins_6 : decode cX7_joins 6 = .ok (.aload_n 0, 1) := dc_of dtX7_joins_0_0_ok (i := 4) rfl
theorem dX7_joins_7 : decode cX7_joins 7 = .ok (.iload_n 2, 1) := dc_of dtX7_joins_0_0_ok (i := 5) rfl
theorem dX7_joins_8 : decode cX7_joins 8 = .ok (.invokevirtual 292, 3) := dc_of dtX7_joins_0_0_ok (i := 6) rfl
theorem dX7_joins_11 : decode cX7_joins 11 = .ok (.istore 4, 2) := dc_of dtX7_joins_0_0_ok (i := 7) rfl
theorem dX7_joins_13 : decode cX7_joins 13 = .ok (.aload_n 0, 1) := dc_of dtX7_joins_0_0_ok (i := 8) rfl
theorem dX7_joins_14 : decode cX7_joins 14 = .ok (.getfield 7, 3) := dc_of dtX7_joins_0_0_ok (i := 9) rfl
theorem dX7_joins_17 : decode cX7_joins 17 = .ok (.bipush 40, 2) := dc_of dtX7_joins_0_0_ok (i := 10) rfl
theorem dX7_joins_19 : decode cX7_joins 19 = .ok (.iload_n 2, 1) := dc_of dtX7_joins_0_0_ok (i := 11) rfl
theorem dX7_joins_20 : decode cX7_joins 20 = .ok (.imul, 1) := dc_of dtX7_joins_0_0_ok (i := 12) rfl
theorem dX7_joins_21 : decode cX7_joins 21 = .ok (.iconst 5, 1) := dc_of dtX7_joins_0_0_ok (i := 13) rfl
theorem dX7_joins_22 : decode cX7_joins 22 = .ok (.iadd, 1) := dc_of dtX7_joins_0_0_ok (i := 14) rfl
theorem dX7_joins_23 : decode cX7_joins 23 = .ok (.iaload, 1) := dc_of dtX7_joins_0_0_ok (i := 15) rfl
theorem dX7_joins_24 : decode cX7_joins 24 = .ok (.istore 5, 2) := dc_of dtX7_joins_0_0_ok (i := 16) rfl
theorem dX7_joins_26 : decode cX7_joins 26 = .ok (.iconst 0, 1) := dc_of dtX7_joins_0_0_ok (i := 17) rfl
theorem dX7_joins_27 : decode cX7_joins 27 = .ok (.istore 6, 2) := dc_of dtX7_joins_0_0_ok (i := 18) rfl
theorem dX7_joins_29 : decode cX7_joins 29 = .ok (.iconst 0, 1) := dc_of dtX7_joins_0_0_ok (i := 19) rfl
theorem dX7_joins_30 : decode cX7_joins 30 = .ok (.istore 7, 2) := dc_of dtX7_joins_0_0_ok (i := 20) rfl
theorem dX7_joins_32 : decode cX7_joins 32 = .ok (.iload 7, 2) := dc_of dtX7_joins_0_0_ok (i := 21) rfl
theorem dX7_joins_34 : decode cX7_joins 34 = .ok (.aload_n 0, 1) := dc_of dtX7_joins_0_0_ok (i := 22) rfl
theorem dX7_joins_35 : decode cX7_joins 35 = .ok (.iload_n 1, 1) := dc_of dtX7_joins_0_0_ok (i := 23) rfl
theorem dX7_joins_36 : decode cX7_joins 36 = .ok (.iload_n 3, 1) := dc_of dtX7_joins_0_0_ok (i := 24) rfl
theorem dX7_joins_37 : decode cX7_joins 37 = .ok (.invokevirtual 295, 3) := dc_of dtX7_joins_0_0_ok (i := 25) rfl
theorem dX7_joins_40 : decode cX7_joins 40 = .ok (.if_icmp .ge 251, 3) := dc_of dtX7_joins_0_0_ok (i := 26) rfl
theorem dX7_joins_43 : decode cX7_joins 43 = .ok (.iconst 0, 1) := dc_of dtX7_joins_0_0_ok (i := 27) rfl
theorem dX7_joins_44 : decode cX7_joins 44 = .ok (.istore 8, 2) := dc_of dtX7_joins_0_0_ok (i := 28) rfl
theorem dX7_joins_46 : decode cX7_joins 46 = .ok (.iload 8, 2) := dc_of dtX7_joins_0_0_ok (i := 29) rfl
theorem dX7_joins_48 : decode cX7_joins 48 = .ok (.aload_n 0, 1) := dc_of dtX7_joins_0_0_ok (i := 30) rfl
theorem dX7_joins_49 : decode cX7_joins 49 = .ok (.iload_n 1, 1) := dc_of dtX7_joins_0_0_ok (i := 31) rfl
def dtX7_joins_50_1 : List (Nat × Instr × Nat) := [(50, .iload 4, 2), (52, .invokevirtual 295, 3), (55, .if_icmp .ge 230, 3), (58, .iload_n 1, 1), (59, .iload_n 3, 1), (60, .iload 7, 2), (62, .invokestatic 279, 3), (65, .istore 9, 2), (67, .iload_n 1, 1), (68, .iload 4, 2), (70, .iload 8, 2), (72, .invokestatic 279, 3), (75, .istore 10, 2), (77, .iconst 1, 1), (78, .istore 11, 2), (80, .iconst 0, 1), (81, .istore 12, 2), (83, .iload 12, 2), (85, .aload_n 0, 1), (86, .iload_n 2, 1), (87, .invokevirtual 283, 3), (90, .if_icmp .ge 56, 3), (93, .iload 11, 2), (95, .ifCond .eq 42, 3), (98, .aload_n 0, 1), (99, .getfield 24, 3), (102, .iload 9, 2), (104, .aload_n 0, 1), (105, .iload_n 2, 1), (106, .iload 12, 2), (108, .iconst 0, 1), (109, .invokevirtual 286, 3)]
theorem dtX7_joins_50_1_ok : dcAll cX7_joins dtX7_joins_50_1 = true := by decide +kernel
theorem dX7_joins_50 : decode cX7_joins 50 = .ok (.iload 4, 2) := dc_of dtX7_joins_50_1_ok (i := 0) rfl
theorem dX7_joins_52 : decode cX7_joins 52 = .ok (.invokevirtual 295, 3) := dc_of dtX7_joins_50_1_ok (i := 1) rfl
theorem dX7_joins_55 : decode cX7_joins 55 = .ok (.if_icmp .ge 230, 3) := dc_of dtX7_joins_50_1_ok (i := 2) rfl
theorem dX7_joins_58 : decode cX7_joins 58 = .ok (.iload_n 1, 1) := dc_of dtX7_joins_50_1_ok (i := 3) rfl
theorem dX7_joins_59 : decode cX7_joins 59 = .ok (.iload_n 3, 1) := dc_of dtX7_joins_50_1_ok (i := 4) rfl
theorem dX7_joins_60 : decode cX7_joins 60 = .ok (.iload 7, 2) := dc_of dtX7_joins_50_1_ok (i := 5) rfl
theorem dX7_joins_62 : decode cX7_joins 62 = .ok (.invokestatic 279, 3) := dc_of dtX7_joins_50_1_ok (i := 6) rfl
theorem dX7_joins_65 : decode cX7_joins 65 = .ok (.istore 9, 2) := dc_of dtX7_joins_50_1_ok (i := 7) rfl
theorem dX7_joins_67 : decode cX7_joins 67 = .ok (.iload_n 1, 1) := dc_of dtX7_joins_50_1_ok (i := 8) rfl
theorem dX7_joins_68 : decode cX7_joins 68 = .ok (.iload 4, 2) := dc_of dtX7_joins_50_1_ok (i := 9) rfl
theorem dX7_joins_70 : decode cX7_joins 70 = .ok (.iload 8, 2) := dc_of dtX7_joins_50_1_ok (i := 10) rfl
theorem dX7_joins_72 : decode cX7_joins 72 = .ok (.invokestatic 279, 3) := dc_of dtX7_joins_50_1_ok (i := 11) rfl
theorem dX7_joins_75 : decode cX7_joins 75 = .ok (.istore 10, 2) := dc_of dtX7_joins_50_1_ok (i := 12) rfl
theorem dX7_joins_77 : decode cX7_joins 77 = .ok (.iconst 1, 1) := dc_of dtX7_joins_50_1_ok (i := 13) rfl
theorem dX7_joins_78 : decode cX7_joins 78 = .ok (.istore 11, 2) := dc_of dtX7_joins_50_1_ok (i := 14) rfl
theorem dX7_joins_80 : decode cX7_joins 80 = .ok (.iconst 0, 1) := dc_of dtX7_joins_50_1_ok (i := 15) rfl
theorem dX7_joins_81 : decode cX7_joins 81 = .ok (.istore 12, 2) := dc_of dtX7_joins_50_1_ok (i := 16) rfl
theorem dX7_joins_83 : decode cX7_joins 83 = .ok (.iload 12, 2) := dc_of dtX7_joins_50_1_ok (i := 17) rfl
theorem dX7_joins_85 : decode cX7_joins 85 = .ok (.aload_n 0, 1) := dc_of dtX7_joins_50_1_ok (i := 18) rfl
theorem dX7_joins_86 : decode cX7_joins 86 = .ok (.iload_n 2, 1) := dc_of dtX7_joins_50_1_ok (i := 19) rfl
theorem dX7_joins_87 : decode cX7_joins 87 = .ok (.invokevirtual 283, 3) := dc_of dtX7_joins_50_1_ok (i := 20) rfl
theorem dX7_joins_90 : decode cX7_joins 90 = .ok (.if_icmp .ge 56, 3) := dc_of dtX7_joins_50_1_ok (i := 21) rfl
theorem dX7_joins_93 : decode cX7_joins 93 = .ok (.iload 11, 2) := dc_of dtX7_joins_50_1_ok (i := 22) rfl
theorem dX7_joins_95 : decode cX7_joins 95 = .ok (.ifCond .eq 42, 3) := dc_of dtX7_joins_50_1_ok (i := 23) rfl
theorem dX7_joins_98 : decode cX7_joins 98 = .ok (.aload_n 0, 1) := dc_of dtX7_joins_50_1_ok (i := 24) rfl
theorem dX7_joins_99 : decode cX7_joins 99 = .ok (.getfield 24, 3) := dc_of dtX7_joins_50_1_ok (i := 25) rfl
theorem dX7_joins_102 : decode cX7_joins 102 = .ok (.iload 9, 2) := dc_of dtX7_joins_50_1_ok (i := 26) rfl
theorem dX7_joins_104 : decode cX7_joins 104 = .ok (.aload_n 0, 1) := dc_of dtX7_joins_50_1_ok (i := 27) rfl
theorem dX7_joins_105 : decode cX7_joins 105 = .ok (.iload_n 2, 1) := dc_of dtX7_joins_50_1_ok (i := 28) rfl
theorem dX7_joins_106 : decode cX7_joins 106 = .ok (.iload 12, 2) := dc_of dtX7_joins_50_1_ok (i := 29) rfl
theorem dX7_joins_108 : decode cX7_joins 108 = .ok (.iconst 0, 1) := dc_of dtX7_joins_50_1_ok (i := 30) rfl
theorem dX7_joins_109 : decode cX7_joins 109 = .ok (.invokevirtual 286, 3) := dc_of dtX7_joins_50_1_ok (i := 31) rfl
def dtX7_joins_112_2 : List (Nat × Instr × Nat) := [(112, .iadd, 1), (113, .iaload, 1), (114, .aload_n 0, 1), (115, .getfield 24, 3), (118, .iload 10, 2), (120, .aload_n 0, 1), (121, .iload_n 2, 1), (122, .iload 12, 2), (124, .iconst 1, 1), (125, .invokevirtual 286, 3), (128, .iadd, 1), (129, .iaload, 1), (130, .if_icmp .ne 7, 3), (133, .iconst 1, 1), (134, .goto 4, 3), (137, .iconst 0, 1), (138, .istore 11, 2), (140, .iinc 12 1, 3), (143, .goto (-60), 3), (146, .iload 11, 2), (148, .ifCond .ne 6, 3), (151, .goto 128, 3), (154, .iinc 6 1, 3), (157, .iload 6, 2), (159, .sipush 1500, 3), (162, .if_icmp .le 6, 3), (165, .bipush (-3), 2), (167, .ireturn, 1), (168, .aload_n 0, 1), (169, .iload 9, 2), (171, .invokevirtual 298, 3), (174, .aload_n 0, 1)]
theorem dtX7_joins_112_2_ok : dcAll cX7_joins dtX7_joins_112_2 = true := by decide +kernel
theorem dX7_joins_112 : decode cX7_joins 112 = .ok (.iadd, 1) := dc_of dtX7_joins_112_2_ok (i := 0) rfl
theorem dX7_joins_113 : decode cX7_joins 113 = .ok (.iaload, 1) := dc_of dtX7_joins_112_2_ok (i := 1) rfl
theorem dX7_joins_114 : decode cX7_joins 114 = .ok (.aload_n 0, 1) := dc_of dtX7_joins_112_2_ok (i := 2) rfl
theorem dX7_joins_115 : decode cX7_joins 115 = .ok (.getfield 24, 3) := dc_of dtX7_joins_112_2_ok (i := 3) rfl
theorem dX7_joins_118 : decode cX7_joins 118 = .ok (.iload 10, 2) := dc_of dtX7_joins_112_2_ok (i := 4) rfl
theorem dX7_joins_120 : decode cX7_joins 120 = .ok (.aload_n 0, 1) := dc_of dtX7_joins_112_2_ok (i := 5) rfl
theorem dX7_joins_121 : decode cX7_joins 121 = .ok (.iload_n 2, 1) := dc_of dtX7_joins_112_2_ok (i := 6) rfl
theorem dX7_joins_122 : decode cX7_joins 122 = .ok (.iload 12, 2) := dc_of dtX7_joins_112_2_ok (i := 7) rfl
theorem dX7_joins_124 : decode cX7_joins 124 = .ok (.iconst 1, 1) := dc_of dtX7_joins_112_2_ok (i := 8) rfl
theorem dX7_joins_125 : decode cX7_joins 125 = .ok (.invokevirtual 286, 3) := dc_of dtX7_joins_112_2_ok (i := 9) rfl
theorem dX7_joins_128 : decode cX7_joins 128 = .ok (.iadd, 1) := dc_of dtX7_joins_112_2_ok (i := 10) rfl
theorem dX7_joins_129 : decode cX7_joins 129 = .ok (.iaload, 1) := dc_of dtX7_joins_112_2_ok (i := 11) rfl
theorem dX7_joins_130 : decode cX7_joins 130 = .ok (.if_icmp .ne 7, 3) := dc_of dtX7_joins_112_2_ok (i := 12) rfl
theorem dX7_joins_133 : decode cX7_joins 133 = .ok (.iconst 1, 1) := dc_of dtX7_joins_112_2_ok (i := 13) rfl
theorem dX7_joins_134 : decode cX7_joins 134 = .ok (.goto 4, 3) := dc_of dtX7_joins_112_2_ok (i := 14) rfl
theorem dX7_joins_137 : decode cX7_joins 137 = .ok (.iconst 0, 1) := dc_of dtX7_joins_112_2_ok (i := 15) rfl
theorem dX7_joins_138 : decode cX7_joins 138 = .ok (.istore 11, 2) := dc_of dtX7_joins_112_2_ok (i := 16) rfl
theorem dX7_joins_140 : decode cX7_joins 140 = .ok (.iinc 12 1, 3) := dc_of dtX7_joins_112_2_ok (i := 17) rfl
theorem dX7_joins_143 : decode cX7_joins 143 = .ok (.goto (-60), 3) := dc_of dtX7_joins_112_2_ok (i := 18) rfl
theorem dX7_joins_146 : decode cX7_joins 146 = .ok (.iload 11, 2) := dc_of dtX7_joins_112_2_ok (i := 19) rfl
theorem dX7_joins_148 : decode cX7_joins 148 = .ok (.ifCond .ne 6, 3) := dc_of dtX7_joins_112_2_ok (i := 20) rfl
theorem dX7_joins_151 : decode cX7_joins 151 = .ok (.goto 128, 3) := dc_of dtX7_joins_112_2_ok (i := 21) rfl
theorem dX7_joins_154 : decode cX7_joins 154 = .ok (.iinc 6 1, 3) := dc_of dtX7_joins_112_2_ok (i := 22) rfl
theorem dX7_joins_157 : decode cX7_joins 157 = .ok (.iload 6, 2) := dc_of dtX7_joins_112_2_ok (i := 23) rfl
theorem dX7_joins_159 : decode cX7_joins 159 = .ok (.sipush 1500, 3) := dc_of dtX7_joins_112_2_ok (i := 24) rfl
theorem dX7_joins_162 : decode cX7_joins 162 = .ok (.if_icmp .le 6, 3) := dc_of dtX7_joins_112_2_ok (i := 25) rfl
theorem dX7_joins_165 : decode cX7_joins 165 = .ok (.bipush (-3), 2) := dc_of dtX7_joins_112_2_ok (i := 26) rfl
theorem dX7_joins_167 : decode cX7_joins 167 = .ok (.ireturn, 1) := dc_of dtX7_joins_112_2_ok (i := 27) rfl
theorem dX7_joins_168 : decode cX7_joins 168 = .ok (.aload_n 0, 1) := dc_of dtX7_joins_112_2_ok (i := 28) rfl
theorem dX7_joins_169 : decode cX7_joins 169 = .ok (.iload 9, 2) := dc_of dtX7_joins_112_2_ok (i := 29) rfl
theorem dX7_joins_171 : decode cX7_joins 171 = .ok (.invokevirtual 298, 3) := dc_of dtX7_joins_112_2_ok (i := 30) rfl
theorem dX7_joins_174 : decode cX7_joins 174 = .ok (.aload_n 0, 1) := dc_of dtX7_joins_112_2_ok (i := 31) rfl
def dtX7_joins_175_3 : List (Nat × Instr × Nat) := [(175, .iload_n 3, 1), (176, .invokevirtual 301, 3), (179, .istore 12, 2), (181, .iconst 0, 1), (182, .istore 13, 2), (184, .iload 13, 2), (186, .aload_n 0, 1), (187, .iload 4, 2), (189, .invokevirtual 301, 3), (192, .if_icmp .ge 43, 3), (195, .iload 5, 2), (197, .iload 13, 2), (199, .ishr, 1), (200, .iconst 1, 1), (201, .iand, 1), (202, .iconst 1, 1), (203, .if_icmp .ne 6, 3), (206, .goto 23, 3), (209, .aload_n 0, 1), (210, .getfield 45, 3), (213, .iload 12, 2), (215, .aload_n 0, 1), (216, .getfield 24, 3), (219, .iload 10, 2), (221, .iload 13, 2), (223, .iadd, 1), (224, .iaload, 1), (225, .iastore, 1), (226, .iinc 12 1, 3), (229, .iinc 13 1, 3), (232, .goto (-48), 3), (235, .aload_n 0, 1)]
theorem dtX7_joins_175_3_ok : dcAll cX7_joins dtX7_joins_175_3 = true := by decide +kernel
theorem dX7_joins_175 : decode cX7_joins 175 = .ok (.iload_n 3, 1) := dc_of dtX7_joins_175_3_ok (i := 0) rfl
theorem dX7_joins_176 : decode cX7_joins 176 = .ok (.invokevirtual 301, 3) := dc_of dtX7_joins_175_3_ok (i := 1) rfl
theorem dX7_joins_179 : decode cX7_joins 179 = .ok (.istore 12, 2) := dc_of dtX7_joins_175_3_ok (i := 2) rfl
theorem dX7_joins_181 : decode cX7_joins 181 = .ok (.iconst 0, 1) := dc_of dtX7_joins_175_3_ok (i := 3) rfl
theorem dX7_joins_182 : decode cX7_joins 182 = .ok (.istore 13, 2) := dc_of dtX7_joins_175_3_ok (i := 4) rfl
theorem dX7_joins_184 : decode cX7_joins 184 = .ok (.iload 13, 2) := dc_of dtX7_joins_175_3_ok (i := 5) rfl
theorem dX7_joins_186 : decode cX7_joins 186 = .ok (.aload_n 0, 1) := dc_of dtX7_joins_175_3_ok (i := 6) rfl
theorem dX7_joins_187 : decode cX7_joins 187 = .ok (.iload 4, 2) := dc_of dtX7_joins_175_3_ok (i := 7) rfl
theorem dX7_joins_189 : decode cX7_joins 189 = .ok (.invokevirtual 301, 3) := dc_of dtX7_joins_175_3_ok (i := 8) rfl
theorem dX7_joins_192 : decode cX7_joins 192 = .ok (.if_icmp .ge 43, 3) := dc_of dtX7_joins_175_3_ok (i := 9) rfl
theorem dX7_joins_195 : decode cX7_joins 195 = .ok (.iload 5, 2) := dc_of dtX7_joins_175_3_ok (i := 10) rfl
theorem dX7_joins_197 : decode cX7_joins 197 = .ok (.iload 13, 2) := dc_of dtX7_joins_175_3_ok (i := 11) rfl
theorem dX7_joins_199 : decode cX7_joins 199 = .ok (.ishr, 1) := dc_of dtX7_joins_175_3_ok (i := 12) rfl
theorem dX7_joins_200 : decode cX7_joins 200 = .ok (.iconst 1, 1) := dc_of dtX7_joins_175_3_ok (i := 13) rfl
theorem dX7_joins_201 : decode cX7_joins 201 = .ok (.iand, 1) := dc_of dtX7_joins_175_3_ok (i := 14) rfl
theorem dX7_joins_202 : decode cX7_joins 202 = .ok (.iconst 1, 1) := dc_of dtX7_joins_175_3_ok (i := 15) rfl
theorem dX7_joins_203 : decode cX7_joins 203 = .ok (.if_icmp .ne 6, 3) := dc_of dtX7_joins_175_3_ok (i := 16) rfl
theorem dX7_joins_206 : decode cX7_joins 206 = .ok (.goto 23, 3) := dc_of dtX7_joins_175_3_ok (i := 17) rfl
theorem dX7_joins_209 : decode cX7_joins 209 = .ok (.aload_n 0, 1) := dc_of dtX7_joins_175_3_ok (i := 18) rfl
theorem dX7_joins_210 : decode cX7_joins 210 = .ok (.getfield 45, 3) := dc_of dtX7_joins_175_3_ok (i := 19) rfl
theorem dX7_joins_213 : decode cX7_joins 213 = .ok (.iload 12, 2) := dc_of dtX7_joins_175_3_ok (i := 20) rfl
theorem dX7_joins_215 : decode cX7_joins 215 = .ok (.aload_n 0, 1) := dc_of dtX7_joins_175_3_ok (i := 21) rfl
theorem dX7_joins_216 : decode cX7_joins 216 = .ok (.getfield 24, 3) := dc_of dtX7_joins_175_3_ok (i := 22) rfl
theorem dX7_joins_219 : decode cX7_joins 219 = .ok (.iload 10, 2) := dc_of dtX7_joins_175_3_ok (i := 23) rfl
theorem dX7_joins_221 : decode cX7_joins 221 = .ok (.iload 13, 2) := dc_of dtX7_joins_175_3_ok (i := 24) rfl
theorem dX7_joins_223 : decode cX7_joins 223 = .ok (.iadd, 1) := dc_of dtX7_joins_175_3_ok (i := 25) rfl
theorem dX7_joins_224 : decode cX7_joins 224 = .ok (.iaload, 1) := dc_of dtX7_joins_175_3_ok (i := 26) rfl
theorem dX7_joins_225 : decode cX7_joins 225 = .ok (.iastore, 1) := dc_of dtX7_joins_175_3_ok (i := 27) rfl
theorem dX7_joins_226 : decode cX7_joins 226 = .ok (.iinc 12 1, 3) := dc_of dtX7_joins_175_3_ok (i := 28) rfl
theorem dX7_joins_229 : decode cX7_joins 229 = .ok (.iinc 13 1, 3) := dc_of dtX7_joins_175_3_ok (i := 29) rfl
theorem dX7_joins_232 : decode cX7_joins 232 = .ok (.goto (-48), 3) := dc_of dtX7_joins_175_3_ok (i := 30) rfl
theorem dX7_joins_235 : decode cX7_joins 235 = .ok (.aload_n 0, 1) := dc_of dtX7_joins_175_3_ok (i := 31) rfl
def dtX7_joins_236_4 : List (Nat × Instr × Nat) := [(236, .aload_n 0, 1), (237, .getfield 24, 3), (240, .iload 9, 2), (242, .iconst 4, 1), (243, .iadd, 1), (244, .iaload, 1), (245, .aload_n 0, 1), (246, .getfield 24, 3), (249, .iload 10, 2), (251, .iconst 4, 1), (252, .iadd, 1), (253, .iaload, 1), (254, .imul, 1), (255, .iconst 0, 1), (256, .invokevirtual 304, 3), (259, .istore 13, 2), (261, .iload 13, 2), (263, .ifCond .eq 16, 3), (266, .aload_n 0, 1), (267, .getfield 269, 3), (270, .sipush 1598, 3), (273, .if_icmp .le 6, 3), (276, .bipush (-3), 2), (278, .ireturn, 1), (279, .iinc 8 1, 3), (282, .goto (-236), 3), (285, .iinc 7 1, 3), (288, .goto (-256), 3), (291, .iconst 0, 1), (292, .ireturn, 1)]
theorem dtX7_joins_236_4_ok : dcAll cX7_joins dtX7_joins_236_4 = true := by decide +kernel
theorem dX7_joins_236 : decode cX7_joins 236 = .ok (.aload_n 0, 1) := dc_of dtX7_joins_236_4_ok (i := 0) rfl
theorem dX7_joins_237 : decode cX7_joins 237 = .ok (.getfield 24, 3) := dc_of dtX7_joins_236_4_ok (i := 1) rfl
theorem dX7_joins_240 : decode cX7_joins 240 = .ok (.iload 9, 2) := dc_of dtX7_joins_236_4_ok (i := 2) rfl
theorem dX7_joins_242 : decode cX7_joins 242 = .ok (.iconst 4, 1) := dc_of dtX7_joins_236_4_ok (i := 3) rfl
theorem dX7_joins_243 : decode cX7_joins 243 = .ok (.iadd, 1) := dc_of dtX7_joins_236_4_ok (i := 4) rfl
theorem dX7_joins_244 : decode cX7_joins 244 = .ok (.iaload, 1) := dc_of dtX7_joins_236_4_ok (i := 5) rfl
theorem dX7_joins_245 : decode cX7_joins 245 = .ok (.aload_n 0, 1) := dc_of dtX7_joins_236_4_ok (i := 6) rfl
theorem dX7_joins_246 : decode cX7_joins 246 = .ok (.getfield 24, 3) := dc_of dtX7_joins_236_4_ok (i := 7) rfl
theorem dX7_joins_249 : decode cX7_joins 249 = .ok (.iload 10, 2) := dc_of dtX7_joins_236_4_ok (i := 8) rfl
theorem dX7_joins_251 : decode cX7_joins 251 = .ok (.iconst 4, 1) := dc_of dtX7_joins_236_4_ok (i := 9) rfl
theorem dX7_joins_252 : decode cX7_joins 252 = .ok (.iadd, 1) := dc_of dtX7_joins_236_4_ok (i := 10) rfl
theorem dX7_joins_253 : decode cX7_joins 253 = .ok (.iaload, 1) := dc_of dtX7_joins_236_4_ok (i := 11) rfl
theorem dX7_joins_254 : decode cX7_joins 254 = .ok (.imul, 1) := dc_of dtX7_joins_236_4_ok (i := 12) rfl
theorem dX7_joins_255 : decode cX7_joins 255 = .ok (.iconst 0, 1) := dc_of dtX7_joins_236_4_ok (i := 13) rfl
theorem dX7_joins_256 : decode cX7_joins 256 = .ok (.invokevirtual 304, 3) := dc_of dtX7_joins_236_4_ok (i := 14) rfl
theorem dX7_joins_259 : decode cX7_joins 259 = .ok (.istore 13, 2) := dc_of dtX7_joins_236_4_ok (i := 15) rfl
theorem dX7_joins_261 : decode cX7_joins 261 = .ok (.iload 13, 2) := dc_of dtX7_joins_236_4_ok (i := 16) rfl
theorem dX7_joins_263 : decode cX7_joins 263 = .ok (.ifCond .eq 16, 3) := dc_of dtX7_joins_236_4_ok (i := 17) rfl
theorem dX7_joins_266 : decode cX7_joins 266 = .ok (.aload_n 0, 1) := dc_of dtX7_joins_236_4_ok (i := 18) rfl
theorem dX7_joins_267 : decode cX7_joins 267 = .ok (.getfield 269, 3) := dc_of dtX7_joins_236_4_ok (i := 19) rfl
theorem dX7_joins_270 : decode cX7_joins 270 = .ok (.sipush 1598, 3) := dc_of dtX7_joins_236_4_ok (i := 20) rfl
theorem dX7_joins_273 : decode cX7_joins 273 = .ok (.if_icmp .le 6, 3) := dc_of dtX7_joins_236_4_ok (i := 21) rfl
theorem dX7_joins_276 : decode cX7_joins 276 = .ok (.bipush (-3), 2) := dc_of dtX7_joins_236_4_ok (i := 22) rfl
theorem dX7_joins_278 : decode cX7_joins 278 = .ok (.ireturn, 1) := dc_of dtX7_joins_236_4_ok (i := 23) rfl
theorem dX7_joins_279 : decode cX7_joins 279 = .ok (.iinc 8 1, 3) := dc_of dtX7_joins_236_4_ok (i := 24) rfl
theorem dX7_joins_282 : decode cX7_joins 282 = .ok (.goto (-236), 3) := dc_of dtX7_joins_236_4_ok (i := 25) rfl
theorem dX7_joins_285 : decode cX7_joins 285 = .ok (.iinc 7 1, 3) := dc_of dtX7_joins_236_4_ok (i := 26) rfl
theorem dX7_joins_288 : decode cX7_joins 288 = .ok (.goto (-256), 3) := dc_of dtX7_joins_236_4_ok (i := 27) rfl
theorem dX7_joins_291 : decode cX7_joins 291 = .ok (.iconst 0, 1) := dc_of dtX7_joins_236_4_ok (i := 28) rfl
theorem dX7_joins_292 : decode cX7_joins 292 = .ok (.ireturn, 1) := dc_of dtX7_joins_236_4_ok (i := 29) rfl
def dtX7_groups_0_0 : List (Nat × Instr × Nat) := [(0, .aload_n 0, 1), (1, .iload_n 2, 1), (2, .invokevirtual 289, 3), (5, .istore_n 3, 1), (6, .aload_n 0, 1), (7, .iload_n 2, 1), (8, .invokevirtual 283, 3), (11, .istore 4, 2), (13, .aload_n 0, 1), (14, .iload_n 2, 1), (15, .iload 4, 2), (17, .iconst 1, 1), (18, .invokevirtual 286, 3), (21, .istore 5, 2), (23, .aload_n 0, 1), (24, .iload_n 2, 1), (25, .iload 4, 2), (27, .iconst 0, 1), (28, .invokevirtual 286, 3), (31, .istore 6, 2), (33, .iconst 0, 1), (34, .istore 7, 2), (36, .iload 7, 2), (38, .aload_n 0, 1), (39, .iload_n 1, 1), (40, .iload_n 3, 1), (41, .invokevirtual 295, 3), (44, .if_icmp .ge 260, 3), (47, .iload_n 1, 1), (48, .iload_n 3, 1), (49, .iload 7, 2), (51, .invokestatic 279, 3)]
theorem dtX7_groups_0_0_ok : dcAll cX7_groups dtX7_groups_0_0 = true := by decide +kernel
theorem dX7_groups_0 : decode cX7_groups 0 = .ok (.aload_n 0, 1) := dc_of dtX7_groups_0_0_ok (i := 0) rfl
theorem dX7_groups_1 : decode cX7_groups 1 = .ok (.iload_n 2, 1) := dc_of dtX7_groups_0_0_ok (i := 1) rfl
theorem dX7_groups_2 : decode cX7_groups 2 = .ok (.invokevirtual 289, 3) := dc_of dtX7_groups_0_0_ok (i := 2) rfl
theorem dX7_groups_5 : decode cX7_groups 5 = .ok (.istore_n 3, 1) := dc_of dtX7_groups_0_0_ok (i := 3) rfl
theorem dX7_groups_6 : decode cX7_groups 6 = .ok (.aload_n 0, 1) := dc_of dtX7_groups_0_0_ok (i := 4) rfl
theorem dX7_groups_7 : decode cX7_groups 7 = .ok (.iload_n 2, 1) := dc_of dtX7_groups_0_0_ok (i := 5) rfl
theorem dX7_groups_8 : decode cX7_groups 8 = .ok (.invokevirtual 283, 3) := dc_of dtX7_groups_0_0_ok (i := 6) rfl
theorem dX7_groups_11 : decode cX7_groups 11 = .ok (.istore 4, 2) := dc_of dtX7_groups_0_0_ok (i := 7) rfl
theorem dX7_groups_13 : decode cX7_groups 13 = .ok (.aload_n 0, 1) := dc_of dtX7_groups_0_0_ok (i := 8) rfl
theorem dX7_groups_14 : decode cX7_groups 14 = .ok (.iload_n 2, 1) := dc_of dtX7_groups_0_0_ok (i := 9) rfl
theorem dX7_groups_15 : decode cX7_groups 15 = .ok (.iload 4, 2) := dc_of dtX7_groups_0_0_ok (i := 10) rfl
theorem dX7_groups_17 : decode cX7_groups 17 = .ok (.iconst 1, 1) := dc_of dtX7_groups_0_0_ok (i := 11) rfl
theorem dX7_groups_18 : decode cX7_groups 18 = .ok (.invokevirtual 286, 3) := dc_of dtX7_groups_0_0_ok (i := 12) rfl
theorem dX7_groups_21 : decode cX7_groups 21 = .ok (.istore 5, 2) := dc_of dtX7_groups_0_0_ok (i := 13) rfl
theorem dX7_groups_23 : decode cX7_groups 23 = .ok (.aload_n 0, 1) := dc_of dtX7_groups_0_0_ok (i := 14) rfl
theorem dX7_groups_24 : decode cX7_groups 24 = .ok (.iload_n 2, 1) := dc_of dtX7_groups_0_0_ok (i := 15) rfl
theorem dX7_groups_25 : decode cX7_groups 25 = .ok (.iload 4, 2) := dc_of dtX7_groups_0_0_ok (i := 16) rfl
theorem dX7_groups_27 : decode cX7_groups 27 = .ok (.iconst 0, 1) := dc_of dtX7_groups_0_0_ok (i := 17) rfl
theorem dX7_groups_28 : decode cX7_groups 28 = .ok (.invokevirtual 286, 3) := dc_of dtX7_groups_0_0_ok (i := 18) rfl
theorem dX7_groups_31 : decode cX7_groups 31 = .ok (.istore 6, 2) := dc_of dtX7_groups_0_0_ok (i := 19) rfl
theorem dX7_groups_33 : decode cX7_groups 33 = .ok (.iconst 0, 1) := dc_of dtX7_groups_0_0_ok (i := 20) rfl
theorem dX7_groups_34 : decode cX7_groups 34 = .ok (.istore 7, 2) := dc_of dtX7_groups_0_0_ok (i := 21) rfl
theorem dX7_groups_36 : decode cX7_groups 36 = .ok (.iload 7, 2) := dc_of dtX7_groups_0_0_ok (i := 22) rfl
theorem dX7_groups_38 : decode cX7_groups 38 = .ok (.aload_n 0, 1) := dc_of dtX7_groups_0_0_ok (i := 23) rfl
theorem dX7_groups_39 : decode cX7_groups 39 = .ok (.iload_n 1, 1) := dc_of dtX7_groups_0_0_ok (i := 24) rfl
theorem dX7_groups_40 : decode cX7_groups 40 = .ok (.iload_n 3, 1) := dc_of dtX7_groups_0_0_ok (i := 25) rfl
theorem dX7_groups_41 : decode cX7_groups 41 = .ok (.invokevirtual 295, 3) := dc_of dtX7_groups_0_0_ok (i := 26) rfl
theorem dX7_groups_44 : decode cX7_groups 44 = .ok (.if_icmp .ge 260, 3) := dc_of dtX7_groups_0_0_ok (i := 27) rfl
theorem dX7_groups_47 : decode cX7_groups 47 = .ok (.iload_n 1, 1) := dc_of dtX7_groups_0_0_ok (i := 28) rfl
theorem dX7_groups_48 : decode cX7_groups 48 = .ok (.iload_n 3, 1) := dc_of dtX7_groups_0_0_ok (i := 29) rfl
theorem dX7_groups_49 : decode cX7_groups 49 = .ok (.iload 7, 2) := dc_of dtX7_groups_0_0_ok (i := 30) rfl
theorem dX7_groups_51 : decode cX7_groups 51 = .ok (.invokestatic 279, 3) := dc_of dtX7_groups_0_0_ok (i := 31) rfl
def dtX7_groups_54_1 : List (Nat × Instr × Nat) := [(54, .istore 8, 2), (56, .aload_n 0, 1), (57, .iload_n 1, 1), (58, .iload_n 2, 1), (59, .iload 7, 2), (61, .invokevirtual 308, 3), (64, .ifCond .ne 6, 3), (67, .goto 231, 3), (70, .iconst 0, 1), (71, .istore 9, 2), (73, .iconst 0, 1), (74, .istore 10, 2), (76, .iload 7, 2), (78, .istore 11, 2), (80, .iload 11, 2), (82, .aload_n 0, 1), (83, .iload_n 1, 1), (84, .iload_n 3, 1), (85, .invokevirtual 295, 3), (88, .if_icmp .ge 133, 3), (91, .iload_n 1, 1), (92, .iload_n 3, 1), (93, .iload 11, 2), (95, .invokestatic 279, 3), (98, .istore 12, 2), (100, .aload_n 0, 1), (101, .iload_n 2, 1), (102, .iload 8, 2), (104, .iload 12, 2), (106, .invokevirtual 311, 3), (109, .ifCond .ne 6, 3), (112, .goto 103, 3)]
theorem dtX7_groups_54_1_ok : dcAll cX7_groups dtX7_groups_54_1 = true := by decide +kernel
theorem dX7_groups_54 : decode cX7_groups 54 = .ok (.istore 8, 2) := dc_of dtX7_groups_54_1_ok (i := 0) rfl
theorem dX7_groups_56 : decode cX7_groups 56 = .ok (.aload_n 0, 1) := dc_of dtX7_groups_54_1_ok (i := 1) rfl
theorem dX7_groups_57 : decode cX7_groups 57 = .ok (.iload_n 1, 1) := dc_of dtX7_groups_54_1_ok (i := 2) rfl
theorem dX7_groups_58 : decode cX7_groups 58 = .ok (.iload_n 2, 1) := dc_of dtX7_groups_54_1_ok (i := 3) rfl
theorem dX7_groups_59 : decode cX7_groups 59 = .ok (.iload 7, 2) := dc_of dtX7_groups_54_1_ok (i := 4) rfl
theorem dX7_groups_61 : decode cX7_groups 61 = .ok (.invokevirtual 308, 3) := dc_of dtX7_groups_54_1_ok (i := 5) rfl
theorem dX7_groups_64 : decode cX7_groups 64 = .ok (.ifCond .ne 6, 3) := dc_of dtX7_groups_54_1_ok (i := 6) rfl
theorem dX7_groups_67 : decode cX7_groups 67 = .ok (.goto 231, 3) := dc_of dtX7_groups_54_1_ok (i := 7) rfl
theorem dX7_groups_70 : decode cX7_groups 70 = .ok (.iconst 0, 1) := dc_of dtX7_groups_54_1_ok (i := 8) rfl
theorem dX7_groups_71 : decode cX7_groups 71 = .ok (.istore 9, 2) := dc_of dtX7_groups_54_1_ok (i := 9) rfl
theorem dX7_groups_73 : decode cX7_groups 73 = .ok (.iconst 0, 1) := dc_of dtX7_groups_54_1_ok (i := 10) rfl
theorem dX7_groups_74 : decode cX7_groups 74 = .ok (.istore 10, 2) := dc_of dtX7_groups_54_1_ok (i := 11) rfl
theorem dX7_groups_76 : decode cX7_groups 76 = .ok (.iload 7, 2) := dc_of dtX7_groups_54_1_ok (i := 12) rfl
theorem dX7_groups_78 : decode cX7_groups 78 = .ok (.istore 11, 2) := dc_of dtX7_groups_54_1_ok (i := 13) rfl
theorem dX7_groups_80 : decode cX7_groups 80 = .ok (.iload 11, 2) := dc_of dtX7_groups_54_1_ok (i := 14) rfl
theorem dX7_groups_82 : decode cX7_groups 82 = .ok (.aload_n 0, 1) := dc_of dtX7_groups_54_1_ok (i := 15) rfl
theorem dX7_groups_83 : decode cX7_groups 83 = .ok (.iload_n 1, 1) := dc_of dtX7_groups_54_1_ok (i := 16) rfl
theorem dX7_groups_84 : decode cX7_groups 84 = .ok (.iload_n 3, 1) := dc_of dtX7_groups_54_1_ok (i := 17) rfl
theorem dX7_groups_85 : decode cX7_groups 85 = .ok (.invokevirtual 295, 3) := dc_of dtX7_groups_54_1_ok (i := 18) rfl
theorem dX7_groups_88 : decode cX7_groups 88 = .ok (.if_icmp .ge 133, 3) := dc_of dtX7_groups_54_1_ok (i := 19) rfl
theorem dX7_groups_91 : decode cX7_groups 91 = .ok (.iload_n 1, 1) := dc_of dtX7_groups_54_1_ok (i := 20) rfl
theorem dX7_groups_92 : decode cX7_groups 92 = .ok (.iload_n 3, 1) := dc_of dtX7_groups_54_1_ok (i := 21) rfl
theorem dX7_groups_93 : decode cX7_groups 93 = .ok (.iload 11, 2) := dc_of dtX7_groups_54_1_ok (i := 22) rfl
theorem dX7_groups_95 : decode cX7_groups 95 = .ok (.invokestatic 279, 3) := dc_of dtX7_groups_54_1_ok (i := 23) rfl
theorem dX7_groups_98 : decode cX7_groups 98 = .ok (.istore 12, 2) := dc_of dtX7_groups_54_1_ok (i := 24) rfl
theorem dX7_groups_100 : decode cX7_groups 100 = .ok (.aload_n 0, 1) := dc_of dtX7_groups_54_1_ok (i := 25) rfl
theorem dX7_groups_101 : decode cX7_groups 101 = .ok (.iload_n 2, 1) := dc_of dtX7_groups_54_1_ok (i := 26) rfl
theorem dX7_groups_102 : decode cX7_groups 102 = .ok (.iload 8, 2) := dc_of dtX7_groups_54_1_ok (i := 27) rfl
theorem dX7_groups_104 : decode cX7_groups 104 = .ok (.iload 12, 2) := dc_of dtX7_groups_54_1_ok (i := 28) rfl
theorem dX7_groups_106 : decode cX7_groups 106 = .ok (.invokevirtual 311, 3) := dc_of dtX7_groups_54_1_ok (i := 29) rfl
theorem dX7_groups_109 : decode cX7_groups 109 = .ok (.ifCond .ne 6, 3) := dc_of dtX7_groups_54_1_ok (i := 30) rfl
theorem dX7_groups_112 : decode cX7_groups 112 = .ok (.goto 103, 3) := dc_of dtX7_groups_54_1_ok (i := 31) rfl
def dtX7_groups_115_2 : List (Nat × Instr × Nat) := [(115, .aload_n 0, 1), (116, .getfield 24, 3), (119, .iload 12, 2), (121, .iload 6, 2), (123, .iadd, 1), (124, .iaload, 1), (125, .istore 13, 2), (127, .aload_n 0, 1), (128, .getfield 24, 3), (131, .iload 12, 2), (133, .iconst 4, 1), (134, .iadd, 1), (135, .iaload, 1), (136, .istore 14, 2), (138, .iload 5, 2), (140, .ifCond .ne 10, 3), (143, .iload 9, 2), (145, .iload 14, 2), (147, .iadd, 1), (148, .istore 9, 2), (150, .iload 5, 2), (152, .iconst 1, 1), (153, .if_icmp .ne 13, 3), (156, .iload 9, 2), (158, .iload 14, 2), (160, .iload 13, 2), (162, .imul, 1), (163, .iadd, 1), (164, .istore 9, 2), (166, .iload 5, 2), (168, .iconst 2, 1), (169, .if_icmp .lt 46, 3)]
theorem dtX7_groups_115_2_ok : dcAll cX7_groups dtX7_groups_115_2 = true := by decide +kernel
theorem dX7_groups_115 : decode cX7_groups 115 = .ok (.aload_n 0, 1) := dc_of dtX7_groups_115_2_ok (i := 0) rfl
theorem dX7_groups_116 : decode cX7_groups 116 = .ok (.getfield 24, 3) := dc_of dtX7_groups_115_2_ok (i := 1) rfl
theorem dX7_groups_119 : decode cX7_groups 119 = .ok (.iload 12, 2) := dc_of dtX7_groups_115_2_ok (i := 2) rfl
theorem dX7_groups_121 : decode cX7_groups 121 = .ok (.iload 6, 2) := dc_of dtX7_groups_115_2_ok (i := 3) rfl
theorem dX7_groups_123 : decode cX7_groups 123 = .ok (.iadd, 1) := dc_of dtX7_groups_115_2_ok (i := 4) rfl
theorem dX7_groups_124 : decode cX7_groups 124 = .ok (.iaload, 1) := dc_of dtX7_groups_115_2_ok (i := 5) rfl
theorem dX7_groups_125 : decode cX7_groups 125 = .ok (.istore 13, 2) := dc_of dtX7_groups_115_2_ok (i := 6) rfl
theorem dX7_groups_127 : decode cX7_groups 127 = .ok (.aload_n 0, 1) := dc_of dtX7_groups_115_2_ok (i := 7) rfl
theorem dX7_groups_128 : decode cX7_groups 128 = .ok (.getfield 24, 3) := dc_of dtX7_groups_115_2_ok (i := 8) rfl
theorem dX7_groups_131 : decode cX7_groups 131 = .ok (.iload 12, 2) := dc_of dtX7_groups_115_2_ok (i := 9) rfl
theorem dX7_groups_133 : decode cX7_groups 133 = .ok (.iconst 4, 1) := dc_of dtX7_groups_115_2_ok (i := 10) rfl
theorem dX7_groups_134 : decode cX7_groups 134 = .ok (.iadd, 1) := dc_of dtX7_groups_115_2_ok (i := 11) rfl
theorem dX7_groups_135 : decode cX7_groups 135 = .ok (.iaload, 1) := dc_of dtX7_groups_115_2_ok (i := 12) rfl
theorem dX7_groups_136 : decode cX7_groups 136 = .ok (.istore 14, 2) := dc_of dtX7_groups_115_2_ok (i := 13) rfl
theorem dX7_groups_138 : decode cX7_groups 138 = .ok (.iload 5, 2) := dc_of dtX7_groups_115_2_ok (i := 14) rfl
theorem dX7_groups_140 : decode cX7_groups 140 = .ok (.ifCond .ne 10, 3) := dc_of dtX7_groups_115_2_ok (i := 15) rfl
theorem dX7_groups_143 : decode cX7_groups 143 = .ok (.iload 9, 2) := dc_of dtX7_groups_115_2_ok (i := 16) rfl
theorem dX7_groups_145 : decode cX7_groups 145 = .ok (.iload 14, 2) := dc_of dtX7_groups_115_2_ok (i := 17) rfl
theorem dX7_groups_147 : decode cX7_groups 147 = .ok (.iadd, 1) := dc_of dtX7_groups_115_2_ok (i := 18) rfl
theorem dX7_groups_148 : decode cX7_groups 148 = .ok (.istore 9, 2) := dc_of dtX7_groups_115_2_ok (i := 19) rfl
theorem dX7_groups_150 : decode cX7_groups 150 = .ok (.iload 5, 2) := dc_of dtX7_groups_115_2_ok (i := 20) rfl
theorem dX7_groups_152 : decode cX7_groups 152 = .ok (.iconst 1, 1) := dc_of dtX7_groups_115_2_ok (i := 21) rfl
theorem dX7_groups_153 : decode cX7_groups 153 = .ok (.if_icmp .ne 13, 3) := dc_of dtX7_groups_115_2_ok (i := 22) rfl
theorem dX7_groups_156 : decode cX7_groups 156 = .ok (.iload 9, 2) := dc_of dtX7_groups_115_2_ok (i := 23) rfl
theorem dX7_groups_158 : decode cX7_groups 158 = .ok (.iload 14, 2) := dc_of dtX7_groups_115_2_ok (i := 24) rfl
theorem dX7_groups_160 : decode cX7_groups 160 = .ok (.iload 13, 2) := dc_of dtX7_groups_115_2_ok (i := 25) rfl
theorem dX7_groups_162 : decode cX7_groups 162 = .ok (.imul, 1) := dc_of dtX7_groups_115_2_ok (i := 26) rfl
theorem dX7_groups_163 : decode cX7_groups 163 = .ok (.iadd, 1) := dc_of dtX7_groups_115_2_ok (i := 27) rfl
theorem dX7_groups_164 : decode cX7_groups 164 = .ok (.istore 9, 2) := dc_of dtX7_groups_115_2_ok (i := 28) rfl
theorem dX7_groups_166 : decode cX7_groups 166 = .ok (.iload 5, 2) := dc_of dtX7_groups_115_2_ok (i := 29) rfl
theorem dX7_groups_168 : decode cX7_groups 168 = .ok (.iconst 2, 1) := dc_of dtX7_groups_115_2_ok (i := 30) rfl
theorem dX7_groups_169 : decode cX7_groups 169 = .ok (.if_icmp .lt 46, 3) := dc_of dtX7_groups_115_2_ok (i := 31) rfl
def dtX7_groups_172_3 : List (Nat × Instr × Nat) := [(172, .iload 14, 2), (174, .ifCond .gt 6, 3), (177, .goto 38, 3), (180, .iload 10, 2), (182, .ifCond .eq 26, 3), (185, .iload 5, 2), (187, .iconst 2, 1), (188, .if_icmp .ne 13, 3), (191, .iload 13, 2), (193, .iload 9, 2), (195, .if_icmp .ge 17, 3), (198, .goto 10, 3), (201, .iload 13, 2), (203, .iload 9, 2), (205, .if_icmp .le 7, 3), (208, .iload 13, 2), (210, .istore 9, 2), (212, .iconst 1, 1), (213, .istore 10, 2), (215, .iinc 11 1, 3), (218, .goto (-138), 3), (221, .iconst 0, 1), (222, .istore 11, 2), (224, .iload 11, 2), (226, .iconst 4, 1), (227, .if_icmp .ge 55, 3), (230, .aload_n 0, 1), (231, .getfield 45, 3), (234, .iload 11, 2), (236, .iload 11, 2), (238, .iload 4, 2), (240, .if_icmp .ge 22, 3)]
theorem dtX7_groups_172_3_ok : dcAll cX7_groups dtX7_groups_172_3 = true := by decide +kernel
theorem dX7_groups_172 : decode cX7_groups 172 = .ok (.iload 14, 2) := dc_of dtX7_groups_172_3_ok (i := 0) rfl
theorem dX7_groups_174 : decode cX7_groups 174 = .ok (.ifCond .gt 6, 3) := dc_of dtX7_groups_172_3_ok (i := 1) rfl
theorem dX7_groups_177 : decode cX7_groups 177 = .ok (.goto 38, 3) := dc_of dtX7_groups_172_3_ok (i := 2) rfl
theorem dX7_groups_180 : decode cX7_groups 180 = .ok (.iload 10, 2) := dc_of dtX7_groups_172_3_ok (i := 3) rfl
theorem dX7_groups_182 : decode cX7_groups 182 = .ok (.ifCond .eq 26, 3) := dc_of dtX7_groups_172_3_ok (i := 4) rfl
theorem dX7_groups_185 : decode cX7_groups 185 = .ok (.iload 5, 2) := dc_of dtX7_groups_172_3_ok (i := 5) rfl
theorem dX7_groups_187 : decode cX7_groups 187 = .ok (.iconst 2, 1) := dc_of dtX7_groups_172_3_ok (i := 6) rfl
theorem dX7_groups_188 : decode cX7_groups 188 = .ok (.if_icmp .ne 13, 3) := dc_of dtX7_groups_172_3_ok (i := 7) rfl
theorem dX7_groups_191 : decode cX7_groups 191 = .ok (.iload 13, 2) := dc_of dtX7_groups_172_3_ok (i := 8) rfl
theorem dX7_groups_193 : decode cX7_groups 193 = .ok (.iload 9, 2) := dc_of dtX7_groups_172_3_ok (i := 9) rfl
theorem dX7_groups_195 : decode cX7_groups 195 = .ok (.if_icmp .ge 17, 3) := dc_of dtX7_groups_172_3_ok (i := 10) rfl
theorem dX7_groups_198 : decode cX7_groups 198 = .ok (.goto 10, 3) := dc_of dtX7_groups_172_3_ok (i := 11) rfl
theorem dX7_groups_201 : decode cX7_groups 201 = .ok (.iload 13, 2) := dc_of dtX7_groups_172_3_ok (i := 12) rfl
theorem dX7_groups_203 : decode cX7_groups 203 = .ok (.iload 9, 2) := dc_of dtX7_groups_172_3_ok (i := 13) rfl
theorem dX7_groups_205 : decode cX7_groups 205 = .ok (.if_icmp .le 7, 3) := dc_of dtX7_groups_172_3_ok (i := 14) rfl
theorem dX7_groups_208 : decode cX7_groups 208 = .ok (.iload 13, 2) := dc_of dtX7_groups_172_3_ok (i := 15) rfl
theorem dX7_groups_210 : decode cX7_groups 210 = .ok (.istore 9, 2) := dc_of dtX7_groups_172_3_ok (i := 16) rfl
theorem dX7_groups_212 : decode cX7_groups 212 = .ok (.iconst 1, 1) := dc_of dtX7_groups_172_3_ok (i := 17) rfl
theorem dX7_groups_213 : decode cX7_groups 213 = .ok (.istore 10, 2) := dc_of dtX7_groups_172_3_ok (i := 18) rfl
theorem dX7_groups_215 : decode cX7_groups 215 = .ok (.iinc 11 1, 3) := dc_of dtX7_groups_172_3_ok (i := 19) rfl
theorem dX7_groups_218 : decode cX7_groups 218 = .ok (.goto (-138), 3) := dc_of dtX7_groups_172_3_ok (i := 20) rfl
theorem dX7_groups_221 : decode cX7_groups 221 = .ok (.iconst 0, 1) := dc_of dtX7_groups_172_3_ok (i := 21) rfl
theorem dX7_groups_222 : decode cX7_groups 222 = .ok (.istore 11, 2) := dc_of dtX7_groups_172_3_ok (i := 22) rfl
theorem dX7_groups_224 : decode cX7_groups 224 = .ok (.iload 11, 2) := dc_of dtX7_groups_172_3_ok (i := 23) rfl
theorem dX7_groups_226 : decode cX7_groups 226 = .ok (.iconst 4, 1) := dc_of dtX7_groups_172_3_ok (i := 24) rfl
theorem dX7_groups_227 : decode cX7_groups 227 = .ok (.if_icmp .ge 55, 3) := dc_of dtX7_groups_172_3_ok (i := 25) rfl
theorem dX7_groups_230 : decode cX7_groups 230 = .ok (.aload_n 0, 1) := dc_of dtX7_groups_172_3_ok (i := 26) rfl
theorem dX7_groups_231 : decode cX7_groups 231 = .ok (.getfield 45, 3) := dc_of dtX7_groups_172_3_ok (i := 27) rfl
theorem dX7_groups_234 : decode cX7_groups 234 = .ok (.iload 11, 2) := dc_of dtX7_groups_172_3_ok (i := 28) rfl
theorem dX7_groups_236 : decode cX7_groups 236 = .ok (.iload 11, 2) := dc_of dtX7_groups_172_3_ok (i := 29) rfl
theorem dX7_groups_238 : decode cX7_groups 238 = .ok (.iload 4, 2) := dc_of dtX7_groups_172_3_ok (i := 30) rfl
theorem dX7_groups_240 : decode cX7_groups 240 = .ok (.if_icmp .ge 22, 3) := dc_of dtX7_groups_172_3_ok (i := 31) rfl
def dtX7_groups_243_4 : List (Nat × Instr × Nat) := [(243, .aload_n 0, 1), (244, .getfield 24, 3), (247, .iload 8, 2), (249, .aload_n 0, 1), (250, .iload_n 2, 1), (251, .iload 11, 2), (253, .iconst 0, 1), (254, .invokevirtual 286, 3), (257, .iadd, 1), (258, .iaload, 1), (259, .goto 16, 3), (262, .iload 11, 2), (264, .iload 4, 2), (266, .if_icmp .ne 8, 3), (269, .iload 9, 2), (271, .goto 4, 3), (274, .iconst 0, 1), (275, .iastore, 1), (276, .iinc 11 1, 3), (279, .goto (-55), 3), (282, .aload_n 0, 1), (283, .iconst 1, 1), (284, .iconst 0, 1), (285, .invokevirtual 304, 3), (288, .istore 11, 2), (290, .iload 11, 2), (292, .ifCond .ne 6, 3), (295, .iconst 0, 1), (296, .istore 9, 2), (298, .iinc 7 1, 3), (301, .goto (-265), 3), (304, .return_, 1)]
theorem dtX7_groups_243_4_ok : dcAll cX7_groups dtX7_groups_243_4 = true := by decide +kernel
theorem dX7_groups_243 : decode cX7_groups 243 = .ok (.aload_n 0, 1) := dc_of dtX7_groups_243_4_ok (i := 0) rfl
theorem dX7_groups_244 : decode cX7_groups 244 = .ok (.getfield 24, 3) := dc_of dtX7_groups_243_4_ok (i := 1) rfl
theorem dX7_groups_247 : decode cX7_groups 247 = .ok (.iload 8, 2) := dc_of dtX7_groups_243_4_ok (i := 2) rfl
theorem dX7_groups_249 : decode cX7_groups 249 = .ok (.aload_n 0, 1) := dc_of dtX7_groups_243_4_ok (i := 3) rfl
theorem dX7_groups_250 : decode cX7_groups 250 = .ok (.iload_n 2, 1) := dc_of dtX7_groups_243_4_ok (i := 4) rfl
theorem dX7_groups_251 : decode cX7_groups 251 = .ok (.iload 11, 2) := dc_of dtX7_groups_243_4_ok (i := 5) rfl
theorem dX7_groups_253 : decode cX7_groups 253 = .ok (.iconst 0, 1) := dc_of dtX7_groups_243_4_ok (i := 6) rfl
theorem dX7_groups_254 : decode cX7_groups 254 = .ok (.invokevirtual 286, 3) := dc_of dtX7_groups_243_4_ok (i := 7) rfl
theorem dX7_groups_257 : decode cX7_groups 257 = .ok (.iadd, 1) := dc_of dtX7_groups_243_4_ok (i := 8) rfl
theorem dX7_groups_258 : decode cX7_groups 258 = .ok (.iaload, 1) := dc_of dtX7_groups_243_4_ok (i := 9) rfl
theorem dX7_groups_259 : decode cX7_groups 259 = .ok (.goto 16, 3) := dc_of dtX7_groups_243_4_ok (i := 10) rfl
theorem dX7_groups_262 : decode cX7_groups 262 = .ok (.iload 11, 2) := dc_of dtX7_groups_243_4_ok (i := 11) rfl
theorem dX7_groups_264 : decode cX7_groups 264 = .ok (.iload 4, 2) := dc_of dtX7_groups_243_4_ok (i := 12) rfl
theorem dX7_groups_266 : decode cX7_groups 266 = .ok (.if_icmp .ne 8, 3) := dc_of dtX7_groups_243_4_ok (i := 13) rfl
theorem dX7_groups_269 : decode cX7_groups 269 = .ok (.iload 9, 2) := dc_of dtX7_groups_243_4_ok (i := 14) rfl
theorem dX7_groups_271 : decode cX7_groups 271 = .ok (.goto 4, 3) := dc_of dtX7_groups_243_4_ok (i := 15) rfl
theorem dX7_groups_274 : decode cX7_groups 274 = .ok (.iconst 0, 1) := dc_of dtX7_groups_243_4_ok (i := 16) rfl
theorem dX7_groups_275 : decode cX7_groups 275 = .ok (.iastore, 1) := dc_of dtX7_groups_243_4_ok (i := 17) rfl
theorem dX7_groups_276 : decode cX7_groups 276 = .ok (.iinc 11 1, 3) := dc_of dtX7_groups_243_4_ok (i := 18) rfl
theorem dX7_groups_279 : decode cX7_groups 279 = .ok (.goto (-55), 3) := dc_of dtX7_groups_243_4_ok (i := 19) rfl
theorem dX7_groups_282 : decode cX7_groups 282 = .ok (.aload_n 0, 1) := dc_of dtX7_groups_243_4_ok (i := 20) rfl
theorem dX7_groups_283 : decode cX7_groups 283 = .ok (.iconst 1, 1) := dc_of dtX7_groups_243_4_ok (i := 21) rfl
theorem dX7_groups_284 : decode cX7_groups 284 = .ok (.iconst 0, 1) := dc_of dtX7_groups_243_4_ok (i := 22) rfl
theorem dX7_groups_285 : decode cX7_groups 285 = .ok (.invokevirtual 304, 3) := dc_of dtX7_groups_243_4_ok (i := 23) rfl
theorem dX7_groups_288 : decode cX7_groups 288 = .ok (.istore 11, 2) := dc_of dtX7_groups_243_4_ok (i := 24) rfl
theorem dX7_groups_290 : decode cX7_groups 290 = .ok (.iload 11, 2) := dc_of dtX7_groups_243_4_ok (i := 25) rfl
theorem dX7_groups_292 : decode cX7_groups 292 = .ok (.ifCond .ne 6, 3) := dc_of dtX7_groups_243_4_ok (i := 26) rfl
theorem dX7_groups_295 : decode cX7_groups 295 = .ok (.iconst 0, 1) := dc_of dtX7_groups_243_4_ok (i := 27) rfl
theorem dX7_groups_296 : decode cX7_groups 296 = .ok (.istore 9, 2) := dc_of dtX7_groups_243_4_ok (i := 28) rfl
theorem dX7_groups_298 : decode cX7_groups 298 = .ok (.iinc 7 1, 3) := dc_of dtX7_groups_243_4_ok (i := 29) rfl
theorem dX7_groups_301 : decode cX7_groups 301 = .ok (.goto (-265), 3) := dc_of dtX7_groups_243_4_ok (i := 30) rfl
theorem dX7_groups_304 : decode cX7_groups 304 = .ok (.return_, 1) := dc_of dtX7_groups_243_4_ok (i := 31) rfl
def dtX7_areOneGroup_0_0 : List (Nat × Instr × Nat) := [(0, .iconst 0, 1), (1, .istore 4, 2), (3, .iload 4, 2), (5, .aload_n 0, 1), (6, .iload_n 1, 1), (7, .invokevirtual 283, 3), (10, .if_icmp .ge 44, 3), (13, .aload_n 0, 1), (14, .getfield 24, 3), (17, .iload_n 2, 1), (18, .aload_n 0, 1), (19, .iload_n 1, 1), (20, .iload 4, 2), (22, .iconst 0, 1), (23, .invokevirtual 286, 3), (26, .iadd, 1), (27, .iaload, 1), (28, .aload_n 0, 1), (29, .getfield 24, 3), (32, .iload_n 3, 1), (33, .aload_n 0, 1), (34, .iload_n 1, 1), (35, .iload 4, 2), (37, .iconst 0, 1), (38, .invokevirtual 286, 3), (41, .iadd, 1), (42, .iaload, 1), (43, .if_icmp .eq 5, 3), (46, .iconst 0, 1), (47, .ireturn, 1), (48, .iinc 4 1, 3), (51, .goto (-48), 3)]
theorem dtX7_areOneGroup_0_0_ok : dcAll cX7_areOneGroup dtX7_areOneGroup_0_0 = true := by decide +kernel
theorem dX7_areOneGroup_0 : decode cX7_areOneGroup 0 = .ok (.iconst 0, 1) := dc_of dtX7_areOneGroup_0_0_ok (i := 0) rfl
theorem dX7_areOneGroup_1 : decode cX7_areOneGroup 1 = .ok (.istore 4, 2) := dc_of dtX7_areOneGroup_0_0_ok (i := 1) rfl
theorem dX7_areOneGroup_3 : decode cX7_areOneGroup 3 = .ok (.iload 4, 2) := dc_of dtX7_areOneGroup_0_0_ok (i := 2) rfl
theorem dX7_areOneGroup_5 : decode cX7_areOneGroup 5 = .ok (.aload_n 0, 1) := dc_of dtX7_areOneGroup_0_0_ok (i := 3) rfl
theorem dX7_areOneGroup_6 : decode cX7_areOneGroup 6 = .ok (.iload_n 1, 1) := dc_of dtX7_areOneGroup_0_0_ok (i := 4) rfl
theorem dX7_areOneGroup_7 : decode cX7_areOneGroup 7 = .ok (.invokevirtual 283, 3) := dc_of dtX7_areOneGroup_0_0_ok (i := 5) rfl
theorem dX7_areOneGroup_10 : decode cX7_areOneGroup 10 = .ok (.if_icmp .ge 44, 3) := dc_of dtX7_areOneGroup_0_0_ok (i := 6) rfl
theorem dX7_areOneGroup_13 : decode cX7_areOneGroup 13 = .ok (.aload_n 0, 1) := dc_of dtX7_areOneGroup_0_0_ok (i := 7) rfl
theorem dX7_areOneGroup_14 : decode cX7_areOneGroup 14 = .ok (.getfield 24, 3) := dc_of dtX7_areOneGroup_0_0_ok (i := 8) rfl
theorem dX7_areOneGroup_17 : decode cX7_areOneGroup 17 = .ok (.iload_n 2, 1) := dc_of dtX7_areOneGroup_0_0_ok (i := 9) rfl
theorem dX7_areOneGroup_18 : decode cX7_areOneGroup 18 = .ok (.aload_n 0, 1) := dc_of dtX7_areOneGroup_0_0_ok (i := 10) rfl
theorem dX7_areOneGroup_19 : decode cX7_areOneGroup 19 = .ok (.iload_n 1, 1) := dc_of dtX7_areOneGroup_0_0_ok (i := 11) rfl
theorem dX7_areOneGroup_20 : decode cX7_areOneGroup 20 = .ok (.iload 4, 2) := dc_of dtX7_areOneGroup_0_0_ok (i := 12) rfl
theorem dX7_areOneGroup_22 : decode cX7_areOneGroup 22 = .ok (.iconst 0, 1) := dc_of dtX7_areOneGroup_0_0_ok (i := 13) rfl
theorem dX7_areOneGroup_23 : decode cX7_areOneGroup 23 = .ok (.invokevirtual 286, 3) := dc_of dtX7_areOneGroup_0_0_ok (i := 14) rfl
theorem dX7_areOneGroup_26 : decode cX7_areOneGroup 26 = .ok (.iadd, 1) := dc_of dtX7_areOneGroup_0_0_ok (i := 15) rfl
theorem dX7_areOneGroup_27 : decode cX7_areOneGroup 27 = .ok (.iaload, 1) := dc_of dtX7_areOneGroup_0_0_ok (i := 16) rfl
theorem dX7_areOneGroup_28 : decode cX7_areOneGroup 28 = .ok (.aload_n 0, 1) := dc_of dtX7_areOneGroup_0_0_ok (i := 17) rfl
theorem dX7_areOneGroup_29 : decode cX7_areOneGroup 29 = .ok (.getfield 24, 3) := dc_of dtX7_areOneGroup_0_0_ok (i := 18) rfl
theorem dX7_areOneGroup_32 : decode cX7_areOneGroup 32 = .ok (.iload_n 3, 1) := dc_of dtX7_areOneGroup_0_0_ok (i := 19) rfl
theorem dX7_areOneGroup_33 : decode cX7_areOneGroup 33 = .ok (.aload_n 0, 1) := dc_of dtX7_areOneGroup_0_0_ok (i := 20) rfl
theorem dX7_areOneGroup_34 : decode cX7_areOneGroup 34 = .ok (.iload_n 1, 1) := dc_of dtX7_areOneGroup_0_0_ok (i := 21) rfl
theorem dX7_areOneGroup_35 : decode cX7_areOneGroup 35 = .ok (.iload 4, 2) := dc_of dtX7_areOneGroup_0_0_ok (i := 22) rfl
theorem dX7_areOneGroup_37 : decode cX7_areOneGroup 37 = .ok (.iconst 0, 1) := dc_of dtX7_areOneGroup_0_0_ok (i := 23) rfl
theorem dX7_areOneGroup_38 : decode cX7_areOneGroup 38 = .ok (.invokevirtual 286, 3) := dc_of dtX7_areOneGroup_0_0_ok (i := 24) rfl
theorem dX7_areOneGroup_41 : decode cX7_areOneGroup 41 = .ok (.iadd, 1) := dc_of dtX7_areOneGroup_0_0_ok (i := 25) rfl
theorem dX7_areOneGroup_42 : decode cX7_areOneGroup 42 = .ok (.iaload, 1) := dc_of dtX7_areOneGroup_0_0_ok (i := 26) rfl
theorem dX7_areOneGroup_43 : decode cX7_areOneGroup 43 = .ok (.if_icmp .eq 5, 3) := dc_of dtX7_areOneGroup_0_0_ok (i := 27) rfl
theorem dX7_areOneGroup_46 : decode cX7_areOneGroup 46 = .ok (.iconst 0, 1) := dc_of dtX7_areOneGroup_0_0_ok (i := 28) rfl
theorem dX7_areOneGroup_47 : decode cX7_areOneGroup 47 = .ok (.ireturn, 1) := dc_of dtX7_areOneGroup_0_0_ok (i := 29) rfl
theorem dX7_areOneGroup_48 : decode cX7_areOneGroup 48 = .ok (.iinc 4 1, 3) := dc_of dtX7_areOneGroup_0_0_ok (i := 30) rfl
theorem dX7_areOneGroup_51 : decode cX7_areOneGroup 51 = .ok (.goto (-48), 3) := dc_of dtX7_areOneGroup_0_0_ok (i := 31) rfl
def dtX7_areOneGroup_54_1 : List (Nat × Instr × Nat) := [(54, .iconst 1, 1), (55, .ireturn, 1)]
theorem dtX7_areOneGroup_54_1_ok : dcAll cX7_areOneGroup dtX7_areOneGroup_54_1 = true := by decide +kernel
theorem dX7_areOneGroup_54 : decode cX7_areOneGroup 54 = .ok (.iconst 1, 1) := dc_of dtX7_areOneGroup_54_1_ok (i := 0) rfl
theorem dX7_areOneGroup_55 : decode cX7_areOneGroup 55 = .ok (.ireturn, 1) := dc_of dtX7_areOneGroup_54_1_ok (i := 1) rfl
def dtX7_isFirstOfGroup_0_0 : List (Nat × Instr × Nat) := [(0, .iconst 0, 1), (1, .istore 4, 2), (3, .iload 4, 2), (5, .iload_n 3, 1), (6, .if_icmp .ge 40, 3), (9, .aload_n 0, 1), (10, .iload_n 2, 1), (11, .iload_n 1, 1), (12, .aload_n 0, 1), (13, .iload_n 2, 1), (14, .invokevirtual 289, 3), (17, .iload 4, 2), (19, .invokestatic 279, 3), (22, .iload_n 1, 1), (23, .aload_n 0, 1), (24, .iload_n 2, 1), (25, .invokevirtual 289, 3), (28, .iload_n 3, 1), (29, .invokestatic 279, 3), (32, .invokevirtual 311, 3), (35, .ifCond .eq 5, 3), (38, .iconst 0, 1), (39, .ireturn, 1), (40, .iinc 4 1, 3), (43, .goto (-40), 3), (46, .iconst 1, 1), (47, .ireturn, 1)]
theorem dtX7_isFirstOfGroup_0_0_ok : dcAll cX7_isFirstOfGroup dtX7_isFirstOfGroup_0_0 = true := by decide +kernel
theorem dX7_isFirstOfGroup_0 : decode cX7_isFirstOfGroup 0 = .ok (.iconst 0, 1) := dc_of dtX7_isFirstOfGroup_0_0_ok (i := 0) rfl
theorem dX7_isFirstOfGroup_1 : decode cX7_isFirstOfGroup 1 = .ok (.istore 4, 2) := dc_of dtX7_isFirstOfGroup_0_0_ok (i := 1) rfl
theorem dX7_isFirstOfGroup_3 : decode cX7_isFirstOfGroup 3 = .ok (.iload 4, 2) := dc_of dtX7_isFirstOfGroup_0_0_ok (i := 2) rfl
theorem dX7_isFirstOfGroup_5 : decode cX7_isFirstOfGroup 5 = .ok (.iload_n 3, 1) := dc_of dtX7_isFirstOfGroup_0_0_ok (i := 3) rfl
theorem dX7_isFirstOfGroup_6 : decode cX7_isFirstOfGroup 6 = .ok (.if_icmp .ge 40, 3) := dc_of dtX7_isFirstOfGroup_0_0_ok (i := 4) rfl
theorem dX7_isFirstOfGroup_9 : decode cX7_isFirstOfGroup 9 = .ok (.aload_n 0, 1) := dc_of dtX7_isFirstOfGroup_0_0_ok (i := 5) rfl
theorem dX7_isFirstOfGroup_10 : decode cX7_isFirstOfGroup 10 = .ok (.iload_n 2, 1) := dc_of dtX7_isFirstOfGroup_0_0_ok (i := 6) rfl
theorem dX7_isFirstOfGroup_11 : decode cX7_isFirstOfGroup 11 = .ok (.iload_n 1, 1) := dc_of dtX7_isFirstOfGroup_0_0_ok (i := 7) rfl
theorem dX7_isFirstOfGroup_12 : decode cX7_isFirstOfGroup 12 = .ok (.aload_n 0, 1) := dc_of dtX7_isFirstOfGroup_0_0_ok (i := 8) rfl
theorem dX7_isFirstOfGroup_13 : decode cX7_isFirstOfGroup 13 = .ok (.iload_n 2, 1) := dc_of dtX7_isFirstOfGroup_0_0_ok (i := 9) rfl
theorem dX7_isFirstOfGroup_14 : decode cX7_isFirstOfGroup 14 = .ok (.invokevirtual 289, 3) := dc_of dtX7_isFirstOfGroup_0_0_ok (i := 10) rfl
theorem dX7_isFirstOfGroup_17 : decode cX7_isFirstOfGroup 17 = .ok (.iload 4, 2) := dc_of dtX7_isFirstOfGroup_0_0_ok (i := 11) rfl
theorem dX7_isFirstOfGroup_19 : decode cX7_isFirstOfGroup 19 = .ok (.invokestatic 279, 3) := dc_of dtX7_isFirstOfGroup_0_0_ok (i := 12) rfl
theorem dX7_isFirstOfGroup_22 : decode cX7_isFirstOfGroup 22 = .ok (.iload_n 1, 1) := dc_of dtX7_isFirstOfGroup_0_0_ok (i := 13) rfl
theorem dX7_isFirstOfGroup_23 : decode cX7_isFirstOfGroup 23 = .ok (.aload_n 0, 1) := dc_of dtX7_isFirstOfGroup_0_0_ok (i := 14) rfl
theorem dX7_isFirstOfGroup_24 : decode cX7_isFirstOfGroup 24 = .ok (.iload_n 2, 1) := dc_of dtX7_isFirstOfGroup_0_0_ok (i := 15) rfl
theorem dX7_isFirstOfGroup_25 : decode cX7_isFirstOfGroup 25 = .ok (.invokevirtual 289, 3) := dc_of dtX7_isFirstOfGroup_0_0_ok (i := 16) rfl
theorem dX7_isFirstOfGroup_28 : decode cX7_isFirstOfGroup 28 = .ok (.iload_n 3, 1) := dc_of dtX7_isFirstOfGroup_0_0_ok (i := 17) rfl
theorem dX7_isFirstOfGroup_29 : decode cX7_isFirstOfGroup 29 = .ok (.invokestatic 279, 3) := dc_of dtX7_isFirstOfGroup_0_0_ok (i := 18) rfl
theorem dX7_isFirstOfGroup_32 : decode cX7_isFirstOfGroup 32 = .ok (.invokevirtual 311, 3) := dc_of dtX7_isFirstOfGroup_0_0_ok (i := 19) rfl
theorem dX7_isFirstOfGroup_35 : decode cX7_isFirstOfGroup 35 = .ok (.ifCond .eq 5, 3) := dc_of dtX7_isFirstOfGroup_0_0_ok (i := 20) rfl
theorem dX7_isFirstOfGroup_38 : decode cX7_isFirstOfGroup 38 = .ok (.iconst 0, 1) := dc_of dtX7_isFirstOfGroup_0_0_ok (i := 21) rfl
theorem dX7_isFirstOfGroup_39 : decode cX7_isFirstOfGroup 39 = .ok (.ireturn, 1) := dc_of dtX7_isFirstOfGroup_0_0_ok (i := 22) rfl
theorem dX7_isFirstOfGroup_40 : decode cX7_isFirstOfGroup 40 = .ok (.iinc 4 1, 3) := dc_of dtX7_isFirstOfGroup_0_0_ok (i := 23) rfl
theorem dX7_isFirstOfGroup_43 : decode cX7_isFirstOfGroup 43 = .ok (.goto (-40), 3) := dc_of dtX7_isFirstOfGroup_0_0_ok (i := 24) rfl
theorem dX7_isFirstOfGroup_46 : decode cX7_isFirstOfGroup 46 = .ok (.iconst 1, 1) := dc_of dtX7_isFirstOfGroup_0_0_ok (i := 25) rfl
theorem dX7_isFirstOfGroup_47 : decode cX7_isFirstOfGroup 47 = .ok (.ireturn, 1) := dc_of dtX7_isFirstOfGroup_0_0_ok (i := 26) rfl
def dtX7_rings_0_0 : List (Nat × Instr × Nat) := [(0, .aload_n 0, 1), (1, .iload_n 2, 1), (2, .invokevirtual 289, 3), (5, .istore_n 3, 1), (6, .aload_n 0, 1), (7, .iload_n 3, 1), (8, .invokevirtual 301, 3), (11, .istore 4, 2), (13, .iconst 0, 1), (14, .istore 5, 2), (16, .iload 5, 2), (18, .aload_n 0, 1), (19, .iload_n 1, 1), (20, .iload_n 3, 1), (21, .invokevirtual 295, 3), (24, .if_icmp .ge 48, 3), (27, .aload_n 0, 1), (28, .getfield 24, 3), (31, .iload_n 1, 1), (32, .iload_n 3, 1), (33, .iload 5, 2), (35, .invokestatic 279, 3), (38, .iconst 4, 1), (39, .iadd, 1), (40, .iaload, 1), (41, .ifCond .gt 6, 3), (44, .goto 22, 3), (47, .aload_n 0, 1), (48, .iload_n 1, 1), (49, .iload_n 3, 1), (50, .iload 5, 2), (52, .invokestatic 279, 3)]
theorem dtX7_rings_0_0_ok : dcAll cX7_rings dtX7_rings_0_0 = true := by decide +kernel
theorem dX7_rings_0 : decode cX7_rings 0 = .ok (.aload_n 0, 1) := dc_of dtX7_rings_0_0_ok (i := 0) rfl
theorem dX7_rings_1 : decode cX7_rings 1 = .ok (.iload_n 2, 1) := dc_of dtX7_rings_0_0_ok (i := 1) rfl
theorem dX7_rings_2 : decode cX7_rings 2 = .ok (.invokevirtual 289, 3) := dc_of dtX7_rings_0_0_ok (i := 2) rfl
theorem dX7_rings_5 : decode cX7_rings 5 = .ok (.istore_n 3, 1) := dc_of dtX7_rings_0_0_ok (i := 3) rfl
theorem dX7_rings_6 : decode cX7_rings 6 = .ok (.aload_n 0, 1) := dc_of dtX7_rings_0_0_ok (i := 4) rfl
theorem dX7_rings_7 : decode cX7_rings 7 = .ok (.iload_n 3, 1) := dc_of dtX7_rings_0_0_ok (i := 5) rfl
theorem dX7_rings_8 : decode cX7_rings 8 = .ok (.invokevirtual 301, 3) := dc_of dtX7_rings_0_0_ok (i := 6) rfl
theorem dX7_rings_11 : decode cX7_rings 11 = .ok (.istore 4, 2) := dc_of dtX7_rings_0_0_ok (i := 7) rfl
theorem dX7_rings_13 : decode cX7_rings 13 = .ok (.iconst 0, 1) := dc_of dtX7_rings_0_0_ok (i := 8) rfl
theorem dX7_rings_14 : decode cX7_rings 14 = .ok (.istore 5, 2) := dc_of dtX7_rings_0_0_ok (i := 9) rfl
theorem dX7_rings_16 : decode cX7_rings 16 = .ok (.iload 5, 2) := dc_of dtX7_rings_0_0_ok (i := 10) rfl
theorem dX7_rings_18 : decode cX7_rings 18 = .ok (.aload_n 0, 1) := dc_of dtX7_rings_0_0_ok (i := 11) rfl
theorem dX7_rings_19 : decode cX7_rings 19 = .ok (.iload_n 1, 1) := dc_of dtX7_rings_0_0_ok (i := 12) rfl
theorem dX7_rings_20 : decode cX7_rings 20 = .ok (.iload_n 3, 1) := dc_of dtX7_rings_0_0_ok (i := 13) rfl
theorem dX7_rings_21 : decode cX7_rings 21 = .ok (.invokevirtual 295, 3) := dc_of dtX7_rings_0_0_ok (i := 14) rfl
theorem dX7_rings_24 : decode cX7_rings 24 = .ok (.if_icmp .ge 48, 3) := dc_of dtX7_rings_0_0_ok (i := 15) rfl
theorem dX7_rings_27 : decode cX7_rings 27 = .ok (.aload_n 0, 1) := dc_of dtX7_rings_0_0_ok (i := 16) rfl
theorem dX7_rings_28 : decode cX7_rings 28 = .ok (.getfield 24, 3) := dc_of dtX7_rings_0_0_ok (i := 17) rfl
theorem dX7_rings_31 : decode cX7_rings 31 = .ok (.iload_n 1, 1) := dc_of dtX7_rings_0_0_ok (i := 18) rfl
theorem dX7_rings_32 : decode cX7_rings 32 = .ok (.iload_n 3, 1) := dc_of dtX7_rings_0_0_ok (i := 19) rfl
theorem dX7_rings_33 : decode cX7_rings 33 = .ok (.iload 5, 2) := dc_of dtX7_rings_0_0_ok (i := 20) rfl
theorem dX7_rings_35 : decode cX7_rings 35 = .ok (.invokestatic 279, 3) := dc_of dtX7_rings_0_0_ok (i := 21) rfl
theorem dX7_rings_38 : decode cX7_rings 38 = .ok (.iconst 4, 1) := dc_of dtX7_rings_0_0_ok (i := 22) rfl
theorem dX7_rings_39 : decode cX7_rings 39 = .ok (.iadd, 1) := dc_of dtX7_rings_0_0_ok (i := 23) rfl
theorem dX7_rings_40 : decode cX7_rings 40 = .ok (.iaload, 1) := dc_of dtX7_rings_0_0_ok (i := 24) rfl
theorem dX7_rings_41 : decode cX7_rings 41 = .ok (.ifCond .gt 6, 3) := dc_of dtX7_rings_0_0_ok (i := 25) rfl
theorem dX7_rings_44 : decode cX7_rings 44 = .ok (.goto 22, 3) := dc_of dtX7_rings_0_0_ok (i := 26) rfl
theorem dX7_rings_47 : decode cX7_rings 47 = .ok (.aload_n 0, 1) := dc_of dtX7_rings_0_0_ok (i := 27) rfl
theorem dX7_rings_48 : decode cX7_rings 48 = .ok (.iload_n 1, 1) := dc_of dtX7_rings_0_0_ok (i := 28) rfl
theorem dX7_rings_49 : decode cX7_rings 49 = .ok (.iload_n 3, 1) := dc_of dtX7_rings_0_0_ok (i := 29) rfl
theorem dX7_rings_50 : decode cX7_rings 50 = .ok (.iload 5, 2) := dc_of dtX7_rings_0_0_ok (i := 30) rfl
theorem dX7_rings_52 : decode cX7_rings 52 = .ok (.invokestatic 279, 3) := dc_of dtX7_rings_0_0_ok (i := 31) rfl
def dtX7_rings_55_1 : List (Nat × Instr × Nat) := [(55, .invokevirtual 298, 3), (58, .aload_n 0, 1), (59, .iconst 1, 1), (60, .iconst 0, 1), (61, .invokevirtual 304, 3), (64, .istore 6, 2), (66, .iinc 5 1, 3), (69, .goto (-53), 3), (72, .aload_n 0, 1), (73, .getfield 51, 3), (76, .bipush 16, 2), (78, .iload_n 1, 1), (79, .imul, 1), (80, .iload_n 2, 1), (81, .iadd, 1), (82, .iconst 0, 1), (83, .iastore, 1), (84, .iconst 1, 1), (85, .istore 5, 2), (87, .iconst 0, 1), (88, .istore 6, 2), (90, .iconst 0, 1), (91, .istore 7, 2), (93, .iload 7, 2), (95, .aload_n 0, 1), (96, .getfield 269, 3), (99, .if_icmp .ge 74, 3), (102, .aload_n 0, 1), (103, .getfield 42, 3), (106, .bipush 6, 2), (108, .iload 7, 2), (110, .imul, 1)]
theorem dtX7_rings_55_1_ok : dcAll cX7_rings dtX7_rings_55_1 = true := by decide +kernel
theorem dX7_rings_55 : decode cX7_rings 55 = .ok (.invokevirtual 298, 3) := dc_of dtX7_rings_55_1_ok (i := 0) rfl
theorem dX7_rings_58 : decode cX7_rings 58 = .ok (.aload_n 0, 1) := dc_of dtX7_rings_55_1_ok (i := 1) rfl
theorem dX7_rings_59 : decode cX7_rings 59 = .ok (.iconst 1, 1) := dc_of dtX7_rings_55_1_ok (i := 2) rfl
theorem dX7_rings_60 : decode cX7_rings 60 = .ok (.iconst 0, 1) := dc_of dtX7_rings_55_1_ok (i := 3) rfl
theorem dX7_rings_61 : decode cX7_rings 61 = .ok (.invokevirtual 304, 3) := dc_of dtX7_rings_55_1_ok (i := 4) rfl
theorem dX7_rings_64 : decode cX7_rings 64 = .ok (.istore 6, 2) := dc_of dtX7_rings_55_1_ok (i := 5) rfl
theorem dX7_rings_66 : decode cX7_rings 66 = .ok (.iinc 5 1, 3) := dc_of dtX7_rings_55_1_ok (i := 6) rfl
theorem dX7_rings_69 : decode cX7_rings 69 = .ok (.goto (-53), 3) := dc_of dtX7_rings_55_1_ok (i := 7) rfl
theorem dX7_rings_72 : decode cX7_rings 72 = .ok (.aload_n 0, 1) := dc_of dtX7_rings_55_1_ok (i := 8) rfl
theorem dX7_rings_73 : decode cX7_rings 73 = .ok (.getfield 51, 3) := dc_of dtX7_rings_55_1_ok (i := 9) rfl
theorem dX7_rings_76 : decode cX7_rings 76 = .ok (.bipush 16, 2) := dc_of dtX7_rings_55_1_ok (i := 10) rfl
theorem dX7_rings_78 : decode cX7_rings 78 = .ok (.iload_n 1, 1) := dc_of dtX7_rings_55_1_ok (i := 11) rfl
theorem dX7_rings_79 : decode cX7_rings 79 = .ok (.imul, 1) := dc_of dtX7_rings_55_1_ok (i := 12) rfl
theorem dX7_rings_80 : decode cX7_rings 80 = .ok (.iload_n 2, 1) := dc_of dtX7_rings_55_1_ok (i := 13) rfl
theorem dX7_rings_81 : decode cX7_rings 81 = .ok (.iadd, 1) := dc_of dtX7_rings_55_1_ok (i := 14) rfl
theorem dX7_rings_82 : decode cX7_rings 82 = .ok (.iconst 0, 1) := dc_of dtX7_rings_55_1_ok (i := 15) rfl
theorem dX7_rings_83 : decode cX7_rings 83 = .ok (.iastore, 1) := dc_of dtX7_rings_55_1_ok (i := 16) rfl
theorem dX7_rings_84 : decode cX7_rings 84 = .ok (.iconst 1, 1) := dc_of dtX7_rings_55_1_ok (i := 17) rfl
theorem dX7_rings_85 : decode cX7_rings 85 = .ok (.istore 5, 2) := dc_of dtX7_rings_55_1_ok (i := 18) rfl
theorem dX7_rings_87 : decode cX7_rings 87 = .ok (.iconst 0, 1) := dc_of dtX7_rings_55_1_ok (i := 19) rfl
theorem dX7_rings_88 : decode cX7_rings 88 = .ok (.istore 6, 2) := dc_of dtX7_rings_55_1_ok (i := 20) rfl
theorem dX7_rings_90 : decode cX7_rings 90 = .ok (.iconst 0, 1) := dc_of dtX7_rings_55_1_ok (i := 21) rfl
theorem dX7_rings_91 : decode cX7_rings 91 = .ok (.istore 7, 2) := dc_of dtX7_rings_55_1_ok (i := 22) rfl
theorem dX7_rings_93 : decode cX7_rings 93 = .ok (.iload 7, 2) := dc_of dtX7_rings_55_1_ok (i := 23) rfl
theorem dX7_rings_95 : decode cX7_rings 95 = .ok (.aload_n 0, 1) := dc_of dtX7_rings_55_1_ok (i := 24) rfl
theorem dX7_rings_96 : decode cX7_rings 96 = .ok (.getfield 269, 3) := dc_of dtX7_rings_55_1_ok (i := 25) rfl
theorem dX7_rings_99 : decode cX7_rings 99 = .ok (.if_icmp .ge 74, 3) := dc_of dtX7_rings_55_1_ok (i := 26) rfl
theorem dX7_rings_102 : decode cX7_rings 102 = .ok (.aload_n 0, 1) := dc_of dtX7_rings_55_1_ok (i := 27) rfl
theorem dX7_rings_103 : decode cX7_rings 103 = .ok (.getfield 42, 3) := dc_of dtX7_rings_55_1_ok (i := 28) rfl
theorem dX7_rings_106 : decode cX7_rings 106 = .ok (.bipush 6, 2) := dc_of dtX7_rings_55_1_ok (i := 29) rfl
theorem dX7_rings_108 : decode cX7_rings 108 = .ok (.iload 7, 2) := dc_of dtX7_rings_55_1_ok (i := 30) rfl
theorem dX7_rings_110 : decode cX7_rings 110 = .ok (.imul, 1) := dc_of dtX7_rings_55_1_ok (i := 31) rfl
def dtX7_rings_111_2 : List (Nat × Instr × Nat) := [(111, .iconst 5, 1), (112, .iadd, 1), (113, .iaload, 1), (114, .iload 5, 2), (116, .iconst 1, 1), (117, .isub, 1), (118, .if_icmp .eq 6, 3), (121, .goto 46, 3), (124, .iconst 0, 1), (125, .istore 8, 2), (127, .iload 8, 2), (129, .iconst 4, 1), (130, .if_icmp .ge 34, 3), (133, .aload_n 0, 1), (134, .getfield 54, 3), (137, .iconst 4, 1), (138, .iload 6, 2), (140, .imul, 1), (141, .iload 8, 2), (143, .iadd, 1), (144, .aload_n 0, 1), (145, .getfield 42, 3), (148, .bipush 6, 2), (150, .iload 7, 2), (152, .imul, 1), (153, .iload 8, 2), (155, .iadd, 1), (156, .iaload, 1), (157, .iastore, 1), (158, .iinc 8 1, 3), (161, .goto (-34), 3), (164, .iinc 6 1, 3)]
theorem dtX7_rings_111_2_ok : dcAll cX7_rings dtX7_rings_111_2 = true := by decide +kernel
theorem dX7_rings_111 : decode cX7_rings 111 = .ok (.iconst 5, 1) := dc_of dtX7_rings_111_2_ok (i := 0) rfl
theorem dX7_rings_112 : decode cX7_rings 112 = .ok (.iadd, 1) := dc_of dtX7_rings_111_2_ok (i := 1) rfl
theorem dX7_rings_113 : decode cX7_rings 113 = .ok (.iaload, 1) := dc_of dtX7_rings_111_2_ok (i := 2) rfl
theorem dX7_rings_114 : decode cX7_rings 114 = .ok (.iload 5, 2) := dc_of dtX7_rings_111_2_ok (i := 3) rfl
theorem dX7_rings_116 : decode cX7_rings 116 = .ok (.iconst 1, 1) := dc_of dtX7_rings_111_2_ok (i := 4) rfl
theorem dX7_rings_117 : decode cX7_rings 117 = .ok (.isub, 1) := dc_of dtX7_rings_111_2_ok (i := 5) rfl
theorem dX7_rings_118 : decode cX7_rings 118 = .ok (.if_icmp .eq 6, 3) := dc_of dtX7_rings_111_2_ok (i := 6) rfl
theorem dX7_rings_121 : decode cX7_rings 121 = .ok (.goto 46, 3) := dc_of dtX7_rings_111_2_ok (i := 7) rfl
theorem dX7_rings_124 : decode cX7_rings 124 = .ok (.iconst 0, 1) := dc_of dtX7_rings_111_2_ok (i := 8) rfl
theorem dX7_rings_125 : decode cX7_rings 125 = .ok (.istore 8, 2) := dc_of dtX7_rings_111_2_ok (i := 9) rfl
theorem dX7_rings_127 : decode cX7_rings 127 = .ok (.iload 8, 2) := dc_of dtX7_rings_111_2_ok (i := 10) rfl
theorem dX7_rings_129 : decode cX7_rings 129 = .ok (.iconst 4, 1) := dc_of dtX7_rings_111_2_ok (i := 11) rfl
theorem dX7_rings_130 : decode cX7_rings 130 = .ok (.if_icmp .ge 34, 3) := dc_of dtX7_rings_111_2_ok (i := 12) rfl
theorem dX7_rings_133 : decode cX7_rings 133 = .ok (.aload_n 0, 1) := dc_of dtX7_rings_111_2_ok (i := 13) rfl
theorem dX7_rings_134 : decode cX7_rings 134 = .ok (.getfield 54, 3) := dc_of dtX7_rings_111_2_ok (i := 14) rfl
theorem dX7_rings_137 : decode cX7_rings 137 = .ok (.iconst 4, 1) := dc_of dtX7_rings_111_2_ok (i := 15) rfl
theorem dX7_rings_138 : decode cX7_rings 138 = .ok (.iload 6, 2) := dc_of dtX7_rings_111_2_ok (i := 16) rfl
theorem dX7_rings_140 : decode cX7_rings 140 = .ok (.imul, 1) := dc_of dtX7_rings_111_2_ok (i := 17) rfl
theorem dX7_rings_141 : decode cX7_rings 141 = .ok (.iload 8, 2) := dc_of dtX7_rings_111_2_ok (i := 18) rfl
theorem dX7_rings_143 : decode cX7_rings 143 = .ok (.iadd, 1) := dc_of dtX7_rings_111_2_ok (i := 19) rfl
theorem dX7_rings_144 : decode cX7_rings 144 = .ok (.aload_n 0, 1) := dc_of dtX7_rings_111_2_ok (i := 20) rfl
theorem dX7_rings_145 : decode cX7_rings 145 = .ok (.getfield 42, 3) := dc_of dtX7_rings_111_2_ok (i := 21) rfl
theorem dX7_rings_148 : decode cX7_rings 148 = .ok (.bipush 6, 2) := dc_of dtX7_rings_111_2_ok (i := 22) rfl
theorem dX7_rings_150 : decode cX7_rings 150 = .ok (.iload 7, 2) := dc_of dtX7_rings_111_2_ok (i := 23) rfl
theorem dX7_rings_152 : decode cX7_rings 152 = .ok (.imul, 1) := dc_of dtX7_rings_111_2_ok (i := 24) rfl
theorem dX7_rings_153 : decode cX7_rings 153 = .ok (.iload 8, 2) := dc_of dtX7_rings_111_2_ok (i := 25) rfl
theorem dX7_rings_155 : decode cX7_rings 155 = .ok (.iadd, 1) := dc_of dtX7_rings_111_2_ok (i := 26) rfl
theorem dX7_rings_156 : decode cX7_rings 156 = .ok (.iaload, 1) := dc_of dtX7_rings_111_2_ok (i := 27) rfl
theorem dX7_rings_157 : decode cX7_rings 157 = .ok (.iastore, 1) := dc_of dtX7_rings_111_2_ok (i := 28) rfl
theorem dX7_rings_158 : decode cX7_rings 158 = .ok (.iinc 8 1, 3) := dc_of dtX7_rings_111_2_ok (i := 29) rfl
theorem dX7_rings_161 : decode cX7_rings 161 = .ok (.goto (-34), 3) := dc_of dtX7_rings_111_2_ok (i := 30) rfl
theorem dX7_rings_164 : decode cX7_rings 164 = .ok (.iinc 6 1, 3) := dc_of dtX7_rings_111_2_ok (i := 31) rfl
def dtX7_rings_167_3 : List (Nat × Instr × Nat) := [(167, .iinc 7 1, 3), (170, .goto (-77), 3), (173, .aload_n 0, 1), (174, .getfield 269, 3), (177, .istore 7, 2), (179, .aload_n 0, 1), (180, .iload_n 1, 1), (181, .iload_n 2, 1), (182, .iload 4, 2), (184, .iload 6, 2), (186, .iload 5, 2), (188, .invokevirtual 314, 3), (191, .istore 8, 2), (193, .iload 8, 2), (195, .ifCond .ge 6, 3), (198, .iload 8, 2), (200, .ireturn, 1), (201, .aload_n 0, 1), (202, .getfield 269, 3), (205, .iload 7, 2), (207, .if_icmp .ne 5, 3), (210, .iconst 0, 1), (211, .ireturn, 1), (212, .aload_n 0, 1), (213, .getfield 51, 3), (216, .bipush 16, 2), (218, .iload_n 1, 1), (219, .imul, 1), (220, .iload_n 2, 1), (221, .iadd, 1), (222, .iload 5, 2), (224, .iastore, 1)]
theorem dtX7_rings_167_3_ok : dcAll cX7_rings dtX7_rings_167_3 = true := by decide +kernel
theorem dX7_rings_167 : decode cX7_rings 167 = .ok (.iinc 7 1, 3) := dc_of dtX7_rings_167_3_ok (i := 0) rfl
theorem dX7_rings_170 : decode cX7_rings 170 = .ok (.goto (-77), 3) := dc_of dtX7_rings_167_3_ok (i := 1) rfl
theorem dX7_rings_173 : decode cX7_rings 173 = .ok (.aload_n 0, 1) := dc_of dtX7_rings_167_3_ok (i := 2) rfl
theorem dX7_rings_174 : decode cX7_rings 174 = .ok (.getfield 269, 3) := dc_of dtX7_rings_167_3_ok (i := 3) rfl
theorem dX7_rings_177 : decode cX7_rings 177 = .ok (.istore 7, 2) := dc_of dtX7_rings_167_3_ok (i := 4) rfl
theorem dX7_rings_179 : decode cX7_rings 179 = .ok (.aload_n 0, 1) := dc_of dtX7_rings_167_3_ok (i := 5) rfl
theorem dX7_rings_180 : decode cX7_rings 180 = .ok (.iload_n 1, 1) := dc_of dtX7_rings_167_3_ok (i := 6) rfl
theorem dX7_rings_181 : decode cX7_rings 181 = .ok (.iload_n 2, 1) := dc_of dtX7_rings_167_3_ok (i := 7) rfl
theorem dX7_rings_182 : decode cX7_rings 182 = .ok (.iload 4, 2) := dc_of dtX7_rings_167_3_ok (i := 8) rfl
theorem dX7_rings_184 : decode cX7_rings 184 = .ok (.iload 6, 2) := dc_of dtX7_rings_167_3_ok (i := 9) rfl
theorem dX7_rings_186 : decode cX7_rings 186 = .ok (.iload 5, 2) := dc_of dtX7_rings_167_3_ok (i := 10) rfl
theorem dX7_rings_188 : decode cX7_rings 188 = .ok (.invokevirtual 314, 3) := dc_of dtX7_rings_167_3_ok (i := 11) rfl
theorem dX7_rings_191 : decode cX7_rings 191 = .ok (.istore 8, 2) := dc_of dtX7_rings_167_3_ok (i := 12) rfl
theorem dX7_rings_193 : decode cX7_rings 193 = .ok (.iload 8, 2) := dc_of dtX7_rings_167_3_ok (i := 13) rfl
theorem dX7_rings_195 : decode cX7_rings 195 = .ok (.ifCond .ge 6, 3) := dc_of dtX7_rings_167_3_ok (i := 14) rfl
theorem dX7_rings_198 : decode cX7_rings 198 = .ok (.iload 8, 2) := dc_of dtX7_rings_167_3_ok (i := 15) rfl
theorem dX7_rings_200 : decode cX7_rings 200 = .ok (.ireturn, 1) := dc_of dtX7_rings_167_3_ok (i := 16) rfl
theorem dX7_rings_201 : decode cX7_rings 201 = .ok (.aload_n 0, 1) := dc_of dtX7_rings_167_3_ok (i := 17) rfl
theorem dX7_rings_202 : decode cX7_rings 202 = .ok (.getfield 269, 3) := dc_of dtX7_rings_167_3_ok (i := 18) rfl
theorem dX7_rings_205 : decode cX7_rings 205 = .ok (.iload 7, 2) := dc_of dtX7_rings_167_3_ok (i := 19) rfl
theorem dX7_rings_207 : decode cX7_rings 207 = .ok (.if_icmp .ne 5, 3) := dc_of dtX7_rings_167_3_ok (i := 20) rfl
theorem dX7_rings_210 : decode cX7_rings 210 = .ok (.iconst 0, 1) := dc_of dtX7_rings_167_3_ok (i := 21) rfl
theorem dX7_rings_211 : decode cX7_rings 211 = .ok (.ireturn, 1) := dc_of dtX7_rings_167_3_ok (i := 22) rfl
theorem dX7_rings_212 : decode cX7_rings 212 = .ok (.aload_n 0, 1) := dc_of dtX7_rings_167_3_ok (i := 23) rfl
theorem dX7_rings_213 : decode cX7_rings 213 = .ok (.getfield 51, 3) := dc_of dtX7_rings_167_3_ok (i := 24) rfl
theorem dX7_rings_216 : decode cX7_rings 216 = .ok (.bipush 16, 2) := dc_of dtX7_rings_167_3_ok (i := 25) rfl
theorem dX7_rings_218 : decode cX7_rings 218 = .ok (.iload_n 1, 1) := dc_of dtX7_rings_167_3_ok (i := 26) rfl
theorem dX7_rings_219 : decode cX7_rings 219 = .ok (.imul, 1) := dc_of dtX7_rings_167_3_ok (i := 27) rfl
theorem dX7_rings_220 : decode cX7_rings 220 = .ok (.iload_n 2, 1) := dc_of dtX7_rings_167_3_ok (i := 28) rfl
theorem dX7_rings_221 : decode cX7_rings 221 = .ok (.iadd, 1) := dc_of dtX7_rings_167_3_ok (i := 29) rfl
theorem dX7_rings_222 : decode cX7_rings 222 = .ok (.iload 5, 2) := dc_of dtX7_rings_167_3_ok (i := 30) rfl
theorem dX7_rings_224 : decode cX7_rings 224 = .ok (.iastore, 1) := dc_of dtX7_rings_167_3_ok (i := 31) rfl
def dtX7_rings_225_4 : List (Nat × Instr × Nat) := [(225, .iinc 5 1, 3), (228, .goto (-141), 3)]
theorem dtX7_rings_225_4_ok : dcAll cX7_rings dtX7_rings_225_4 = true := by decide +kernel
theorem dX7_rings_225 : decode cX7_rings 225 = .ok (.iinc 5 1, 3) := dc_of dtX7_rings_225_4_ok (i := 0) rfl
theorem dX7_rings_228 : decode cX7_rings 228 = .ok (.goto (-141), 3) := dc_of dtX7_rings_225_4_ok (i := 1) rfl
def dtX7_ringsOnce_0_0 : List (Nat × Instr × Nat) := [(0, .aload_n 0, 1), (1, .iload_n 2, 1), (2, .invokevirtual 292, 3), (5, .istore 6, 2), (7, .iconst 0, 1), (8, .istore 7, 2), (10, .iload 7, 2), (12, .iload 4, 2), (14, .if_icmp .ge 244, 3), (17, .iconst 0, 1), (18, .istore 8, 2), (20, .iload 8, 2), (22, .aload_n 0, 1), (23, .iload_n 1, 1), (24, .iload 6, 2), (26, .invokevirtual 295, 3), (29, .if_icmp .ge 223, 3), (32, .iload_n 1, 1), (33, .iload 6, 2), (35, .iload 8, 2), (37, .invokestatic 279, 3), (40, .istore 9, 2), (42, .aload_n 0, 1), (43, .getfield 24, 3), (46, .iload 9, 2), (48, .iconst 4, 1), (49, .iadd, 1), (50, .iaload, 1), (51, .ifCond .le 195, 3), (54, .aload_n 0, 1), (55, .getfield 54, 3), (58, .iconst 4, 1)]
theorem dtX7_ringsOnce_0_0_ok : dcAll cX7_ringsOnce dtX7_ringsOnce_0_0 = true := by decide +kernel
theorem dX7_ringsOnce_0 : decode cX7_ringsOnce 0 = .ok (.aload_n 0, 1) := dc_of dtX7_ringsOnce_0_0_ok (i := 0) rfl
theorem dX7_ringsOnce_1 : decode cX7_ringsOnce 1 = .ok (.iload_n 2, 1) := dc_of dtX7_ringsOnce_0_0_ok (i := 1) rfl
theorem dX7_ringsOnce_2 : decode cX7_ringsOnce 2 = .ok (.invokevirtual 292, 3) := dc_of dtX7_ringsOnce_0_0_ok (i := 2) rfl
theorem dX7_ringsOnce_5 : decode cX7_ringsOnce 5 = .ok (.istore 6, 2) := dc_of dtX7_ringsOnce_0_0_ok (i := 3) rfl
theorem dX7_ringsOnce_7 : decode cX7_ringsOnce 7 = .ok (.iconst 0, 1) := dc_of dtX7_ringsOnce_0_0_ok (i := 4) rfl
theorem dX7_ringsOnce_8 : decode cX7_ringsOnce 8 = .ok (.istore 7, 2) := dc_of dtX7_ringsOnce_0_0_ok (i := 5) rfl
theorem dX7_ringsOnce_10 : decode cX7_ringsOnce 10 = .ok (.iload 7, 2) := dc_of dtX7_ringsOnce_0_0_ok (i := 6) rfl
theorem dX7_ringsOnce_12 : decode cX7_ringsOnce 12 = .ok (.iload 4, 2) := dc_of dtX7_ringsOnce_0_0_ok (i := 7) rfl
theorem dX7_ringsOnce_14 : decode cX7_ringsOnce 14 = .ok (.if_icmp .ge 244, 3) := dc_of dtX7_ringsOnce_0_0_ok (i := 8) rfl
theorem dX7_ringsOnce_17 : decode cX7_ringsOnce 17 = .ok (.iconst 0, 1) := dc_of dtX7_ringsOnce_0_0_ok (i := 9) rfl
theorem dX7_ringsOnce_18 : decode cX7_ringsOnce 18 = .ok (.istore 8, 2) := dc_of dtX7_ringsOnce_0_0_ok (i := 10) rfl
theorem dX7_ringsOnce_20 : decode cX7_ringsOnce 20 = .ok (.iload 8, 2) := dc_of dtX7_ringsOnce_0_0_ok (i := 11) rfl
theorem dX7_ringsOnce_22 : decode cX7_ringsOnce 22 = .ok (.aload_n 0, 1) := dc_of dtX7_ringsOnce_0_0_ok (i := 12) rfl
theorem dX7_ringsOnce_23 : decode cX7_ringsOnce 23 = .ok (.iload_n 1, 1) := dc_of dtX7_ringsOnce_0_0_ok (i := 13) rfl
theorem dX7_ringsOnce_24 : decode cX7_ringsOnce 24 = .ok (.iload 6, 2) := dc_of dtX7_ringsOnce_0_0_ok (i := 14) rfl
theorem dX7_ringsOnce_26 : decode cX7_ringsOnce 26 = .ok (.invokevirtual 295, 3) := dc_of dtX7_ringsOnce_0_0_ok (i := 15) rfl
theorem dX7_ringsOnce_29 : decode cX7_ringsOnce 29 = .ok (.if_icmp .ge 223, 3) := dc_of dtX7_ringsOnce_0_0_ok (i := 16) rfl
theorem dX7_ringsOnce_32 : decode cX7_ringsOnce 32 = .ok (.iload_n 1, 1) := dc_of dtX7_ringsOnce_0_0_ok (i := 17) rfl
theorem dX7_ringsOnce_33 : decode cX7_ringsOnce 33 = .ok (.iload 6, 2) := dc_of dtX7_ringsOnce_0_0_ok (i := 18) rfl
theorem dX7_ringsOnce_35 : decode cX7_ringsOnce 35 = .ok (.iload 8, 2) := dc_of dtX7_ringsOnce_0_0_ok (i := 19) rfl
theorem dX7_ringsOnce_37 : decode cX7_ringsOnce 37 = .ok (.invokestatic 279, 3) := dc_of dtX7_ringsOnce_0_0_ok (i := 20) rfl
theorem dX7_ringsOnce_40 : decode cX7_ringsOnce 40 = .ok (.istore 9, 2) := dc_of dtX7_ringsOnce_0_0_ok (i := 21) rfl
theorem dX7_ringsOnce_42 : decode cX7_ringsOnce 42 = .ok (.aload_n 0, 1) := dc_of dtX7_ringsOnce_0_0_ok (i := 22) rfl
theorem dX7_ringsOnce_43 : decode cX7_ringsOnce 43 = .ok (.getfield 24, 3) := dc_of dtX7_ringsOnce_0_0_ok (i := 23) rfl
theorem dX7_ringsOnce_46 : decode cX7_ringsOnce 46 = .ok (.iload 9, 2) := dc_of dtX7_ringsOnce_0_0_ok (i := 24) rfl
theorem dX7_ringsOnce_48 : decode cX7_ringsOnce 48 = .ok (.iconst 4, 1) := dc_of dtX7_ringsOnce_0_0_ok (i := 25) rfl
theorem dX7_ringsOnce_49 : decode cX7_ringsOnce 49 = .ok (.iadd, 1) := dc_of dtX7_ringsOnce_0_0_ok (i := 26) rfl
theorem dX7_ringsOnce_50 : decode cX7_ringsOnce 50 = .ok (.iaload, 1) := dc_of dtX7_ringsOnce_0_0_ok (i := 27) rfl
theorem dX7_ringsOnce_51 : decode cX7_ringsOnce 51 = .ok (.ifCond .le 195, 3) := dc_of dtX7_ringsOnce_0_0_ok (i := 28) rfl
theorem dX7_ringsOnce_54 : decode cX7_ringsOnce 54 = .ok (.aload_n 0, 1) := dc_of dtX7_ringsOnce_0_0_ok (i := 29) rfl
theorem dX7_ringsOnce_55 : decode cX7_ringsOnce 55 = .ok (.getfield 54, 3) := dc_of dtX7_ringsOnce_0_0_ok (i := 30) rfl
theorem dX7_ringsOnce_58 : decode cX7_ringsOnce 58 = .ok (.iconst 4, 1) := dc_of dtX7_ringsOnce_0_0_ok (i := 31) rfl
def dtX7_ringsOnce_59_1 : List (Nat × Instr × Nat) := [(59, .iload 7, 2), (61, .imul, 1), (62, .aload_n 0, 1), (63, .iload_n 2, 1), (64, .iconst 0, 1), (65, .iconst 0, 1), (66, .invokevirtual 286, 3), (69, .iadd, 1), (70, .iaload, 1), (71, .aload_n 0, 1), (72, .getfield 24, 3), (75, .iload 9, 2), (77, .aload_n 0, 1), (78, .iload_n 2, 1), (79, .iconst 0, 1), (80, .iconst 1, 1), (81, .invokevirtual 286, 3), (84, .iadd, 1), (85, .iaload, 1), (86, .if_icmp .eq 6, 3), (89, .goto 157, 3), (92, .iconst 0, 1), (93, .istore 10, 2), (95, .iload 10, 2), (97, .iload_n 3, 1), (98, .if_icmp .ge 28, 3), (101, .aload_n 0, 1), (102, .getfield 48, 3), (105, .iload 10, 2), (107, .aload_n 0, 1), (108, .getfield 54, 3), (111, .iconst 4, 1)]
theorem dtX7_ringsOnce_59_1_ok : dcAll cX7_ringsOnce dtX7_ringsOnce_59_1 = true := by decide +kernel
theorem dX7_ringsOnce_59 : decode cX7_ringsOnce 59 = .ok (.iload 7, 2) := dc_of dtX7_ringsOnce_59_1_ok (i := 0) rfl
theorem dX7_ringsOnce_61 : decode cX7_ringsOnce 61 = .ok (.imul, 1) := dc_of dtX7_ringsOnce_59_1_ok (i := 1) rfl
theorem dX7_ringsOnce_62 : decode cX7_ringsOnce 62 = .ok (.aload_n 0, 1) := dc_of dtX7_ringsOnce_59_1_ok (i := 2) rfl
theorem dX7_ringsOnce_63 : decode cX7_ringsOnce 63 = .ok (.iload_n 2, 1) := dc_of dtX7_ringsOnce_59_1_ok (i := 3) rfl
theorem dX7_ringsOnce_64 : decode cX7_ringsOnce 64 = .ok (.iconst 0, 1) := dc_of dtX7_ringsOnce_59_1_ok (i := 4) rfl
theorem dX7_ringsOnce_65 : decode cX7_ringsOnce 65 = .ok (.iconst 0, 1) := dc_of dtX7_ringsOnce_59_1_ok (i := 5) rfl
theorem dX7_ringsOnce_66 : decode cX7_ringsOnce 66 = .ok (.invokevirtual 286, 3) := dc_of dtX7_ringsOnce_59_1_ok (i := 6) rfl
theorem dX7_ringsOnce_69 : decode cX7_ringsOnce 69 = .ok (.iadd, 1) := dc_of dtX7_ringsOnce_59_1_ok (i := 7) rfl
theorem dX7_ringsOnce_70 : decode cX7_ringsOnce 70 = .ok (.iaload, 1) := dc_of dtX7_ringsOnce_59_1_ok (i := 8) rfl
theorem dX7_ringsOnce_71 : decode cX7_ringsOnce 71 = .ok (.aload_n 0, 1) := dc_of dtX7_ringsOnce_59_1_ok (i := 9) rfl
theorem dX7_ringsOnce_72 : decode cX7_ringsOnce 72 = .ok (.getfield 24, 3) := dc_of dtX7_ringsOnce_59_1_ok (i := 10) rfl
theorem dX7_ringsOnce_75 : decode cX7_ringsOnce 75 = .ok (.iload 9, 2) := dc_of dtX7_ringsOnce_59_1_ok (i := 11) rfl
theorem dX7_ringsOnce_77 : decode cX7_ringsOnce 77 = .ok (.aload_n 0, 1) := dc_of dtX7_ringsOnce_59_1_ok (i := 12) rfl
theorem dX7_ringsOnce_78 : decode cX7_ringsOnce 78 = .ok (.iload_n 2, 1) := dc_of dtX7_ringsOnce_59_1_ok (i := 13) rfl
theorem dX7_ringsOnce_79 : decode cX7_ringsOnce 79 = .ok (.iconst 0, 1) := dc_of dtX7_ringsOnce_59_1_ok (i := 14) rfl
theorem dX7_ringsOnce_80 : decode cX7_ringsOnce 80 = .ok (.iconst 1, 1) := dc_of dtX7_ringsOnce_59_1_ok (i := 15) rfl
theorem dX7_ringsOnce_81 : decode cX7_ringsOnce 81 = .ok (.invokevirtual 286, 3) := dc_of dtX7_ringsOnce_59_1_ok (i := 16) rfl
theorem dX7_ringsOnce_84 : decode cX7_ringsOnce 84 = .ok (.iadd, 1) := dc_of dtX7_ringsOnce_59_1_ok (i := 17) rfl
theorem dX7_ringsOnce_85 : decode cX7_ringsOnce 85 = .ok (.iaload, 1) := dc_of dtX7_ringsOnce_59_1_ok (i := 18) rfl
theorem dX7_ringsOnce_86 : decode cX7_ringsOnce 86 = .ok (.if_icmp .eq 6, 3) := dc_of dtX7_ringsOnce_59_1_ok (i := 19) rfl
theorem dX7_ringsOnce_89 : decode cX7_ringsOnce 89 = .ok (.goto 157, 3) := dc_of dtX7_ringsOnce_59_1_ok (i := 20) rfl
theorem dX7_ringsOnce_92 : decode cX7_ringsOnce 92 = .ok (.iconst 0, 1) := dc_of dtX7_ringsOnce_59_1_ok (i := 21) rfl
theorem dX7_ringsOnce_93 : decode cX7_ringsOnce 93 = .ok (.istore 10, 2) := dc_of dtX7_ringsOnce_59_1_ok (i := 22) rfl
theorem dX7_ringsOnce_95 : decode cX7_ringsOnce 95 = .ok (.iload 10, 2) := dc_of dtX7_ringsOnce_59_1_ok (i := 23) rfl
theorem dX7_ringsOnce_97 : decode cX7_ringsOnce 97 = .ok (.iload_n 3, 1) := dc_of dtX7_ringsOnce_59_1_ok (i := 24) rfl
theorem dX7_ringsOnce_98 : decode cX7_ringsOnce 98 = .ok (.if_icmp .ge 28, 3) := dc_of dtX7_ringsOnce_59_1_ok (i := 25) rfl
theorem dX7_ringsOnce_101 : decode cX7_ringsOnce 101 = .ok (.aload_n 0, 1) := dc_of dtX7_ringsOnce_59_1_ok (i := 26) rfl
theorem dX7_ringsOnce_102 : decode cX7_ringsOnce 102 = .ok (.getfield 48, 3) := dc_of dtX7_ringsOnce_59_1_ok (i := 27) rfl
theorem dX7_ringsOnce_105 : decode cX7_ringsOnce 105 = .ok (.iload 10, 2) := dc_of dtX7_ringsOnce_59_1_ok (i := 28) rfl
theorem dX7_ringsOnce_107 : decode cX7_ringsOnce 107 = .ok (.aload_n 0, 1) := dc_of dtX7_ringsOnce_59_1_ok (i := 29) rfl
theorem dX7_ringsOnce_108 : decode cX7_ringsOnce 108 = .ok (.getfield 54, 3) := dc_of dtX7_ringsOnce_59_1_ok (i := 30) rfl
theorem dX7_ringsOnce_111 : decode cX7_ringsOnce 111 = .ok (.iconst 4, 1) := dc_of dtX7_ringsOnce_59_1_ok (i := 31) rfl
def dtX7_ringsOnce_112_2 : List (Nat × Instr × Nat) := [(112, .iload 7, 2), (114, .imul, 1), (115, .iload 10, 2), (117, .iadd, 1), (118, .iaload, 1), (119, .iastore, 1), (120, .iinc 10 1, 3), (123, .goto (-28), 3), (126, .iconst 0, 1), (127, .istore 10, 2), (129, .iload 10, 2), (131, .aload_n 0, 1), (132, .iload 6, 2), (134, .invokevirtual 301, 3), (137, .if_icmp .ge 28, 3), (140, .aload_n 0, 1), (141, .getfield 48, 3), (144, .iload_n 3, 1), (145, .iload 10, 2), (147, .iadd, 1), (148, .aload_n 0, 1), (149, .getfield 24, 3), (152, .iload 9, 2), (154, .iload 10, 2), (156, .iadd, 1), (157, .iaload, 1), (158, .iastore, 1), (159, .iinc 10 1, 3), (162, .goto (-33), 3), (165, .aload_n 0, 1), (166, .iload_n 2, 1), (167, .iconst 1, 1)]
theorem dtX7_ringsOnce_112_2_ok : dcAll cX7_ringsOnce dtX7_ringsOnce_112_2 = true := by decide +kernel
theorem dX7_ringsOnce_112 : decode cX7_ringsOnce 112 = .ok (.iload 7, 2) := dc_of dtX7_ringsOnce_112_2_ok (i := 0) rfl
theorem dX7_ringsOnce_114 : decode cX7_ringsOnce 114 = .ok (.imul, 1) := dc_of dtX7_ringsOnce_112_2_ok (i := 1) rfl
theorem dX7_ringsOnce_115 : decode cX7_ringsOnce 115 = .ok (.iload 10, 2) := dc_of dtX7_ringsOnce_112_2_ok (i := 2) rfl
theorem dX7_ringsOnce_117 : decode cX7_ringsOnce 117 = .ok (.iadd, 1) := dc_of dtX7_ringsOnce_112_2_ok (i := 3) rfl
theorem dX7_ringsOnce_118 : decode cX7_ringsOnce 118 = .ok (.iaload, 1) := dc_of dtX7_ringsOnce_112_2_ok (i := 4) rfl
theorem dX7_ringsOnce_119 : decode cX7_ringsOnce 119 = .ok (.iastore, 1) := dc_of dtX7_ringsOnce_112_2_ok (i := 5) rfl
theorem dX7_ringsOnce_120 : decode cX7_ringsOnce 120 = .ok (.iinc 10 1, 3) := dc_of dtX7_ringsOnce_112_2_ok (i := 6) rfl
theorem dX7_ringsOnce_123 : decode cX7_ringsOnce 123 = .ok (.goto (-28), 3) := dc_of dtX7_ringsOnce_112_2_ok (i := 7) rfl
theorem dX7_ringsOnce_126 : decode cX7_ringsOnce 126 = .ok (.iconst 0, 1) := dc_of dtX7_ringsOnce_112_2_ok (i := 8) rfl
theorem dX7_ringsOnce_127 : decode cX7_ringsOnce 127 = .ok (.istore 10, 2) := dc_of dtX7_ringsOnce_112_2_ok (i := 9) rfl
theorem dX7_ringsOnce_129 : decode cX7_ringsOnce 129 = .ok (.iload 10, 2) := dc_of dtX7_ringsOnce_112_2_ok (i := 10) rfl
theorem dX7_ringsOnce_131 : decode cX7_ringsOnce 131 = .ok (.aload_n 0, 1) := dc_of dtX7_ringsOnce_112_2_ok (i := 11) rfl
theorem dX7_ringsOnce_132 : decode cX7_ringsOnce 132 = .ok (.iload 6, 2) := dc_of dtX7_ringsOnce_112_2_ok (i := 12) rfl
theorem dX7_ringsOnce_134 : decode cX7_ringsOnce 134 = .ok (.invokevirtual 301, 3) := dc_of dtX7_ringsOnce_112_2_ok (i := 13) rfl
theorem dX7_ringsOnce_137 : decode cX7_ringsOnce 137 = .ok (.if_icmp .ge 28, 3) := dc_of dtX7_ringsOnce_112_2_ok (i := 14) rfl
theorem dX7_ringsOnce_140 : decode cX7_ringsOnce 140 = .ok (.aload_n 0, 1) := dc_of dtX7_ringsOnce_112_2_ok (i := 15) rfl
theorem dX7_ringsOnce_141 : decode cX7_ringsOnce 141 = .ok (.getfield 48, 3) := dc_of dtX7_ringsOnce_112_2_ok (i := 16) rfl
theorem dX7_ringsOnce_144 : decode cX7_ringsOnce 144 = .ok (.iload_n 3, 1) := dc_of dtX7_ringsOnce_112_2_ok (i := 17) rfl
theorem dX7_ringsOnce_145 : decode cX7_ringsOnce 145 = .ok (.iload 10, 2) := dc_of dtX7_ringsOnce_112_2_ok (i := 18) rfl
theorem dX7_ringsOnce_147 : decode cX7_ringsOnce 147 = .ok (.iadd, 1) := dc_of dtX7_ringsOnce_112_2_ok (i := 19) rfl
theorem dX7_ringsOnce_148 : decode cX7_ringsOnce 148 = .ok (.aload_n 0, 1) := dc_of dtX7_ringsOnce_112_2_ok (i := 20) rfl
theorem dX7_ringsOnce_149 : decode cX7_ringsOnce 149 = .ok (.getfield 24, 3) := dc_of dtX7_ringsOnce_112_2_ok (i := 21) rfl
theorem dX7_ringsOnce_152 : decode cX7_ringsOnce 152 = .ok (.iload 9, 2) := dc_of dtX7_ringsOnce_112_2_ok (i := 22) rfl
theorem dX7_ringsOnce_154 : decode cX7_ringsOnce 154 = .ok (.iload 10, 2) := dc_of dtX7_ringsOnce_112_2_ok (i := 23) rfl
theorem dX7_ringsOnce_156 : decode cX7_ringsOnce 156 = .ok (.iadd, 1) := dc_of dtX7_ringsOnce_112_2_ok (i := 24) rfl
theorem dX7_ringsOnce_157 : decode cX7_ringsOnce 157 = .ok (.iaload, 1) := dc_of dtX7_ringsOnce_112_2_ok (i := 25) rfl
theorem dX7_ringsOnce_158 : decode cX7_ringsOnce 158 = .ok (.iastore, 1) := dc_of dtX7_ringsOnce_112_2_ok (i := 26) rfl
theorem dX7_ringsOnce_159 : decode cX7_ringsOnce 159 = .ok (.iinc 10 1, 3) := dc_of dtX7_ringsOnce_112_2_ok (i := 27) rfl
theorem dX7_ringsOnce_162 : decode cX7_ringsOnce 162 = .ok (.goto (-33), 3) := dc_of dtX7_ringsOnce_112_2_ok (i := 28) rfl
theorem dX7_ringsOnce_165 : decode cX7_ringsOnce 165 = .ok (.aload_n 0, 1) := dc_of dtX7_ringsOnce_112_2_ok (i := 29) rfl
theorem dX7_ringsOnce_166 : decode cX7_ringsOnce 166 = .ok (.iload_n 2, 1) := dc_of dtX7_ringsOnce_112_2_ok (i := 30) rfl
theorem dX7_ringsOnce_167 : decode cX7_ringsOnce 167 = .ok (.iconst 1, 1) := dc_of dtX7_ringsOnce_112_2_ok (i := 31) rfl
def dtX7_ringsOnce_168_3 : List (Nat × Instr × Nat) := [(168, .iload_n 3, 1), (169, .invokevirtual 318, 3), (172, .aload_n 0, 1), (173, .invokevirtual 276, 3), (176, .istore 10, 2), (178, .iload 10, 2), (180, .aload_n 0, 1), (181, .getfield 269, 3), (184, .if_icmp .ge 26, 3), (187, .aload_n 0, 1), (188, .getfield 42, 3), (191, .bipush 6, 2), (193, .iload 10, 2), (195, .imul, 1), (196, .aload_n 0, 1), (197, .getfield 45, 3), (200, .iconst 0, 1), (201, .invokestatic 272, 3), (204, .ifCond .ne 6, 3), (207, .goto 39, 3), (210, .iload 5, 2), (212, .bipush 40, 2), (214, .if_icmp .le 6, 3), (217, .bipush (-4), 2), (219, .ireturn, 1), (220, .aload_n 0, 1), (221, .iconst 1, 1), (222, .iload 5, 2), (224, .invokevirtual 304, 3), (227, .istore 11, 2), (229, .iload 11, 2), (231, .ifCond .eq 15, 3)]
theorem dtX7_ringsOnce_168_3_ok : dcAll cX7_ringsOnce dtX7_ringsOnce_168_3 = true := by decide +kernel
theorem dX7_ringsOnce_168 : decode cX7_ringsOnce 168 = .ok (.iload_n 3, 1) := dc_of dtX7_ringsOnce_168_3_ok (i := 0) rfl
theorem dX7_ringsOnce_169 : decode cX7_ringsOnce 169 = .ok (.invokevirtual 318, 3) := dc_of dtX7_ringsOnce_168_3_ok (i := 1) rfl
theorem dX7_ringsOnce_172 : decode cX7_ringsOnce 172 = .ok (.aload_n 0, 1) := dc_of dtX7_ringsOnce_168_3_ok (i := 2) rfl
theorem dX7_ringsOnce_173 : decode cX7_ringsOnce 173 = .ok (.invokevirtual 276, 3) := dc_of dtX7_ringsOnce_168_3_ok (i := 3) rfl
theorem dX7_ringsOnce_176 : decode cX7_ringsOnce 176 = .ok (.istore 10, 2) := dc_of dtX7_ringsOnce_168_3_ok (i := 4) rfl
theorem dX7_ringsOnce_178 : decode cX7_ringsOnce 178 = .ok (.iload 10, 2) := dc_of dtX7_ringsOnce_168_3_ok (i := 5) rfl
theorem dX7_ringsOnce_180 : decode cX7_ringsOnce 180 = .ok (.aload_n 0, 1) := dc_of dtX7_ringsOnce_168_3_ok (i := 6) rfl
theorem dX7_ringsOnce_181 : decode cX7_ringsOnce 181 = .ok (.getfield 269, 3) := dc_of dtX7_ringsOnce_168_3_ok (i := 7) rfl
theorem dX7_ringsOnce_184 : decode cX7_ringsOnce 184 = .ok (.if_icmp .ge 26, 3) := dc_of dtX7_ringsOnce_168_3_ok (i := 8) rfl
theorem dX7_ringsOnce_187 : decode cX7_ringsOnce 187 = .ok (.aload_n 0, 1) := dc_of dtX7_ringsOnce_168_3_ok (i := 9) rfl
theorem dX7_ringsOnce_188 : decode cX7_ringsOnce 188 = .ok (.getfield 42, 3) := dc_of dtX7_ringsOnce_168_3_ok (i := 10) rfl
theorem dX7_ringsOnce_191 : decode cX7_ringsOnce 191 = .ok (.bipush 6, 2) := dc_of dtX7_ringsOnce_168_3_ok (i := 11) rfl
theorem dX7_ringsOnce_193 : decode cX7_ringsOnce 193 = .ok (.iload 10, 2) := dc_of dtX7_ringsOnce_168_3_ok (i := 12) rfl
theorem dX7_ringsOnce_195 : decode cX7_ringsOnce 195 = .ok (.imul, 1) := dc_of dtX7_ringsOnce_168_3_ok (i := 13) rfl
theorem dX7_ringsOnce_196 : decode cX7_ringsOnce 196 = .ok (.aload_n 0, 1) := dc_of dtX7_ringsOnce_168_3_ok (i := 14) rfl
theorem dX7_ringsOnce_197 : decode cX7_ringsOnce 197 = .ok (.getfield 45, 3) := dc_of dtX7_ringsOnce_168_3_ok (i := 15) rfl
theorem dX7_ringsOnce_200 : decode cX7_ringsOnce 200 = .ok (.iconst 0, 1) := dc_of dtX7_ringsOnce_168_3_ok (i := 16) rfl
theorem dX7_ringsOnce_201 : decode cX7_ringsOnce 201 = .ok (.invokestatic 272, 3) := dc_of dtX7_ringsOnce_168_3_ok (i := 17) rfl
theorem dX7_ringsOnce_204 : decode cX7_ringsOnce 204 = .ok (.ifCond .ne 6, 3) := dc_of dtX7_ringsOnce_168_3_ok (i := 18) rfl
theorem dX7_ringsOnce_207 : decode cX7_ringsOnce 207 = .ok (.goto 39, 3) := dc_of dtX7_ringsOnce_168_3_ok (i := 19) rfl
theorem dX7_ringsOnce_210 : decode cX7_ringsOnce 210 = .ok (.iload 5, 2) := dc_of dtX7_ringsOnce_168_3_ok (i := 20) rfl
theorem dX7_ringsOnce_212 : decode cX7_ringsOnce 212 = .ok (.bipush 40, 2) := dc_of dtX7_ringsOnce_168_3_ok (i := 21) rfl
theorem dX7_ringsOnce_214 : decode cX7_ringsOnce 214 = .ok (.if_icmp .le 6, 3) := dc_of dtX7_ringsOnce_168_3_ok (i := 22) rfl
theorem dX7_ringsOnce_217 : decode cX7_ringsOnce 217 = .ok (.bipush (-4), 2) := dc_of dtX7_ringsOnce_168_3_ok (i := 23) rfl
theorem dX7_ringsOnce_219 : decode cX7_ringsOnce 219 = .ok (.ireturn, 1) := dc_of dtX7_ringsOnce_168_3_ok (i := 24) rfl
theorem dX7_ringsOnce_220 : decode cX7_ringsOnce 220 = .ok (.aload_n 0, 1) := dc_of dtX7_ringsOnce_168_3_ok (i := 25) rfl
theorem dX7_ringsOnce_221 : decode cX7_ringsOnce 221 = .ok (.iconst 1, 1) := dc_of dtX7_ringsOnce_168_3_ok (i := 26) rfl
theorem dX7_ringsOnce_222 : decode cX7_ringsOnce 222 = .ok (.iload 5, 2) := dc_of dtX7_ringsOnce_168_3_ok (i := 27) rfl
theorem dX7_ringsOnce_224 : decode cX7_ringsOnce 224 = .ok (.invokevirtual 304, 3) := dc_of dtX7_ringsOnce_168_3_ok (i := 28) rfl
theorem dX7_ringsOnce_227 : decode cX7_ringsOnce 227 = .ok (.istore 11, 2) := dc_of dtX7_ringsOnce_168_3_ok (i := 29) rfl
theorem dX7_ringsOnce_229 : decode cX7_ringsOnce 229 = .ok (.iload 11, 2) := dc_of dtX7_ringsOnce_168_3_ok (i := 30) rfl
theorem dX7_ringsOnce_231 : decode cX7_ringsOnce 231 = .ok (.ifCond .eq 15, 3) := dc_of dtX7_ringsOnce_168_3_ok (i := 31) rfl
def dtX7_ringsOnce_234_4 : List (Nat × Instr × Nat) := [(234, .aload_n 0, 1), (235, .getfield 269, 3), (238, .bipush 120, 2), (240, .if_icmp .le 6, 3), (243, .bipush (-3), 2), (245, .ireturn, 1), (246, .iinc 8 1, 3), (249, .goto (-229), 3), (252, .iinc 7 1, 3), (255, .goto (-245), 3), (258, .iconst 0, 1), (259, .ireturn, 1)]
theorem dtX7_ringsOnce_234_4_ok : dcAll cX7_ringsOnce dtX7_ringsOnce_234_4 = true := by decide +kernel
theorem dX7_ringsOnce_234 : decode cX7_ringsOnce 234 = .ok (.aload_n 0, 1) := dc_of dtX7_ringsOnce_234_4_ok (i := 0) rfl
theorem dX7_ringsOnce_235 : decode cX7_ringsOnce 235 = .ok (.getfield 269, 3) := dc_of dtX7_ringsOnce_234_4_ok (i := 1) rfl
theorem dX7_ringsOnce_238 : decode cX7_ringsOnce 238 = .ok (.bipush 120, 2) := dc_of dtX7_ringsOnce_234_4_ok (i := 2) rfl
theorem dX7_ringsOnce_240 : decode cX7_ringsOnce 240 = .ok (.if_icmp .le 6, 3) := dc_of dtX7_ringsOnce_234_4_ok (i := 3) rfl
theorem dX7_ringsOnce_243 : decode cX7_ringsOnce 243 = .ok (.bipush (-3), 2) := dc_of dtX7_ringsOnce_234_4_ok (i := 4) rfl
theorem dX7_ringsOnce_245 : decode cX7_ringsOnce 245 = .ok (.ireturn, 1) := dc_of dtX7_ringsOnce_234_4_ok (i := 5) rfl
theorem dX7_ringsOnce_246 : decode cX7_ringsOnce 246 = .ok (.iinc 8 1, 3) := dc_of dtX7_ringsOnce_234_4_ok (i := 6) rfl
theorem dX7_ringsOnce_249 : decode cX7_ringsOnce 249 = .ok (.goto (-229), 3) := dc_of dtX7_ringsOnce_234_4_ok (i := 7) rfl
theorem dX7_ringsOnce_252 : decode cX7_ringsOnce 252 = .ok (.iinc 7 1, 3) := dc_of dtX7_ringsOnce_234_4_ok (i := 8) rfl
theorem dX7_ringsOnce_255 : decode cX7_ringsOnce 255 = .ok (.goto (-245), 3) := dc_of dtX7_ringsOnce_234_4_ok (i := 9) rfl
theorem dX7_ringsOnce_258 : decode cX7_ringsOnce 258 = .ok (.iconst 0, 1) := dc_of dtX7_ringsOnce_234_4_ok (i := 10) rfl
theorem dX7_ringsOnce_259 : decode cX7_ringsOnce 259 = .ok (.ireturn, 1) := dc_of dtX7_ringsOnce_234_4_ok (i := 11) rfl
def dtX7_reckons_0_0 : List (Nat × Instr × Nat) := [(0, .aload_n 0, 1), (1, .iconst 0, 1), (2, .putfield 269, 3), (5, .aload_n 0, 1), (6, .iload_n 2, 1), (7, .invokevirtual 289, 3), (10, .istore_n 3, 1), (11, .aload_n 0, 1), (12, .iload_n 2, 1), (13, .invokevirtual 322, 3), (16, .istore 4, 2), (18, .iload 4, 2), (20, .iconst 3, 1), (21, .if_icmp .ne 28, 3), (24, .aload_n 0, 1), (25, .iload_n 1, 1), (26, .iload_n 2, 1), (27, .invokevirtual 325, 3), (30, .istore 5, 2), (32, .iload 5, 2), (34, .ifCond .ge 8, 3), (37, .iload 5, 2), (39, .goto 9, 3), (42, .aload_n 0, 1), (43, .iload_n 1, 1), (44, .iload_n 2, 1), (45, .invokevirtual 328, 3), (48, .ireturn, 1), (49, .iload 4, 2), (51, .bipush 8, 2), (53, .if_icmp .ne 28, 3), (56, .aload_n 0, 1)]
theorem dtX7_reckons_0_0_ok : dcAll cX7_reckons dtX7_reckons_0_0 = true := by decide +kernel
theorem dX7_reckons_0 : decode cX7_reckons 0 = .ok (.aload_n 0, 1) := dc_of dtX7_reckons_0_0_ok (i := 0) rfl
theorem dX7_reckons_1 : decode cX7_reckons 1 = .ok (.iconst 0, 1) := dc_of dtX7_reckons_0_0_ok (i := 1) rfl
theorem dX7_reckons_2 : decode cX7_reckons 2 = .ok (.putfield 269, 3) := dc_of dtX7_reckons_0_0_ok (i := 2) rfl
theorem dX7_reckons_5 : decode cX7_reckons 5 = .ok (.aload_n 0, 1) := dc_of dtX7_reckons_0_0_ok (i := 3) rfl
theorem dX7_reckons_6 : decode cX7_reckons 6 = .ok (.iload_n 2, 1) := dc_of dtX7_reckons_0_0_ok (i := 4) rfl
theorem dX7_reckons_7 : decode cX7_reckons 7 = .ok (.invokevirtual 289, 3) := dc_of dtX7_reckons_0_0_ok (i := 5) rfl
theorem dX7_reckons_10 : decode cX7_reckons 10 = .ok (.istore_n 3, 1) := dc_of dtX7_reckons_0_0_ok (i := 6) rfl
theorem dX7_reckons_11 : decode cX7_reckons 11 = .ok (.aload_n 0, 1) := dc_of dtX7_reckons_0_0_ok (i := 7) rfl
theorem dX7_reckons_12 : decode cX7_reckons 12 = .ok (.iload_n 2, 1) := dc_of dtX7_reckons_0_0_ok (i := 8) rfl
theorem dX7_reckons_13 : decode cX7_reckons 13 = .ok (.invokevirtual 322, 3) := dc_of dtX7_reckons_0_0_ok (i := 9) rfl
theorem dX7_reckons_16 : decode cX7_reckons 16 = .ok (.istore 4, 2) := dc_of dtX7_reckons_0_0_ok (i := 10) rfl
theorem dX7_reckons_18 : decode cX7_reckons 18 = .ok (.iload 4, 2) := dc_of dtX7_reckons_0_0_ok (i := 11) rfl
theorem dX7_reckons_20 : decode cX7_reckons 20 = .ok (.iconst 3, 1) := dc_of dtX7_reckons_0_0_ok (i := 12) rfl
theorem dX7_reckons_21 : decode cX7_reckons 21 = .ok (.if_icmp .ne 28, 3) := dc_of dtX7_reckons_0_0_ok (i := 13) rfl
theorem dX7_reckons_24 : decode cX7_reckons 24 = .ok (.aload_n 0, 1) := dc_of dtX7_reckons_0_0_ok (i := 14) rfl
theorem dX7_reckons_25 : decode cX7_reckons 25 = .ok (.iload_n 1, 1) := dc_of dtX7_reckons_0_0_ok (i := 15) rfl
theorem dX7_reckons_26 : decode cX7_reckons 26 = .ok (.iload_n 2, 1) := dc_of dtX7_reckons_0_0_ok (i := 16) rfl
theorem dX7_reckons_27 : decode cX7_reckons 27 = .ok (.invokevirtual 325, 3) := dc_of dtX7_reckons_0_0_ok (i := 17) rfl
theorem dX7_reckons_30 : decode cX7_reckons 30 = .ok (.istore 5, 2) := dc_of dtX7_reckons_0_0_ok (i := 18) rfl
theorem dX7_reckons_32 : decode cX7_reckons 32 = .ok (.iload 5, 2) := dc_of dtX7_reckons_0_0_ok (i := 19) rfl
theorem dX7_reckons_34 : decode cX7_reckons 34 = .ok (.ifCond .ge 8, 3) := dc_of dtX7_reckons_0_0_ok (i := 20) rfl
theorem dX7_reckons_37 : decode cX7_reckons 37 = .ok (.iload 5, 2) := dc_of dtX7_reckons_0_0_ok (i := 21) rfl
theorem dX7_reckons_39 : decode cX7_reckons 39 = .ok (.goto 9, 3) := dc_of dtX7_reckons_0_0_ok (i := 22) rfl
theorem dX7_reckons_42 : decode cX7_reckons 42 = .ok (.aload_n 0, 1) := dc_of dtX7_reckons_0_0_ok (i := 23) rfl
theorem dX7_reckons_43 : decode cX7_reckons 43 = .ok (.iload_n 1, 1) := dc_of dtX7_reckons_0_0_ok (i := 24) rfl
theorem dX7_reckons_44 : decode cX7_reckons 44 = .ok (.iload_n 2, 1) := dc_of dtX7_reckons_0_0_ok (i := 25) rfl
theorem dX7_reckons_45 : decode cX7_reckons 45 = .ok (.invokevirtual 328, 3) := dc_of dtX7_reckons_0_0_ok (i := 26) rfl
theorem dX7_reckons_48 : decode cX7_reckons 48 = .ok (.ireturn, 1) := dc_of dtX7_reckons_0_0_ok (i := 27) rfl
theorem dX7_reckons_49 : decode cX7_reckons 49 = .ok (.iload 4, 2) := dc_of dtX7_reckons_0_0_ok (i := 28) rfl
theorem dX7_reckons_51 : decode cX7_reckons 51 = .ok (.bipush 8, 2) := dc_of dtX7_reckons_0_0_ok (i := 29) rfl
theorem dX7_reckons_53 : decode cX7_reckons 53 = .ok (.if_icmp .ne 28, 3) := dc_of dtX7_reckons_0_0_ok (i := 30) rfl
theorem dX7_reckons_56 : decode cX7_reckons 56 = .ok (.aload_n 0, 1) := dc_of dtX7_reckons_0_0_ok (i := 31) rfl
def dtX7_reckons_57_1 : List (Nat × Instr × Nat) := [(57, .iload_n 1, 1), (58, .iload_n 2, 1), (59, .invokevirtual 331, 3), (62, .istore 5, 2), (64, .iload 5, 2), (66, .ifCond .ge 8, 3), (69, .iload 5, 2), (71, .goto 9, 3), (74, .aload_n 0, 1), (75, .iload_n 1, 1), (76, .iload_n 2, 1), (77, .invokevirtual 328, 3), (80, .ireturn, 1), (81, .iload 4, 2), (83, .bipush 7, 2), (85, .if_icmp .ne 16, 3), (88, .aload_n 0, 1), (89, .iload_n 1, 1), (90, .iload_n 2, 1), (91, .invokevirtual 334, 3), (94, .aload_n 0, 1), (95, .iload_n 1, 1), (96, .iload_n 2, 1), (97, .invokevirtual 328, 3), (100, .ireturn, 1), (101, .iconst 0, 1), (102, .istore 5, 2), (104, .iload 5, 2), (106, .aload_n 0, 1), (107, .iload_n 1, 1), (108, .iload_n 3, 1), (109, .invokevirtual 295, 3)]
theorem dtX7_reckons_57_1_ok : dcAll cX7_reckons dtX7_reckons_57_1 = true := by decide +kernel
theorem dX7_reckons_57 : decode cX7_reckons 57 = .ok (.iload_n 1, 1) := dc_of dtX7_reckons_57_1_ok (i := 0) rfl
theorem dX7_reckons_58 : decode cX7_reckons 58 = .ok (.iload_n 2, 1) := dc_of dtX7_reckons_57_1_ok (i := 1) rfl
theorem dX7_reckons_59 : decode cX7_reckons 59 = .ok (.invokevirtual 331, 3) := dc_of dtX7_reckons_57_1_ok (i := 2) rfl
theorem dX7_reckons_62 : decode cX7_reckons 62 = .ok (.istore 5, 2) := dc_of dtX7_reckons_57_1_ok (i := 3) rfl
theorem dX7_reckons_64 : decode cX7_reckons 64 = .ok (.iload 5, 2) := dc_of dtX7_reckons_57_1_ok (i := 4) rfl
theorem dX7_reckons_66 : decode cX7_reckons 66 = .ok (.ifCond .ge 8, 3) := dc_of dtX7_reckons_57_1_ok (i := 5) rfl
theorem dX7_reckons_69 : decode cX7_reckons 69 = .ok (.iload 5, 2) := dc_of dtX7_reckons_57_1_ok (i := 6) rfl
theorem dX7_reckons_71 : decode cX7_reckons 71 = .ok (.goto 9, 3) := dc_of dtX7_reckons_57_1_ok (i := 7) rfl
theorem dX7_reckons_74 : decode cX7_reckons 74 = .ok (.aload_n 0, 1) := dc_of dtX7_reckons_57_1_ok (i := 8) rfl
theorem dX7_reckons_75 : decode cX7_reckons 75 = .ok (.iload_n 1, 1) := dc_of dtX7_reckons_57_1_ok (i := 9) rfl
theorem dX7_reckons_76 : decode cX7_reckons 76 = .ok (.iload_n 2, 1) := dc_of dtX7_reckons_57_1_ok (i := 10) rfl
theorem dX7_reckons_77 : decode cX7_reckons 77 = .ok (.invokevirtual 328, 3) := dc_of dtX7_reckons_57_1_ok (i := 11) rfl
theorem dX7_reckons_80 : decode cX7_reckons 80 = .ok (.ireturn, 1) := dc_of dtX7_reckons_57_1_ok (i := 12) rfl
theorem dX7_reckons_81 : decode cX7_reckons 81 = .ok (.iload 4, 2) := dc_of dtX7_reckons_57_1_ok (i := 13) rfl
theorem dX7_reckons_83 : decode cX7_reckons 83 = .ok (.bipush 7, 2) := dc_of dtX7_reckons_57_1_ok (i := 14) rfl
theorem dX7_reckons_85 : decode cX7_reckons 85 = .ok (.if_icmp .ne 16, 3) := dc_of dtX7_reckons_57_1_ok (i := 15) rfl
theorem dX7_reckons_88 : decode cX7_reckons 88 = .ok (.aload_n 0, 1) := dc_of dtX7_reckons_57_1_ok (i := 16) rfl
theorem dX7_reckons_89 : decode cX7_reckons 89 = .ok (.iload_n 1, 1) := dc_of dtX7_reckons_57_1_ok (i := 17) rfl
theorem dX7_reckons_90 : decode cX7_reckons 90 = .ok (.iload_n 2, 1) := dc_of dtX7_reckons_57_1_ok (i := 18) rfl
theorem dX7_reckons_91 : decode cX7_reckons 91 = .ok (.invokevirtual 334, 3) := dc_of dtX7_reckons_57_1_ok (i := 19) rfl
theorem dX7_reckons_94 : decode cX7_reckons 94 = .ok (.aload_n 0, 1) := dc_of dtX7_reckons_57_1_ok (i := 20) rfl
theorem dX7_reckons_95 : decode cX7_reckons 95 = .ok (.iload_n 1, 1) := dc_of dtX7_reckons_57_1_ok (i := 21) rfl
theorem dX7_reckons_96 : decode cX7_reckons 96 = .ok (.iload_n 2, 1) := dc_of dtX7_reckons_57_1_ok (i := 22) rfl
theorem dX7_reckons_97 : decode cX7_reckons 97 = .ok (.invokevirtual 328, 3) := dc_of dtX7_reckons_57_1_ok (i := 23) rfl
theorem dX7_reckons_100 : decode cX7_reckons 100 = .ok (.ireturn, 1) := dc_of dtX7_reckons_57_1_ok (i := 24) rfl
theorem dX7_reckons_101 : decode cX7_reckons 101 = .ok (.iconst 0, 1) := dc_of dtX7_reckons_57_1_ok (i := 25) rfl
theorem dX7_reckons_102 : decode cX7_reckons 102 = .ok (.istore 5, 2) := dc_of dtX7_reckons_57_1_ok (i := 26) rfl
theorem dX7_reckons_104 : decode cX7_reckons 104 = .ok (.iload 5, 2) := dc_of dtX7_reckons_57_1_ok (i := 27) rfl
theorem dX7_reckons_106 : decode cX7_reckons 106 = .ok (.aload_n 0, 1) := dc_of dtX7_reckons_57_1_ok (i := 28) rfl
theorem dX7_reckons_107 : decode cX7_reckons 107 = .ok (.iload_n 1, 1) := dc_of dtX7_reckons_57_1_ok (i := 29) rfl
theorem dX7_reckons_108 : decode cX7_reckons 108 = .ok (.iload_n 3, 1) := dc_of dtX7_reckons_57_1_ok (i := 30) rfl
theorem dX7_reckons_109 : decode cX7_reckons 109 = .ok (.invokevirtual 295, 3) := dc_of dtX7_reckons_57_1_ok (i := 31) rfl
def dtX7_reckons_112_2 : List (Nat × Instr × Nat) := [(112, .if_icmp .ge 165, 3), (115, .iload_n 1, 1), (116, .iload_n 3, 1), (117, .iload 5, 2), (119, .invokestatic 279, 3), (122, .istore 6, 2), (124, .aload_n 0, 1), (125, .getfield 24, 3), (128, .iload 6, 2), (130, .iconst 4, 1), (131, .iadd, 1), (132, .iaload, 1), (133, .istore 7, 2), (135, .iload 4, 2), (137, .iconst 1, 1), (138, .if_icmp .ne 13, 3), (141, .aload_n 0, 1), (142, .iload_n 2, 1), (143, .iload 6, 2), (145, .invokevirtual 337, 3), (148, .goto 20, 3), (151, .iload 4, 2), (153, .bipush 6, 2), (155, .if_icmp .ne 8, 3), (158, .iload 7, 2), (160, .ifCond .le 7, 3), (163, .iconst 1, 1), (164, .goto 4, 3), (167, .iconst 0, 1), (168, .istore 8, 2), (170, .iload 8, 2), (172, .ifCond .ne 6, 3)]
theorem dtX7_reckons_112_2_ok : dcAll cX7_reckons dtX7_reckons_112_2 = true := by decide +kernel
theorem dX7_reckons_112 : decode cX7_reckons 112 = .ok (.if_icmp .ge 165, 3) := dc_of dtX7_reckons_112_2_ok (i := 0) rfl
theorem dX7_reckons_115 : decode cX7_reckons 115 = .ok (.iload_n 1, 1) := dc_of dtX7_reckons_112_2_ok (i := 1) rfl
theorem dX7_reckons_116 : decode cX7_reckons 116 = .ok (.iload_n 3, 1) := dc_of dtX7_reckons_112_2_ok (i := 2) rfl
theorem dX7_reckons_117 : decode cX7_reckons 117 = .ok (.iload 5, 2) := dc_of dtX7_reckons_112_2_ok (i := 3) rfl
theorem dX7_reckons_119 : decode cX7_reckons 119 = .ok (.invokestatic 279, 3) := dc_of dtX7_reckons_112_2_ok (i := 4) rfl
theorem dX7_reckons_122 : decode cX7_reckons 122 = .ok (.istore 6, 2) := dc_of dtX7_reckons_112_2_ok (i := 5) rfl
theorem dX7_reckons_124 : decode cX7_reckons 124 = .ok (.aload_n 0, 1) := dc_of dtX7_reckons_112_2_ok (i := 6) rfl
theorem dX7_reckons_125 : decode cX7_reckons 125 = .ok (.getfield 24, 3) := dc_of dtX7_reckons_112_2_ok (i := 7) rfl
theorem dX7_reckons_128 : decode cX7_reckons 128 = .ok (.iload 6, 2) := dc_of dtX7_reckons_112_2_ok (i := 8) rfl
theorem dX7_reckons_130 : decode cX7_reckons 130 = .ok (.iconst 4, 1) := dc_of dtX7_reckons_112_2_ok (i := 9) rfl
theorem dX7_reckons_131 : decode cX7_reckons 131 = .ok (.iadd, 1) := dc_of dtX7_reckons_112_2_ok (i := 10) rfl
theorem dX7_reckons_132 : decode cX7_reckons 132 = .ok (.iaload, 1) := dc_of dtX7_reckons_112_2_ok (i := 11) rfl
theorem dX7_reckons_133 : decode cX7_reckons 133 = .ok (.istore 7, 2) := dc_of dtX7_reckons_112_2_ok (i := 12) rfl
theorem dX7_reckons_135 : decode cX7_reckons 135 = .ok (.iload 4, 2) := dc_of dtX7_reckons_112_2_ok (i := 13) rfl
theorem dX7_reckons_137 : decode cX7_reckons 137 = .ok (.iconst 1, 1) := dc_of dtX7_reckons_112_2_ok (i := 14) rfl
theorem dX7_reckons_138 : decode cX7_reckons 138 = .ok (.if_icmp .ne 13, 3) := dc_of dtX7_reckons_112_2_ok (i := 15) rfl
theorem dX7_reckons_141 : decode cX7_reckons 141 = .ok (.aload_n 0, 1) := dc_of dtX7_reckons_112_2_ok (i := 16) rfl
theorem dX7_reckons_142 : decode cX7_reckons 142 = .ok (.iload_n 2, 1) := dc_of dtX7_reckons_112_2_ok (i := 17) rfl
theorem dX7_reckons_143 : decode cX7_reckons 143 = .ok (.iload 6, 2) := dc_of dtX7_reckons_112_2_ok (i := 18) rfl
theorem dX7_reckons_145 : decode cX7_reckons 145 = .ok (.invokevirtual 337, 3) := dc_of dtX7_reckons_112_2_ok (i := 19) rfl
theorem dX7_reckons_148 : decode cX7_reckons 148 = .ok (.goto 20, 3) := dc_of dtX7_reckons_112_2_ok (i := 20) rfl
theorem dX7_reckons_151 : decode cX7_reckons 151 = .ok (.iload 4, 2) := dc_of dtX7_reckons_112_2_ok (i := 21) rfl
theorem dX7_reckons_153 : decode cX7_reckons 153 = .ok (.bipush 6, 2) := dc_of dtX7_reckons_112_2_ok (i := 22) rfl
theorem dX7_reckons_155 : decode cX7_reckons 155 = .ok (.if_icmp .ne 8, 3) := dc_of dtX7_reckons_112_2_ok (i := 23) rfl
theorem dX7_reckons_158 : decode cX7_reckons 158 = .ok (.iload 7, 2) := dc_of dtX7_reckons_112_2_ok (i := 24) rfl
theorem dX7_reckons_160 : decode cX7_reckons 160 = .ok (.ifCond .le 7, 3) := dc_of dtX7_reckons_112_2_ok (i := 25) rfl
theorem dX7_reckons_163 : decode cX7_reckons 163 = .ok (.iconst 1, 1) := dc_of dtX7_reckons_112_2_ok (i := 26) rfl
theorem dX7_reckons_164 : decode cX7_reckons 164 = .ok (.goto 4, 3) := dc_of dtX7_reckons_112_2_ok (i := 27) rfl
theorem dX7_reckons_167 : decode cX7_reckons 167 = .ok (.iconst 0, 1) := dc_of dtX7_reckons_112_2_ok (i := 28) rfl
theorem dX7_reckons_168 : decode cX7_reckons 168 = .ok (.istore 8, 2) := dc_of dtX7_reckons_112_2_ok (i := 29) rfl
theorem dX7_reckons_170 : decode cX7_reckons 170 = .ok (.iload 8, 2) := dc_of dtX7_reckons_112_2_ok (i := 30) rfl
theorem dX7_reckons_172 : decode cX7_reckons 172 = .ok (.ifCond .ne 6, 3) := dc_of dtX7_reckons_112_2_ok (i := 31) rfl
def dtX7_reckons_175_3 : List (Nat × Instr × Nat) := [(175, .goto 96, 3), (178, .aload_n 0, 1), (179, .iload 6, 2), (181, .invokevirtual 298, 3), (184, .iload 4, 2), (186, .iconst 2, 1), (187, .if_icmp .ne 46, 3), (190, .iconst 0, 1), (191, .istore 9, 2), (193, .iload 9, 2), (195, .iconst 4, 1), (196, .if_icmp .ge 26, 3), (199, .aload_n 0, 1), (200, .getfield 48, 3), (203, .iload 9, 2), (205, .aload_n 0, 1), (206, .getfield 24, 3), (209, .iload 6, 2), (211, .iload 9, 2), (213, .iadd, 1), (214, .iaload, 1), (215, .iastore, 1), (216, .iinc 9 1, 3), (219, .goto (-26), 3), (222, .aload_n 0, 1), (223, .iload_n 2, 1), (224, .iconst 0, 1), (225, .aload_n 0, 1), (226, .iload_n 2, 1), (227, .invokevirtual 283, 3), (230, .invokevirtual 318, 3), (233, .aload_n 0, 1)]
theorem dtX7_reckons_175_3_ok : dcAll cX7_reckons dtX7_reckons_175_3 = true := by decide +kernel
theorem dX7_reckons_175 : decode cX7_reckons 175 = .ok (.goto 96, 3) := dc_of dtX7_reckons_175_3_ok (i := 0) rfl
theorem dX7_reckons_178 : decode cX7_reckons 178 = .ok (.aload_n 0, 1) := dc_of dtX7_reckons_175_3_ok (i := 1) rfl
theorem dX7_reckons_179 : decode cX7_reckons 179 = .ok (.iload 6, 2) := dc_of dtX7_reckons_175_3_ok (i := 2) rfl
theorem dX7_reckons_181 : decode cX7_reckons 181 = .ok (.invokevirtual 298, 3) := dc_of dtX7_reckons_175_3_ok (i := 3) rfl
theorem dX7_reckons_184 : decode cX7_reckons 184 = .ok (.iload 4, 2) := dc_of dtX7_reckons_175_3_ok (i := 4) rfl
theorem dX7_reckons_186 : decode cX7_reckons 186 = .ok (.iconst 2, 1) := dc_of dtX7_reckons_175_3_ok (i := 5) rfl
theorem dX7_reckons_187 : decode cX7_reckons 187 = .ok (.if_icmp .ne 46, 3) := dc_of dtX7_reckons_175_3_ok (i := 6) rfl
theorem dX7_reckons_190 : decode cX7_reckons 190 = .ok (.iconst 0, 1) := dc_of dtX7_reckons_175_3_ok (i := 7) rfl
theorem dX7_reckons_191 : decode cX7_reckons 191 = .ok (.istore 9, 2) := dc_of dtX7_reckons_175_3_ok (i := 8) rfl
theorem dX7_reckons_193 : decode cX7_reckons 193 = .ok (.iload 9, 2) := dc_of dtX7_reckons_175_3_ok (i := 9) rfl
theorem dX7_reckons_195 : decode cX7_reckons 195 = .ok (.iconst 4, 1) := dc_of dtX7_reckons_175_3_ok (i := 10) rfl
theorem dX7_reckons_196 : decode cX7_reckons 196 = .ok (.if_icmp .ge 26, 3) := dc_of dtX7_reckons_175_3_ok (i := 11) rfl
theorem dX7_reckons_199 : decode cX7_reckons 199 = .ok (.aload_n 0, 1) := dc_of dtX7_reckons_175_3_ok (i := 12) rfl
theorem dX7_reckons_200 : decode cX7_reckons 200 = .ok (.getfield 48, 3) := dc_of dtX7_reckons_175_3_ok (i := 13) rfl
theorem dX7_reckons_203 : decode cX7_reckons 203 = .ok (.iload 9, 2) := dc_of dtX7_reckons_175_3_ok (i := 14) rfl
theorem dX7_reckons_205 : decode cX7_reckons 205 = .ok (.aload_n 0, 1) := dc_of dtX7_reckons_175_3_ok (i := 15) rfl
theorem dX7_reckons_206 : decode cX7_reckons 206 = .ok (.getfield 24, 3) := dc_of dtX7_reckons_175_3_ok (i := 16) rfl
theorem dX7_reckons_209 : decode cX7_reckons 209 = .ok (.iload 6, 2) := dc_of dtX7_reckons_175_3_ok (i := 17) rfl
theorem dX7_reckons_211 : decode cX7_reckons 211 = .ok (.iload 9, 2) := dc_of dtX7_reckons_175_3_ok (i := 18) rfl
theorem dX7_reckons_213 : decode cX7_reckons 213 = .ok (.iadd, 1) := dc_of dtX7_reckons_175_3_ok (i := 19) rfl
theorem dX7_reckons_214 : decode cX7_reckons 214 = .ok (.iaload, 1) := dc_of dtX7_reckons_175_3_ok (i := 20) rfl
theorem dX7_reckons_215 : decode cX7_reckons 215 = .ok (.iastore, 1) := dc_of dtX7_reckons_175_3_ok (i := 21) rfl
theorem dX7_reckons_216 : decode cX7_reckons 216 = .ok (.iinc 9 1, 3) := dc_of dtX7_reckons_175_3_ok (i := 22) rfl
theorem dX7_reckons_219 : decode cX7_reckons 219 = .ok (.goto (-26), 3) := dc_of dtX7_reckons_175_3_ok (i := 23) rfl
theorem dX7_reckons_222 : decode cX7_reckons 222 = .ok (.aload_n 0, 1) := dc_of dtX7_reckons_175_3_ok (i := 24) rfl
theorem dX7_reckons_223 : decode cX7_reckons 223 = .ok (.iload_n 2, 1) := dc_of dtX7_reckons_175_3_ok (i := 25) rfl
theorem dX7_reckons_224 : decode cX7_reckons 224 = .ok (.iconst 0, 1) := dc_of dtX7_reckons_175_3_ok (i := 26) rfl
theorem dX7_reckons_225 : decode cX7_reckons 225 = .ok (.aload_n 0, 1) := dc_of dtX7_reckons_175_3_ok (i := 27) rfl
theorem dX7_reckons_226 : decode cX7_reckons 226 = .ok (.iload_n 2, 1) := dc_of dtX7_reckons_175_3_ok (i := 28) rfl
theorem dX7_reckons_227 : decode cX7_reckons 227 = .ok (.invokevirtual 283, 3) := dc_of dtX7_reckons_175_3_ok (i := 29) rfl
theorem dX7_reckons_230 : decode cX7_reckons 230 = .ok (.invokevirtual 318, 3) := dc_of dtX7_reckons_175_3_ok (i := 30) rfl
theorem dX7_reckons_233 : decode cX7_reckons 233 = .ok (.aload_n 0, 1) := dc_of dtX7_reckons_175_3_ok (i := 31) rfl
def dtX7_reckons_234_4 : List (Nat × Instr × Nat) := [(234, .iload 4, 2), (236, .bipush 6, 2), (238, .if_icmp .ne 7, 3), (241, .iconst 1, 1), (242, .goto 5, 3), (245, .iload 7, 2), (247, .iconst 0, 1), (248, .invokevirtual 304, 3), (251, .istore 9, 2), (253, .iload 9, 2), (255, .ifCond .eq 16, 3), (258, .aload_n 0, 1), (259, .getfield 269, 3), (262, .sipush 1600, 3), (265, .if_icmp .le 6, 3), (268, .bipush (-3), 2), (270, .ireturn, 1), (271, .iinc 5 1, 3), (274, .goto (-170), 3), (277, .iload 4, 2), (279, .iconst 4, 1), (280, .if_icmp .eq 9, 3), (283, .iload 4, 2), (285, .iconst 5, 1), (286, .if_icmp .ne 99, 3), (289, .aload_n 0, 1), (290, .iload_n 2, 1), (291, .invokevirtual 292, 3), (294, .istore 5, 2), (296, .iconst 0, 1), (297, .istore 6, 2), (299, .iload 6, 2)]
theorem dtX7_reckons_234_4_ok : dcAll cX7_reckons dtX7_reckons_234_4 = true := by decide +kernel
theorem dX7_reckons_234 : decode cX7_reckons 234 = .ok (.iload 4, 2) := dc_of dtX7_reckons_234_4_ok (i := 0) rfl
theorem dX7_reckons_236 : decode cX7_reckons 236 = .ok (.bipush 6, 2) := dc_of dtX7_reckons_234_4_ok (i := 1) rfl
theorem dX7_reckons_238 : decode cX7_reckons 238 = .ok (.if_icmp .ne 7, 3) := dc_of dtX7_reckons_234_4_ok (i := 2) rfl
theorem dX7_reckons_241 : decode cX7_reckons 241 = .ok (.iconst 1, 1) := dc_of dtX7_reckons_234_4_ok (i := 3) rfl
theorem dX7_reckons_242 : decode cX7_reckons 242 = .ok (.goto 5, 3) := dc_of dtX7_reckons_234_4_ok (i := 4) rfl
theorem dX7_reckons_245 : decode cX7_reckons 245 = .ok (.iload 7, 2) := dc_of dtX7_reckons_234_4_ok (i := 5) rfl
theorem dX7_reckons_247 : decode cX7_reckons 247 = .ok (.iconst 0, 1) := dc_of dtX7_reckons_234_4_ok (i := 6) rfl
theorem dX7_reckons_248 : decode cX7_reckons 248 = .ok (.invokevirtual 304, 3) := dc_of dtX7_reckons_234_4_ok (i := 7) rfl
theorem dX7_reckons_251 : decode cX7_reckons 251 = .ok (.istore 9, 2) := dc_of dtX7_reckons_234_4_ok (i := 8) rfl
theorem dX7_reckons_253 : decode cX7_reckons 253 = .ok (.iload 9, 2) := dc_of dtX7_reckons_234_4_ok (i := 9) rfl
theorem dX7_reckons_255 : decode cX7_reckons 255 = .ok (.ifCond .eq 16, 3) := dc_of dtX7_reckons_234_4_ok (i := 10) rfl
theorem dX7_reckons_258 : decode cX7_reckons 258 = .ok (.aload_n 0, 1) := dc_of dtX7_reckons_234_4_ok (i := 11) rfl
theorem dX7_reckons_259 : decode cX7_reckons 259 = .ok (.getfield 269, 3) := dc_of dtX7_reckons_234_4_ok (i := 12) rfl
theorem dX7_reckons_262 : decode cX7_reckons 262 = .ok (.sipush 1600, 3) := dc_of dtX7_reckons_234_4_ok (i := 13) rfl
theorem dX7_reckons_265 : decode cX7_reckons 265 = .ok (.if_icmp .le 6, 3) := dc_of dtX7_reckons_234_4_ok (i := 14) rfl
theorem dX7_reckons_268 : decode cX7_reckons 268 = .ok (.bipush (-3), 2) := dc_of dtX7_reckons_234_4_ok (i := 15) rfl
theorem dX7_reckons_270 : decode cX7_reckons 270 = .ok (.ireturn, 1) := dc_of dtX7_reckons_234_4_ok (i := 16) rfl
theorem dX7_reckons_271 : decode cX7_reckons 271 = .ok (.iinc 5 1, 3) := dc_of dtX7_reckons_234_4_ok (i := 17) rfl
theorem dX7_reckons_274 : decode cX7_reckons 274 = .ok (.goto (-170), 3) := dc_of dtX7_reckons_234_4_ok (i := 18) rfl
theorem dX7_reckons_277 : decode cX7_reckons 277 = .ok (.iload 4, 2) := dc_of dtX7_reckons_234_4_ok (i := 19) rfl
theorem dX7_reckons_279 : decode cX7_reckons 279 = .ok (.iconst 4, 1) := dc_of dtX7_reckons_234_4_ok (i := 20) rfl
theorem dX7_reckons_280 : decode cX7_reckons 280 = .ok (.if_icmp .eq 9, 3) := dc_of dtX7_reckons_234_4_ok (i := 21) rfl
theorem dX7_reckons_283 : decode cX7_reckons 283 = .ok (.iload 4, 2) := dc_of dtX7_reckons_234_4_ok (i := 22) rfl
theorem dX7_reckons_285 : decode cX7_reckons 285 = .ok (.iconst 5, 1) := dc_of dtX7_reckons_234_4_ok (i := 23) rfl
theorem dX7_reckons_286 : decode cX7_reckons 286 = .ok (.if_icmp .ne 99, 3) := dc_of dtX7_reckons_234_4_ok (i := 24) rfl
theorem dX7_reckons_289 : decode cX7_reckons 289 = .ok (.aload_n 0, 1) := dc_of dtX7_reckons_234_4_ok (i := 25) rfl
theorem dX7_reckons_290 : decode cX7_reckons 290 = .ok (.iload_n 2, 1) := dc_of dtX7_reckons_234_4_ok (i := 26) rfl
theorem dX7_reckons_291 : decode cX7_reckons 291 = .ok (.invokevirtual 292, 3) := dc_of dtX7_reckons_234_4_ok (i := 27) rfl
theorem dX7_reckons_294 : decode cX7_reckons 294 = .ok (.istore 5, 2) := dc_of dtX7_reckons_234_4_ok (i := 28) rfl
theorem dX7_reckons_296 : decode cX7_reckons 296 = .ok (.iconst 0, 1) := dc_of dtX7_reckons_234_4_ok (i := 29) rfl
theorem dX7_reckons_297 : decode cX7_reckons 297 = .ok (.istore 6, 2) := dc_of dtX7_reckons_234_4_ok (i := 30) rfl
theorem dX7_reckons_299 : decode cX7_reckons 299 = .ok (.iload 6, 2) := dc_of dtX7_reckons_234_4_ok (i := 31) rfl
def dtX7_reckons_301_5 : List (Nat × Instr × Nat) := [(301, .aload_n 0, 1), (302, .iload_n 1, 1), (303, .iload 5, 2), (305, .invokevirtual 295, 3), (308, .if_icmp .ge 77, 3), (311, .aload_n 0, 1), (312, .iload_n 1, 1), (313, .iload 5, 2), (315, .iload 6, 2), (317, .invokestatic 279, 3), (320, .invokevirtual 298, 3), (323, .aload_n 0, 1), (324, .getfield 24, 3), (327, .iload_n 1, 1), (328, .iload 5, 2), (330, .iload 6, 2), (332, .invokestatic 279, 3), (335, .iconst 4, 1), (336, .iadd, 1), (337, .iaload, 1), (338, .istore 7, 2), (340, .aload_n 0, 1), (341, .iload 4, 2), (343, .iconst 4, 1), (344, .if_icmp .ne 8, 3), (347, .iload 7, 2), (349, .goto 6, 3), (352, .iload 7, 2), (354, .ineg, 1), (355, .iconst 0, 1), (356, .invokevirtual 304, 3), (359, .istore 8, 2)]
theorem dtX7_reckons_301_5_ok : dcAll cX7_reckons dtX7_reckons_301_5 = true := by decide +kernel
theorem dX7_reckons_301 : decode cX7_reckons 301 = .ok (.aload_n 0, 1) := dc_of dtX7_reckons_301_5_ok (i := 0) rfl
theorem dX7_reckons_302 : decode cX7_reckons 302 = .ok (.iload_n 1, 1) := dc_of dtX7_reckons_301_5_ok (i := 1) rfl
theorem dX7_reckons_303 : decode cX7_reckons 303 = .ok (.iload 5, 2) := dc_of dtX7_reckons_301_5_ok (i := 2) rfl
theorem dX7_reckons_305 : decode cX7_reckons 305 = .ok (.invokevirtual 295, 3) := dc_of dtX7_reckons_301_5_ok (i := 3) rfl
theorem dX7_reckons_308 : decode cX7_reckons 308 = .ok (.if_icmp .ge 77, 3) := dc_of dtX7_reckons_301_5_ok (i := 4) rfl
theorem dX7_reckons_311 : decode cX7_reckons 311 = .ok (.aload_n 0, 1) := dc_of dtX7_reckons_301_5_ok (i := 5) rfl
theorem dX7_reckons_312 : decode cX7_reckons 312 = .ok (.iload_n 1, 1) := dc_of dtX7_reckons_301_5_ok (i := 6) rfl
theorem dX7_reckons_313 : decode cX7_reckons 313 = .ok (.iload 5, 2) := dc_of dtX7_reckons_301_5_ok (i := 7) rfl
theorem dX7_reckons_315 : decode cX7_reckons 315 = .ok (.iload 6, 2) := dc_of dtX7_reckons_301_5_ok (i := 8) rfl
theorem dX7_reckons_317 : decode cX7_reckons 317 = .ok (.invokestatic 279, 3) := dc_of dtX7_reckons_301_5_ok (i := 9) rfl
theorem dX7_reckons_320 : decode cX7_reckons 320 = .ok (.invokevirtual 298, 3) := dc_of dtX7_reckons_301_5_ok (i := 10) rfl
theorem dX7_reckons_323 : decode cX7_reckons 323 = .ok (.aload_n 0, 1) := dc_of dtX7_reckons_301_5_ok (i := 11) rfl
theorem dX7_reckons_324 : decode cX7_reckons 324 = .ok (.getfield 24, 3) := dc_of dtX7_reckons_301_5_ok (i := 12) rfl
theorem dX7_reckons_327 : decode cX7_reckons 327 = .ok (.iload_n 1, 1) := dc_of dtX7_reckons_301_5_ok (i := 13) rfl
theorem dX7_reckons_328 : decode cX7_reckons 328 = .ok (.iload 5, 2) := dc_of dtX7_reckons_301_5_ok (i := 14) rfl
theorem dX7_reckons_330 : decode cX7_reckons 330 = .ok (.iload 6, 2) := dc_of dtX7_reckons_301_5_ok (i := 15) rfl
theorem dX7_reckons_332 : decode cX7_reckons 332 = .ok (.invokestatic 279, 3) := dc_of dtX7_reckons_301_5_ok (i := 16) rfl
theorem dX7_reckons_335 : decode cX7_reckons 335 = .ok (.iconst 4, 1) := dc_of dtX7_reckons_301_5_ok (i := 17) rfl
theorem dX7_reckons_336 : decode cX7_reckons 336 = .ok (.iadd, 1) := dc_of dtX7_reckons_301_5_ok (i := 18) rfl
theorem dX7_reckons_337 : decode cX7_reckons 337 = .ok (.iaload, 1) := dc_of dtX7_reckons_301_5_ok (i := 19) rfl
theorem dX7_reckons_338 : decode cX7_reckons 338 = .ok (.istore 7, 2) := dc_of dtX7_reckons_301_5_ok (i := 20) rfl
theorem dX7_reckons_340 : decode cX7_reckons 340 = .ok (.aload_n 0, 1) := dc_of dtX7_reckons_301_5_ok (i := 21) rfl
theorem dX7_reckons_341 : decode cX7_reckons 341 = .ok (.iload 4, 2) := dc_of dtX7_reckons_301_5_ok (i := 22) rfl
theorem dX7_reckons_343 : decode cX7_reckons 343 = .ok (.iconst 4, 1) := dc_of dtX7_reckons_301_5_ok (i := 23) rfl
theorem dX7_reckons_344 : decode cX7_reckons 344 = .ok (.if_icmp .ne 8, 3) := dc_of dtX7_reckons_301_5_ok (i := 24) rfl
theorem dX7_reckons_347 : decode cX7_reckons 347 = .ok (.iload 7, 2) := dc_of dtX7_reckons_301_5_ok (i := 25) rfl
theorem dX7_reckons_349 : decode cX7_reckons 349 = .ok (.goto 6, 3) := dc_of dtX7_reckons_301_5_ok (i := 26) rfl
theorem dX7_reckons_352 : decode cX7_reckons 352 = .ok (.iload 7, 2) := dc_of dtX7_reckons_301_5_ok (i := 27) rfl
theorem dX7_reckons_354 : decode cX7_reckons 354 = .ok (.ineg, 1) := dc_of dtX7_reckons_301_5_ok (i := 28) rfl
theorem dX7_reckons_355 : decode cX7_reckons 355 = .ok (.iconst 0, 1) := dc_of dtX7_reckons_301_5_ok (i := 29) rfl
theorem dX7_reckons_356 : decode cX7_reckons 356 = .ok (.invokevirtual 304, 3) := dc_of dtX7_reckons_301_5_ok (i := 30) rfl
theorem dX7_reckons_359 : decode cX7_reckons 359 = .ok (.istore 8, 2) := dc_of dtX7_reckons_301_5_ok (i := 31) rfl
def dtX7_reckons_361_6 : List (Nat × Instr × Nat) := [(361, .iload 8, 2), (363, .ifCond .eq 16, 3), (366, .aload_n 0, 1), (367, .getfield 269, 3), (370, .sipush 1600, 3), (373, .if_icmp .le 6, 3), (376, .bipush (-3), 2), (378, .ireturn, 1), (379, .iinc 6 1, 3), (382, .goto (-83), 3), (385, .aload_n 0, 1), (386, .iload_n 1, 1), (387, .iload_n 2, 1), (388, .invokevirtual 328, 3), (391, .ireturn, 1)]
theorem dtX7_reckons_361_6_ok : dcAll cX7_reckons dtX7_reckons_361_6 = true := by decide +kernel
theorem dX7_reckons_361 : decode cX7_reckons 361 = .ok (.iload 8, 2) := dc_of dtX7_reckons_361_6_ok (i := 0) rfl
theorem dX7_reckons_363 : decode cX7_reckons 363 = .ok (.ifCond .eq 16, 3) := dc_of dtX7_reckons_361_6_ok (i := 1) rfl
theorem dX7_reckons_366 : decode cX7_reckons 366 = .ok (.aload_n 0, 1) := dc_of dtX7_reckons_361_6_ok (i := 2) rfl
theorem dX7_reckons_367 : decode cX7_reckons 367 = .ok (.getfield 269, 3) := dc_of dtX7_reckons_361_6_ok (i := 3) rfl
theorem dX7_reckons_370 : decode cX7_reckons 370 = .ok (.sipush 1600, 3) := dc_of dtX7_reckons_361_6_ok (i := 4) rfl
theorem dX7_reckons_373 : decode cX7_reckons 373 = .ok (.if_icmp .le 6, 3) := dc_of dtX7_reckons_361_6_ok (i := 5) rfl
theorem dX7_reckons_376 : decode cX7_reckons 376 = .ok (.bipush (-3), 2) := dc_of dtX7_reckons_361_6_ok (i := 6) rfl
theorem dX7_reckons_378 : decode cX7_reckons 378 = .ok (.ireturn, 1) := dc_of dtX7_reckons_361_6_ok (i := 7) rfl
theorem dX7_reckons_379 : decode cX7_reckons 379 = .ok (.iinc 6 1, 3) := dc_of dtX7_reckons_361_6_ok (i := 8) rfl
theorem dX7_reckons_382 : decode cX7_reckons 382 = .ok (.goto (-83), 3) := dc_of dtX7_reckons_361_6_ok (i := 9) rfl
theorem dX7_reckons_385 : decode cX7_reckons 385 = .ok (.aload_n 0, 1) := dc_of dtX7_reckons_361_6_ok (i := 10) rfl
theorem dX7_reckons_386 : decode cX7_reckons 386 = .ok (.iload_n 1, 1) := dc_of dtX7_reckons_361_6_ok (i := 11) rfl
theorem dX7_reckons_387 : decode cX7_reckons 387 = .ok (.iload_n 2, 1) := dc_of dtX7_reckons_361_6_ok (i := 12) rfl
theorem dX7_reckons_388 : decode cX7_reckons 388 = .ok (.invokevirtual 328, 3) := dc_of dtX7_reckons_361_6_ok (i := 13) rfl
theorem dX7_reckons_391 : decode cX7_reckons 391 = .ok (.ireturn, 1) := dc_of dtX7_reckons_361_6_ok (i := 14) rfl
def dtX7_copies_0_0 : List (Nat × Instr × Nat) := [(0, .iconst 0, 1), (1, .istore_n 3, 1), (2, .iload_n 3, 1), (3, .sipush 11520, 3), (6, .if_icmp .ge 33, 3), (9, .aload_n 0, 1), (10, .getfield 24, 3), (13, .sipush 11520, 3), (16, .iload_n 2, 1), (17, .imul, 1), (18, .iload_n 3, 1), (19, .iadd, 1), (20, .aload_n 0, 1), (21, .getfield 24, 3), (24, .sipush 11520, 3), (27, .iload_n 1, 1), (28, .imul, 1), (29, .iload_n 3, 1), (30, .iadd, 1), (31, .iaload, 1), (32, .iastore, 1), (33, .iinc 3 1, 3), (36, .goto (-34), 3), (39, .iconst 0, 1), (40, .istore_n 3, 1), (41, .iload_n 3, 1), (42, .bipush 16, 2), (44, .if_icmp .ge 53, 3), (47, .aload_n 0, 1), (48, .getfield 27, 3), (51, .bipush 16, 2), (53, .iload_n 2, 1)]
theorem dtX7_copies_0_0_ok : dcAll cX7_copies dtX7_copies_0_0 = true := by decide +kernel
theorem dX7_copies_0 : decode cX7_copies 0 = .ok (.iconst 0, 1) := dc_of dtX7_copies_0_0_ok (i := 0) rfl
theorem dX7_copies_1 : decode cX7_copies 1 = .ok (.istore_n 3, 1) := dc_of dtX7_copies_0_0_ok (i := 1) rfl
theorem dX7_copies_2 : decode cX7_copies 2 = .ok (.iload_n 3, 1) := dc_of dtX7_copies_0_0_ok (i := 2) rfl
theorem dX7_copies_3 : decode cX7_copies 3 = .ok (.sipush 11520, 3) := dc_of dtX7_copies_0_0_ok (i := 3) rfl
theorem dX7_copies_6 : decode cX7_copies 6 = .ok (.if_icmp .ge 33, 3) := dc_of dtX7_copies_0_0_ok (i := 4) rfl
theorem dX7_copies_9 : decode cX7_copies 9 = .ok (.aload_n 0, 1) := dc_of dtX7_copies_0_0_ok (i := 5) rfl
theorem dX7_copies_10 : decode cX7_copies 10 = .ok (.getfield 24, 3) := dc_of dtX7_copies_0_0_ok (i := 6) rfl
theorem dX7_copies_13 : decode cX7_copies 13 = .ok (.sipush 11520, 3) := dc_of dtX7_copies_0_0_ok (i := 7) rfl
theorem dX7_copies_16 : decode cX7_copies 16 = .ok (.iload_n 2, 1) := dc_of dtX7_copies_0_0_ok (i := 8) rfl
theorem dX7_copies_17 : decode cX7_copies 17 = .ok (.imul, 1) := dc_of dtX7_copies_0_0_ok (i := 9) rfl
theorem dX7_copies_18 : decode cX7_copies 18 = .ok (.iload_n 3, 1) := dc_of dtX7_copies_0_0_ok (i := 10) rfl
theorem dX7_copies_19 : decode cX7_copies 19 = .ok (.iadd, 1) := dc_of dtX7_copies_0_0_ok (i := 11) rfl
theorem dX7_copies_20 : decode cX7_copies 20 = .ok (.aload_n 0, 1) := dc_of dtX7_copies_0_0_ok (i := 12) rfl
theorem dX7_copies_21 : decode cX7_copies 21 = .ok (.getfield 24, 3) := dc_of dtX7_copies_0_0_ok (i := 13) rfl
theorem dX7_copies_24 : decode cX7_copies 24 = .ok (.sipush 11520, 3) := dc_of dtX7_copies_0_0_ok (i := 14) rfl
theorem dX7_copies_27 : decode cX7_copies 27 = .ok (.iload_n 1, 1) := dc_of dtX7_copies_0_0_ok (i := 15) rfl
theorem dX7_copies_28 : decode cX7_copies 28 = .ok (.imul, 1) := dc_of dtX7_copies_0_0_ok (i := 16) rfl
theorem dX7_copies_29 : decode cX7_copies 29 = .ok (.iload_n 3, 1) := dc_of dtX7_copies_0_0_ok (i := 17) rfl
theorem dX7_copies_30 : decode cX7_copies 30 = .ok (.iadd, 1) := dc_of dtX7_copies_0_0_ok (i := 18) rfl
theorem dX7_copies_31 : decode cX7_copies 31 = .ok (.iaload, 1) := dc_of dtX7_copies_0_0_ok (i := 19) rfl
theorem dX7_copies_32 : decode cX7_copies 32 = .ok (.iastore, 1) := dc_of dtX7_copies_0_0_ok (i := 20) rfl
theorem dX7_copies_33 : decode cX7_copies 33 = .ok (.iinc 3 1, 3) := dc_of dtX7_copies_0_0_ok (i := 21) rfl
theorem dX7_copies_36 : decode cX7_copies 36 = .ok (.goto (-34), 3) := dc_of dtX7_copies_0_0_ok (i := 22) rfl
theorem dX7_copies_39 : decode cX7_copies 39 = .ok (.iconst 0, 1) := dc_of dtX7_copies_0_0_ok (i := 23) rfl
theorem dX7_copies_40 : decode cX7_copies 40 = .ok (.istore_n 3, 1) := dc_of dtX7_copies_0_0_ok (i := 24) rfl
theorem dX7_copies_41 : decode cX7_copies 41 = .ok (.iload_n 3, 1) := dc_of dtX7_copies_0_0_ok (i := 25) rfl
theorem dX7_copies_42 : decode cX7_copies 42 = .ok (.bipush 16, 2) := dc_of dtX7_copies_0_0_ok (i := 26) rfl
theorem dX7_copies_44 : decode cX7_copies 44 = .ok (.if_icmp .ge 53, 3) := dc_of dtX7_copies_0_0_ok (i := 27) rfl
theorem dX7_copies_47 : decode cX7_copies 47 = .ok (.aload_n 0, 1) := dc_of dtX7_copies_0_0_ok (i := 28) rfl
theorem dX7_copies_48 : decode cX7_copies 48 = .ok (.getfield 27, 3) := dc_of dtX7_copies_0_0_ok (i := 29) rfl
theorem dX7_copies_51 : decode cX7_copies 51 = .ok (.bipush 16, 2) := dc_of dtX7_copies_0_0_ok (i := 30) rfl
theorem dX7_copies_53 : decode cX7_copies 53 = .ok (.iload_n 2, 1) := dc_of dtX7_copies_0_0_ok (i := 31) rfl
def dtX7_copies_54_1 : List (Nat × Instr × Nat) := [(54, .imul, 1), (55, .iload_n 3, 1), (56, .iadd, 1), (57, .aload_n 0, 1), (58, .getfield 27, 3), (61, .bipush 16, 2), (63, .iload_n 1, 1), (64, .imul, 1), (65, .iload_n 3, 1), (66, .iadd, 1), (67, .iaload, 1), (68, .iastore, 1), (69, .aload_n 0, 1), (70, .getfield 51, 3), (73, .bipush 16, 2), (75, .iload_n 2, 1), (76, .imul, 1), (77, .iload_n 3, 1), (78, .iadd, 1), (79, .aload_n 0, 1), (80, .getfield 51, 3), (83, .bipush 16, 2), (85, .iload_n 1, 1), (86, .imul, 1), (87, .iload_n 3, 1), (88, .iadd, 1), (89, .iaload, 1), (90, .iastore, 1), (91, .iinc 3 1, 3), (94, .goto (-53), 3), (97, .return_, 1)]
theorem dtX7_copies_54_1_ok : dcAll cX7_copies dtX7_copies_54_1 = true := by decide +kernel
theorem dX7_copies_54 : decode cX7_copies 54 = .ok (.imul, 1) := dc_of dtX7_copies_54_1_ok (i := 0) rfl
theorem dX7_copies_55 : decode cX7_copies 55 = .ok (.iload_n 3, 1) := dc_of dtX7_copies_54_1_ok (i := 1) rfl
theorem dX7_copies_56 : decode cX7_copies 56 = .ok (.iadd, 1) := dc_of dtX7_copies_54_1_ok (i := 2) rfl
theorem dX7_copies_57 : decode cX7_copies 57 = .ok (.aload_n 0, 1) := dc_of dtX7_copies_54_1_ok (i := 3) rfl
theorem dX7_copies_58 : decode cX7_copies 58 = .ok (.getfield 27, 3) := dc_of dtX7_copies_54_1_ok (i := 4) rfl
theorem dX7_copies_61 : decode cX7_copies 61 = .ok (.bipush 16, 2) := dc_of dtX7_copies_54_1_ok (i := 5) rfl
theorem dX7_copies_63 : decode cX7_copies 63 = .ok (.iload_n 1, 1) := dc_of dtX7_copies_54_1_ok (i := 6) rfl
theorem dX7_copies_64 : decode cX7_copies 64 = .ok (.imul, 1) := dc_of dtX7_copies_54_1_ok (i := 7) rfl
theorem dX7_copies_65 : decode cX7_copies 65 = .ok (.iload_n 3, 1) := dc_of dtX7_copies_54_1_ok (i := 8) rfl
theorem dX7_copies_66 : decode cX7_copies 66 = .ok (.iadd, 1) := dc_of dtX7_copies_54_1_ok (i := 9) rfl
theorem dX7_copies_67 : decode cX7_copies 67 = .ok (.iaload, 1) := dc_of dtX7_copies_54_1_ok (i := 10) rfl
theorem dX7_copies_68 : decode cX7_copies 68 = .ok (.iastore, 1) := dc_of dtX7_copies_54_1_ok (i := 11) rfl
theorem dX7_copies_69 : decode cX7_copies 69 = .ok (.aload_n 0, 1) := dc_of dtX7_copies_54_1_ok (i := 12) rfl
theorem dX7_copies_70 : decode cX7_copies 70 = .ok (.getfield 51, 3) := dc_of dtX7_copies_54_1_ok (i := 13) rfl
theorem dX7_copies_73 : decode cX7_copies 73 = .ok (.bipush 16, 2) := dc_of dtX7_copies_54_1_ok (i := 14) rfl
theorem dX7_copies_75 : decode cX7_copies 75 = .ok (.iload_n 2, 1) := dc_of dtX7_copies_54_1_ok (i := 15) rfl
theorem dX7_copies_76 : decode cX7_copies 76 = .ok (.imul, 1) := dc_of dtX7_copies_54_1_ok (i := 16) rfl
theorem dX7_copies_77 : decode cX7_copies 77 = .ok (.iload_n 3, 1) := dc_of dtX7_copies_54_1_ok (i := 17) rfl
theorem dX7_copies_78 : decode cX7_copies 78 = .ok (.iadd, 1) := dc_of dtX7_copies_54_1_ok (i := 18) rfl
theorem dX7_copies_79 : decode cX7_copies 79 = .ok (.aload_n 0, 1) := dc_of dtX7_copies_54_1_ok (i := 19) rfl
theorem dX7_copies_80 : decode cX7_copies 80 = .ok (.getfield 51, 3) := dc_of dtX7_copies_54_1_ok (i := 20) rfl
theorem dX7_copies_83 : decode cX7_copies 83 = .ok (.bipush 16, 2) := dc_of dtX7_copies_54_1_ok (i := 21) rfl
theorem dX7_copies_85 : decode cX7_copies 85 = .ok (.iload_n 1, 1) := dc_of dtX7_copies_54_1_ok (i := 22) rfl
theorem dX7_copies_86 : decode cX7_copies 86 = .ok (.imul, 1) := dc_of dtX7_copies_54_1_ok (i := 23) rfl
theorem dX7_copies_87 : decode cX7_copies 87 = .ok (.iload_n 3, 1) := dc_of dtX7_copies_54_1_ok (i := 24) rfl
theorem dX7_copies_88 : decode cX7_copies 88 = .ok (.iadd, 1) := dc_of dtX7_copies_54_1_ok (i := 25) rfl
theorem dX7_copies_89 : decode cX7_copies 89 = .ok (.iaload, 1) := dc_of dtX7_copies_54_1_ok (i := 26) rfl
theorem dX7_copies_90 : decode cX7_copies 90 = .ok (.iastore, 1) := dc_of dtX7_copies_54_1_ok (i := 27) rfl
theorem dX7_copies_91 : decode cX7_copies 91 = .ok (.iinc 3 1, 3) := dc_of dtX7_copies_54_1_ok (i := 28) rfl
theorem dX7_copies_94 : decode cX7_copies 94 = .ok (.goto (-53), 3) := dc_of dtX7_copies_54_1_ok (i := 29) rfl
theorem dX7_copies_97 : decode cX7_copies 97 = .ok (.return_, 1) := dc_of dtX7_copies_54_1_ok (i := 30) rfl
def dtX7_changesOf_0_0 : List (Nat × Instr × Nat) := [(0, .aload_n 0, 1), (1, .iconst 0, 1), (2, .putfield 269, 3), (5, .iconst 1, 1), (6, .istore_n 3, 1), (7, .iconst 0, 1), (8, .istore 4, 2), (10, .iload 4, 2), (12, .aload_n 0, 1), (13, .iload_n 1, 1), (14, .iload_n 2, 1), (15, .invokevirtual 295, 3), (18, .if_icmp .ge 40, 3), (21, .aload_n 0, 1), (22, .iload_n 1, 1), (23, .iload_n 2, 1), (24, .iload 4, 2), (26, .invokestatic 279, 3), (29, .invokevirtual 298, 3), (32, .aload_n 0, 1), (33, .aload_n 0, 1), (34, .getfield 24, 3), (37, .iload_n 1, 1), (38, .iload_n 2, 1), (39, .iload 4, 2), (41, .invokestatic 279, 3), (44, .iconst 4, 1), (45, .iadd, 1), (46, .iaload, 1), (47, .iconst 0, 1), (48, .invokevirtual 304, 3), (51, .istore_n 3, 1)]
theorem dtX7_changesOf_0_0_ok : dcAll cX7_changesOf dtX7_changesOf_0_0 = true := by decide +kernel
theorem dX7_changesOf_0 : decode cX7_changesOf 0 = .ok (.aload_n 0, 1) := dc_of dtX7_changesOf_0_0_ok (i := 0) rfl
theorem dX7_changesOf_1 : decode cX7_changesOf 1 = .ok (.iconst 0, 1) := dc_of dtX7_changesOf_0_0_ok (i := 1) rfl
theorem dX7_changesOf_2 : decode cX7_changesOf 2 = .ok (.putfield 269, 3) := dc_of dtX7_changesOf_0_0_ok (i := 2) rfl
theorem dX7_changesOf_5 : decode cX7_changesOf 5 = .ok (.iconst 1, 1) := dc_of dtX7_changesOf_0_0_ok (i := 3) rfl
theorem dX7_changesOf_6 : decode cX7_changesOf 6 = .ok (.istore_n 3, 1) := dc_of dtX7_changesOf_0_0_ok (i := 4) rfl
theorem dX7_changesOf_7 : decode cX7_changesOf 7 = .ok (.iconst 0, 1) := dc_of dtX7_changesOf_0_0_ok (i := 5) rfl
theorem dX7_changesOf_8 : decode cX7_changesOf 8 = .ok (.istore 4, 2) := dc_of dtX7_changesOf_0_0_ok (i := 6) rfl
theorem dX7_changesOf_10 : decode cX7_changesOf 10 = .ok (.iload 4, 2) := dc_of dtX7_changesOf_0_0_ok (i := 7) rfl
theorem dX7_changesOf_12 : decode cX7_changesOf 12 = .ok (.aload_n 0, 1) := dc_of dtX7_changesOf_0_0_ok (i := 8) rfl
theorem dX7_changesOf_13 : decode cX7_changesOf 13 = .ok (.iload_n 1, 1) := dc_of dtX7_changesOf_0_0_ok (i := 9) rfl
theorem dX7_changesOf_14 : decode cX7_changesOf 14 = .ok (.iload_n 2, 1) := dc_of dtX7_changesOf_0_0_ok (i := 10) rfl
theorem dX7_changesOf_15 : decode cX7_changesOf 15 = .ok (.invokevirtual 295, 3) := dc_of dtX7_changesOf_0_0_ok (i := 11) rfl
theorem dX7_changesOf_18 : decode cX7_changesOf 18 = .ok (.if_icmp .ge 40, 3) := dc_of dtX7_changesOf_0_0_ok (i := 12) rfl
theorem dX7_changesOf_21 : decode cX7_changesOf 21 = .ok (.aload_n 0, 1) := dc_of dtX7_changesOf_0_0_ok (i := 13) rfl
theorem dX7_changesOf_22 : decode cX7_changesOf 22 = .ok (.iload_n 1, 1) := dc_of dtX7_changesOf_0_0_ok (i := 14) rfl
theorem dX7_changesOf_23 : decode cX7_changesOf 23 = .ok (.iload_n 2, 1) := dc_of dtX7_changesOf_0_0_ok (i := 15) rfl
theorem dX7_changesOf_24 : decode cX7_changesOf 24 = .ok (.iload 4, 2) := dc_of dtX7_changesOf_0_0_ok (i := 16) rfl
theorem dX7_changesOf_26 : decode cX7_changesOf 26 = .ok (.invokestatic 279, 3) := dc_of dtX7_changesOf_0_0_ok (i := 17) rfl
theorem dX7_changesOf_29 : decode cX7_changesOf 29 = .ok (.invokevirtual 298, 3) := dc_of dtX7_changesOf_0_0_ok (i := 18) rfl
theorem dX7_changesOf_32 : decode cX7_changesOf 32 = .ok (.aload_n 0, 1) := dc_of dtX7_changesOf_0_0_ok (i := 19) rfl
theorem dX7_changesOf_33 : decode cX7_changesOf 33 = .ok (.aload_n 0, 1) := dc_of dtX7_changesOf_0_0_ok (i := 20) rfl
theorem dX7_changesOf_34 : decode cX7_changesOf 34 = .ok (.getfield 24, 3) := dc_of dtX7_changesOf_0_0_ok (i := 21) rfl
theorem dX7_changesOf_37 : decode cX7_changesOf 37 = .ok (.iload_n 1, 1) := dc_of dtX7_changesOf_0_0_ok (i := 22) rfl
theorem dX7_changesOf_38 : decode cX7_changesOf 38 = .ok (.iload_n 2, 1) := dc_of dtX7_changesOf_0_0_ok (i := 23) rfl
theorem dX7_changesOf_39 : decode cX7_changesOf 39 = .ok (.iload 4, 2) := dc_of dtX7_changesOf_0_0_ok (i := 24) rfl
theorem dX7_changesOf_41 : decode cX7_changesOf 41 = .ok (.invokestatic 279, 3) := dc_of dtX7_changesOf_0_0_ok (i := 25) rfl
theorem dX7_changesOf_44 : decode cX7_changesOf 44 = .ok (.iconst 4, 1) := dc_of dtX7_changesOf_0_0_ok (i := 26) rfl
theorem dX7_changesOf_45 : decode cX7_changesOf 45 = .ok (.iadd, 1) := dc_of dtX7_changesOf_0_0_ok (i := 27) rfl
theorem dX7_changesOf_46 : decode cX7_changesOf 46 = .ok (.iaload, 1) := dc_of dtX7_changesOf_0_0_ok (i := 28) rfl
theorem dX7_changesOf_47 : decode cX7_changesOf 47 = .ok (.iconst 0, 1) := dc_of dtX7_changesOf_0_0_ok (i := 29) rfl
theorem dX7_changesOf_48 : decode cX7_changesOf 48 = .ok (.invokevirtual 304, 3) := dc_of dtX7_changesOf_0_0_ok (i := 30) rfl
theorem dX7_changesOf_51 : decode cX7_changesOf 51 = .ok (.istore_n 3, 1) := dc_of dtX7_changesOf_0_0_ok (i := 31) rfl
def dtX7_changesOf_52_1 : List (Nat × Instr × Nat) := [(52, .iinc 4 1, 3), (55, .goto (-45), 3), (58, .iconst 0, 1), (59, .istore 4, 2), (61, .iload 4, 2), (63, .aload_n 0, 1), (64, .getfield 266, 3), (67, .if_icmp .ge 82, 3), (70, .aload_n 0, 1), (71, .getfield 30, 3), (74, .iload 4, 2), (76, .iaload, 1), (77, .iload_n 2, 1), (78, .if_icmp .eq 6, 3), (81, .goto 62, 3), (84, .iconst 0, 1), (85, .istore 5, 2), (87, .iload 5, 2), (89, .iconst 4, 1), (90, .if_icmp .ge 28, 3), (93, .aload_n 0, 1), (94, .getfield 45, 3), (97, .iload 5, 2), (99, .aload_n 0, 1), (100, .getfield 33, 3), (103, .iconst 4, 1), (104, .iload 4, 2), (106, .imul, 1), (107, .iload 5, 2), (109, .iadd, 1), (110, .iaload, 1), (111, .iastore, 1)]
theorem dtX7_changesOf_52_1_ok : dcAll cX7_changesOf dtX7_changesOf_52_1 = true := by decide +kernel
theorem dX7_changesOf_52 : decode cX7_changesOf 52 = .ok (.iinc 4 1, 3) := dc_of dtX7_changesOf_52_1_ok (i := 0) rfl
theorem dX7_changesOf_55 : decode cX7_changesOf 55 = .ok (.goto (-45), 3) := dc_of dtX7_changesOf_52_1_ok (i := 1) rfl
theorem dX7_changesOf_58 : decode cX7_changesOf 58 = .ok (.iconst 0, 1) := dc_of dtX7_changesOf_52_1_ok (i := 2) rfl
theorem dX7_changesOf_59 : decode cX7_changesOf 59 = .ok (.istore 4, 2) := dc_of dtX7_changesOf_52_1_ok (i := 3) rfl
theorem dX7_changesOf_61 : decode cX7_changesOf 61 = .ok (.iload 4, 2) := dc_of dtX7_changesOf_52_1_ok (i := 4) rfl
theorem dX7_changesOf_63 : decode cX7_changesOf 63 = .ok (.aload_n 0, 1) := dc_of dtX7_changesOf_52_1_ok (i := 5) rfl
theorem dX7_changesOf_64 : decode cX7_changesOf 64 = .ok (.getfield 266, 3) := dc_of dtX7_changesOf_52_1_ok (i := 6) rfl
theorem dX7_changesOf_67 : decode cX7_changesOf 67 = .ok (.if_icmp .ge 82, 3) := dc_of dtX7_changesOf_52_1_ok (i := 7) rfl
theorem dX7_changesOf_70 : decode cX7_changesOf 70 = .ok (.aload_n 0, 1) := dc_of dtX7_changesOf_52_1_ok (i := 8) rfl
theorem dX7_changesOf_71 : decode cX7_changesOf 71 = .ok (.getfield 30, 3) := dc_of dtX7_changesOf_52_1_ok (i := 9) rfl
theorem dX7_changesOf_74 : decode cX7_changesOf 74 = .ok (.iload 4, 2) := dc_of dtX7_changesOf_52_1_ok (i := 10) rfl
theorem dX7_changesOf_76 : decode cX7_changesOf 76 = .ok (.iaload, 1) := dc_of dtX7_changesOf_52_1_ok (i := 11) rfl
theorem dX7_changesOf_77 : decode cX7_changesOf 77 = .ok (.iload_n 2, 1) := dc_of dtX7_changesOf_52_1_ok (i := 12) rfl
theorem dX7_changesOf_78 : decode cX7_changesOf 78 = .ok (.if_icmp .eq 6, 3) := dc_of dtX7_changesOf_52_1_ok (i := 13) rfl
theorem dX7_changesOf_81 : decode cX7_changesOf 81 = .ok (.goto 62, 3) := dc_of dtX7_changesOf_52_1_ok (i := 14) rfl
theorem dX7_changesOf_84 : decode cX7_changesOf 84 = .ok (.iconst 0, 1) := dc_of dtX7_changesOf_52_1_ok (i := 15) rfl
theorem dX7_changesOf_85 : decode cX7_changesOf 85 = .ok (.istore 5, 2) := dc_of dtX7_changesOf_52_1_ok (i := 16) rfl
theorem dX7_changesOf_87 : decode cX7_changesOf 87 = .ok (.iload 5, 2) := dc_of dtX7_changesOf_52_1_ok (i := 17) rfl
theorem dX7_changesOf_89 : decode cX7_changesOf 89 = .ok (.iconst 4, 1) := dc_of dtX7_changesOf_52_1_ok (i := 18) rfl
theorem dX7_changesOf_90 : decode cX7_changesOf 90 = .ok (.if_icmp .ge 28, 3) := dc_of dtX7_changesOf_52_1_ok (i := 19) rfl
theorem dX7_changesOf_93 : decode cX7_changesOf 93 = .ok (.aload_n 0, 1) := dc_of dtX7_changesOf_52_1_ok (i := 20) rfl
theorem dX7_changesOf_94 : decode cX7_changesOf 94 = .ok (.getfield 45, 3) := dc_of dtX7_changesOf_52_1_ok (i := 21) rfl
theorem dX7_changesOf_97 : decode cX7_changesOf 97 = .ok (.iload 5, 2) := dc_of dtX7_changesOf_52_1_ok (i := 22) rfl
theorem dX7_changesOf_99 : decode cX7_changesOf 99 = .ok (.aload_n 0, 1) := dc_of dtX7_changesOf_52_1_ok (i := 23) rfl
theorem dX7_changesOf_100 : decode cX7_changesOf 100 = .ok (.getfield 33, 3) := dc_of dtX7_changesOf_52_1_ok (i := 24) rfl
theorem dX7_changesOf_103 : decode cX7_changesOf 103 = .ok (.iconst 4, 1) := dc_of dtX7_changesOf_52_1_ok (i := 25) rfl
theorem dX7_changesOf_104 : decode cX7_changesOf 104 = .ok (.iload 4, 2) := dc_of dtX7_changesOf_52_1_ok (i := 26) rfl
theorem dX7_changesOf_106 : decode cX7_changesOf 106 = .ok (.imul, 1) := dc_of dtX7_changesOf_52_1_ok (i := 27) rfl
theorem dX7_changesOf_107 : decode cX7_changesOf 107 = .ok (.iload 5, 2) := dc_of dtX7_changesOf_52_1_ok (i := 28) rfl
theorem dX7_changesOf_109 : decode cX7_changesOf 109 = .ok (.iadd, 1) := dc_of dtX7_changesOf_52_1_ok (i := 29) rfl
theorem dX7_changesOf_110 : decode cX7_changesOf 110 = .ok (.iaload, 1) := dc_of dtX7_changesOf_52_1_ok (i := 30) rfl
theorem dX7_changesOf_111 : decode cX7_changesOf 111 = .ok (.iastore, 1) := dc_of dtX7_changesOf_52_1_ok (i := 31) rfl
def dtX7_changesOf_112_2 : List (Nat × Instr × Nat) := [(112, .iinc 5 1, 3), (115, .goto (-28), 3), (118, .aload_n 0, 1), (119, .aload_n 0, 1), (120, .getfield 36, 3), (123, .iload 4, 2), (125, .iaload, 1), (126, .iconst 0, 1), (127, .invokevirtual 304, 3), (130, .ifCond .ne 7, 3), (133, .iload_n 3, 1), (134, .ifCond .eq 7, 3), (137, .iconst 1, 1), (138, .goto 4, 3), (141, .iconst 0, 1), (142, .istore_n 3, 1), (143, .iinc 4 1, 3), (146, .goto (-85), 3), (149, .iconst 0, 1), (150, .istore 4, 2), (152, .iload 4, 2), (154, .aload_n 0, 1), (155, .getfield 269, 3), (158, .if_icmp .ge 26, 3), (161, .aload_n 0, 1), (162, .getfield 42, 3), (165, .bipush 6, 2), (167, .iload 4, 2), (169, .imul, 1), (170, .iconst 4, 1), (171, .iadd, 1), (172, .iaload, 1)]
theorem dtX7_changesOf_112_2_ok : dcAll cX7_changesOf dtX7_changesOf_112_2 = true := by decide +kernel
theorem dX7_changesOf_112 : decode cX7_changesOf 112 = .ok (.iinc 5 1, 3) := dc_of dtX7_changesOf_112_2_ok (i := 0) rfl
theorem dX7_changesOf_115 : decode cX7_changesOf 115 = .ok (.goto (-28), 3) := dc_of dtX7_changesOf_112_2_ok (i := 1) rfl
theorem dX7_changesOf_118 : decode cX7_changesOf 118 = .ok (.aload_n 0, 1) := dc_of dtX7_changesOf_112_2_ok (i := 2) rfl
theorem dX7_changesOf_119 : decode cX7_changesOf 119 = .ok (.aload_n 0, 1) := dc_of dtX7_changesOf_112_2_ok (i := 3) rfl
theorem dX7_changesOf_120 : decode cX7_changesOf 120 = .ok (.getfield 36, 3) := dc_of dtX7_changesOf_112_2_ok (i := 4) rfl
theorem dX7_changesOf_123 : decode cX7_changesOf 123 = .ok (.iload 4, 2) := dc_of dtX7_changesOf_112_2_ok (i := 5) rfl
theorem dX7_changesOf_125 : decode cX7_changesOf 125 = .ok (.iaload, 1) := dc_of dtX7_changesOf_112_2_ok (i := 6) rfl
theorem dX7_changesOf_126 : decode cX7_changesOf 126 = .ok (.iconst 0, 1) := dc_of dtX7_changesOf_112_2_ok (i := 7) rfl
theorem dX7_changesOf_127 : decode cX7_changesOf 127 = .ok (.invokevirtual 304, 3) := dc_of dtX7_changesOf_112_2_ok (i := 8) rfl
theorem dX7_changesOf_130 : decode cX7_changesOf 130 = .ok (.ifCond .ne 7, 3) := dc_of dtX7_changesOf_112_2_ok (i := 9) rfl
theorem dX7_changesOf_133 : decode cX7_changesOf 133 = .ok (.iload_n 3, 1) := dc_of dtX7_changesOf_112_2_ok (i := 10) rfl
theorem dX7_changesOf_134 : decode cX7_changesOf 134 = .ok (.ifCond .eq 7, 3) := dc_of dtX7_changesOf_112_2_ok (i := 11) rfl
theorem dX7_changesOf_137 : decode cX7_changesOf 137 = .ok (.iconst 1, 1) := dc_of dtX7_changesOf_112_2_ok (i := 12) rfl
theorem dX7_changesOf_138 : decode cX7_changesOf 138 = .ok (.goto 4, 3) := dc_of dtX7_changesOf_112_2_ok (i := 13) rfl
theorem dX7_changesOf_141 : decode cX7_changesOf 141 = .ok (.iconst 0, 1) := dc_of dtX7_changesOf_112_2_ok (i := 14) rfl
theorem dX7_changesOf_142 : decode cX7_changesOf 142 = .ok (.istore_n 3, 1) := dc_of dtX7_changesOf_112_2_ok (i := 15) rfl
theorem dX7_changesOf_143 : decode cX7_changesOf 143 = .ok (.iinc 4 1, 3) := dc_of dtX7_changesOf_112_2_ok (i := 16) rfl
theorem dX7_changesOf_146 : decode cX7_changesOf 146 = .ok (.goto (-85), 3) := dc_of dtX7_changesOf_112_2_ok (i := 17) rfl
theorem dX7_changesOf_149 : decode cX7_changesOf 149 = .ok (.iconst 0, 1) := dc_of dtX7_changesOf_112_2_ok (i := 18) rfl
theorem dX7_changesOf_150 : decode cX7_changesOf 150 = .ok (.istore 4, 2) := dc_of dtX7_changesOf_112_2_ok (i := 19) rfl
theorem dX7_changesOf_152 : decode cX7_changesOf 152 = .ok (.iload 4, 2) := dc_of dtX7_changesOf_112_2_ok (i := 20) rfl
theorem dX7_changesOf_154 : decode cX7_changesOf 154 = .ok (.aload_n 0, 1) := dc_of dtX7_changesOf_112_2_ok (i := 21) rfl
theorem dX7_changesOf_155 : decode cX7_changesOf 155 = .ok (.getfield 269, 3) := dc_of dtX7_changesOf_112_2_ok (i := 22) rfl
theorem dX7_changesOf_158 : decode cX7_changesOf 158 = .ok (.if_icmp .ge 26, 3) := dc_of dtX7_changesOf_112_2_ok (i := 23) rfl
theorem dX7_changesOf_161 : decode cX7_changesOf 161 = .ok (.aload_n 0, 1) := dc_of dtX7_changesOf_112_2_ok (i := 24) rfl
theorem dX7_changesOf_162 : decode cX7_changesOf 162 = .ok (.getfield 42, 3) := dc_of dtX7_changesOf_112_2_ok (i := 25) rfl
theorem dX7_changesOf_165 : decode cX7_changesOf 165 = .ok (.bipush 6, 2) := dc_of dtX7_changesOf_112_2_ok (i := 26) rfl
theorem dX7_changesOf_167 : decode cX7_changesOf 167 = .ok (.iload 4, 2) := dc_of dtX7_changesOf_112_2_ok (i := 27) rfl
theorem dX7_changesOf_169 : decode cX7_changesOf 169 = .ok (.imul, 1) := dc_of dtX7_changesOf_112_2_ok (i := 28) rfl
theorem dX7_changesOf_170 : decode cX7_changesOf 170 = .ok (.iconst 4, 1) := dc_of dtX7_changesOf_112_2_ok (i := 29) rfl
theorem dX7_changesOf_171 : decode cX7_changesOf 171 = .ok (.iadd, 1) := dc_of dtX7_changesOf_112_2_ok (i := 30) rfl
theorem dX7_changesOf_172 : decode cX7_changesOf 172 = .ok (.iaload, 1) := dc_of dtX7_changesOf_112_2_ok (i := 31) rfl
def dtX7_changesOf_173_3 : List (Nat × Instr × Nat) := [(173, .ifCond .ge 5, 3), (176, .iconst 1, 1), (177, .ireturn, 1), (178, .iinc 4 1, 3), (181, .goto (-29), 3), (184, .iconst 0, 1), (185, .ireturn, 1)]
theorem dtX7_changesOf_173_3_ok : dcAll cX7_changesOf dtX7_changesOf_173_3 = true := by decide +kernel
theorem dX7_changesOf_173 : decode cX7_changesOf 173 = .ok (.ifCond .ge 5, 3) := dc_of dtX7_changesOf_173_3_ok (i := 0) rfl
theorem dX7_changesOf_176 : decode cX7_changesOf 176 = .ok (.iconst 1, 1) := dc_of dtX7_changesOf_173_3_ok (i := 1) rfl
theorem dX7_changesOf_177 : decode cX7_changesOf 177 = .ok (.ireturn, 1) := dc_of dtX7_changesOf_173_3_ok (i := 2) rfl
theorem dX7_changesOf_178 : decode cX7_changesOf 178 = .ok (.iinc 4 1, 3) := dc_of dtX7_changesOf_173_3_ok (i := 3) rfl
theorem dX7_changesOf_181 : decode cX7_changesOf 181 = .ok (.goto (-29), 3) := dc_of dtX7_changesOf_173_3_ok (i := 4) rfl
theorem dX7_changesOf_184 : decode cX7_changesOf 184 = .ok (.iconst 0, 1) := dc_of dtX7_changesOf_173_3_ok (i := 5) rfl
theorem dX7_changesOf_185 : decode cX7_changesOf 185 = .ok (.ireturn, 1) := dc_of dtX7_changesOf_173_3_ok (i := 6) rfl
def dtX7_tables_0_0 : List (Nat × Instr × Nat) := [(0, .iconst 0, 1), (1, .istore_n 1, 1), (2, .iload_n 1, 1), (3, .aload_n 0, 1), (4, .getfield 64, 3), (7, .if_icmp .ge 17, 3), (10, .aload_n 0, 1), (11, .iload_n 1, 1), (12, .invokevirtual 322, 3), (15, .ifCond .ne 9, 3), (18, .iinc 1 1, 3), (21, .goto (-19), 3), (24, .iload_n 1, 1), (25, .ireturn, 1)]
theorem dtX7_tables_0_0_ok : dcAll cX7_tables dtX7_tables_0_0 = true := by decide +kernel
theorem dX7_tables_0 : decode cX7_tables 0 = .ok (.iconst 0, 1) := dc_of dtX7_tables_0_0_ok (i := 0) rfl
theorem dX7_tables_1 : decode cX7_tables 1 = .ok (.istore_n 1, 1) := dc_of dtX7_tables_0_0_ok (i := 1) rfl
theorem dX7_tables_2 : decode cX7_tables 2 = .ok (.iload_n 1, 1) := dc_of dtX7_tables_0_0_ok (i := 2) rfl
theorem dX7_tables_3 : decode cX7_tables 3 = .ok (.aload_n 0, 1) := dc_of dtX7_tables_0_0_ok (i := 3) rfl
theorem dX7_tables_4 : decode cX7_tables 4 = .ok (.getfield 64, 3) := dc_of dtX7_tables_0_0_ok (i := 4) rfl
theorem dX7_tables_7 : decode cX7_tables 7 = .ok (.if_icmp .ge 17, 3) := dc_of dtX7_tables_0_0_ok (i := 5) rfl
theorem dX7_tables_10 : decode cX7_tables 10 = .ok (.aload_n 0, 1) := dc_of dtX7_tables_0_0_ok (i := 6) rfl
theorem dX7_tables_11 : decode cX7_tables 11 = .ok (.iload_n 1, 1) := dc_of dtX7_tables_0_0_ok (i := 7) rfl
theorem dX7_tables_12 : decode cX7_tables 12 = .ok (.invokevirtual 322, 3) := dc_of dtX7_tables_0_0_ok (i := 8) rfl
theorem dX7_tables_15 : decode cX7_tables 15 = .ok (.ifCond .ne 9, 3) := dc_of dtX7_tables_0_0_ok (i := 9) rfl
theorem dX7_tables_18 : decode cX7_tables 18 = .ok (.iinc 1 1, 3) := dc_of dtX7_tables_0_0_ok (i := 10) rfl
theorem dX7_tables_21 : decode cX7_tables 21 = .ok (.goto (-19), 3) := dc_of dtX7_tables_0_0_ok (i := 11) rfl
theorem dX7_tables_24 : decode cX7_tables 24 = .ok (.iload_n 1, 1) := dc_of dtX7_tables_0_0_ok (i := 12) rfl
theorem dX7_tables_25 : decode cX7_tables 25 = .ok (.ireturn, 1) := dc_of dtX7_tables_0_0_ok (i := 13) rfl
def dtX7_drafts_0_0 : List (Nat × Instr × Nat) := [(0, .aload_n 0, 1), (1, .iconst 0, 1), (2, .bipush 10, 2), (4, .invokevirtual 340, 3), (7, .iconst 0, 1), (8, .istore_n 1, 1), (9, .iload_n 1, 1), (10, .aload_n 0, 1), (11, .invokevirtual 343, 3), (14, .if_icmp .ge 22, 3), (17, .aload_n 0, 1), (18, .bipush 10, 2), (20, .iload_n 1, 1), (21, .invokevirtual 346, 3), (24, .ifCond .eq 6, 3), (27, .bipush (-2), 2), (29, .ireturn, 1), (30, .iinc 1 1, 3), (33, .goto (-24), 3), (36, .iconst 0, 1), (37, .istore_n 1, 1), (38, .iload_n 1, 1), (39, .aload_n 0, 1), (40, .getfield 64, 3), (43, .if_icmp .ge 59, 3), (46, .aload_n 0, 1), (47, .iload_n 1, 1), (48, .invokevirtual 322, 3), (51, .ifCond .ne 31, 3), (54, .aload_n 0, 1), (55, .bipush 10, 2), (57, .iload_n 1, 1)]
theorem dtX7_drafts_0_0_ok : dcAll cX7_drafts dtX7_drafts_0_0 = true := by decide +kernel
theorem dX7_drafts_0 : decode cX7_drafts 0 = .ok (.aload_n 0, 1) := dc_of dtX7_drafts_0_0_ok (i := 0) rfl
theorem dX7_drafts_1 : decode cX7_drafts 1 = .ok (.iconst 0, 1) := dc_of dtX7_drafts_0_0_ok (i := 1) rfl
theorem dX7_drafts_2 : decode cX7_drafts 2 = .ok (.bipush 10, 2) := dc_of dtX7_drafts_0_0_ok (i := 2) rfl
theorem dX7_drafts_4 : decode cX7_drafts 4 = .ok (.invokevirtual 340, 3) := dc_of dtX7_drafts_0_0_ok (i := 3) rfl
theorem dX7_drafts_7 : decode cX7_drafts 7 = .ok (.iconst 0, 1) := dc_of dtX7_drafts_0_0_ok (i := 4) rfl
theorem dX7_drafts_8 : decode cX7_drafts 8 = .ok (.istore_n 1, 1) := dc_of dtX7_drafts_0_0_ok (i := 5) rfl
theorem dX7_drafts_9 : decode cX7_drafts 9 = .ok (.iload_n 1, 1) := dc_of dtX7_drafts_0_0_ok (i := 6) rfl
theorem dX7_drafts_10 : decode cX7_drafts 10 = .ok (.aload_n 0, 1) := dc_of dtX7_drafts_0_0_ok (i := 7) rfl
theorem dX7_drafts_11 : decode cX7_drafts 11 = .ok (.invokevirtual 343, 3) := dc_of dtX7_drafts_0_0_ok (i := 8) rfl
theorem dX7_drafts_14 : decode cX7_drafts 14 = .ok (.if_icmp .ge 22, 3) := dc_of dtX7_drafts_0_0_ok (i := 9) rfl
theorem dX7_drafts_17 : decode cX7_drafts 17 = .ok (.aload_n 0, 1) := dc_of dtX7_drafts_0_0_ok (i := 10) rfl
theorem dX7_drafts_18 : decode cX7_drafts 18 = .ok (.bipush 10, 2) := dc_of dtX7_drafts_0_0_ok (i := 11) rfl
theorem dX7_drafts_20 : decode cX7_drafts 20 = .ok (.iload_n 1, 1) := dc_of dtX7_drafts_0_0_ok (i := 12) rfl
theorem dX7_drafts_21 : decode cX7_drafts 21 = .ok (.invokevirtual 346, 3) := dc_of dtX7_drafts_0_0_ok (i := 13) rfl
theorem dX7_drafts_24 : decode cX7_drafts 24 = .ok (.ifCond .eq 6, 3) := dc_of dtX7_drafts_0_0_ok (i := 14) rfl
theorem dX7_drafts_27 : decode cX7_drafts 27 = .ok (.bipush (-2), 2) := dc_of dtX7_drafts_0_0_ok (i := 15) rfl
theorem dX7_drafts_29 : decode cX7_drafts 29 = .ok (.ireturn, 1) := dc_of dtX7_drafts_0_0_ok (i := 16) rfl
theorem dX7_drafts_30 : decode cX7_drafts 30 = .ok (.iinc 1 1, 3) := dc_of dtX7_drafts_0_0_ok (i := 17) rfl
theorem dX7_drafts_33 : decode cX7_drafts 33 = .ok (.goto (-24), 3) := dc_of dtX7_drafts_0_0_ok (i := 18) rfl
theorem dX7_drafts_36 : decode cX7_drafts 36 = .ok (.iconst 0, 1) := dc_of dtX7_drafts_0_0_ok (i := 19) rfl
theorem dX7_drafts_37 : decode cX7_drafts 37 = .ok (.istore_n 1, 1) := dc_of dtX7_drafts_0_0_ok (i := 20) rfl
theorem dX7_drafts_38 : decode cX7_drafts 38 = .ok (.iload_n 1, 1) := dc_of dtX7_drafts_0_0_ok (i := 21) rfl
theorem dX7_drafts_39 : decode cX7_drafts 39 = .ok (.aload_n 0, 1) := dc_of dtX7_drafts_0_0_ok (i := 22) rfl
theorem dX7_drafts_40 : decode cX7_drafts 40 = .ok (.getfield 64, 3) := dc_of dtX7_drafts_0_0_ok (i := 23) rfl
theorem dX7_drafts_43 : decode cX7_drafts 43 = .ok (.if_icmp .ge 59, 3) := dc_of dtX7_drafts_0_0_ok (i := 24) rfl
theorem dX7_drafts_46 : decode cX7_drafts 46 = .ok (.aload_n 0, 1) := dc_of dtX7_drafts_0_0_ok (i := 25) rfl
theorem dX7_drafts_47 : decode cX7_drafts 47 = .ok (.iload_n 1, 1) := dc_of dtX7_drafts_0_0_ok (i := 26) rfl
theorem dX7_drafts_48 : decode cX7_drafts 48 = .ok (.invokevirtual 322, 3) := dc_of dtX7_drafts_0_0_ok (i := 27) rfl
theorem dX7_drafts_51 : decode cX7_drafts 51 = .ok (.ifCond .ne 31, 3) := dc_of dtX7_drafts_0_0_ok (i := 28) rfl
theorem dX7_drafts_54 : decode cX7_drafts 54 = .ok (.aload_n 0, 1) := dc_of dtX7_drafts_0_0_ok (i := 29) rfl
theorem dX7_drafts_55 : decode cX7_drafts 55 = .ok (.bipush 10, 2) := dc_of dtX7_drafts_0_0_ok (i := 30) rfl
theorem dX7_drafts_57 : decode cX7_drafts 57 = .ok (.iload_n 1, 1) := dc_of dtX7_drafts_0_0_ok (i := 31) rfl
def dtX7_drafts_58_1 : List (Nat × Instr × Nat) := [(58, .invokevirtual 346, 3), (61, .istore_n 3, 1), (62, .iload_n 3, 1), (63, .ifCond .eq 8, 3), (66, .bipush (-2), 2), (68, .goto 10, 3), (71, .aload_n 0, 1), (72, .bipush 10, 2), (74, .iload_n 1, 1), (75, .invokevirtual 328, 3), (78, .istore_n 2, 1), (79, .goto 11, 3), (82, .aload_n 0, 1), (83, .bipush 10, 2), (85, .iload_n 1, 1), (86, .invokevirtual 349, 3), (89, .istore_n 2, 1), (90, .iload_n 2, 1), (91, .ifCond .ge 5, 3), (94, .iload_n 2, 1), (95, .ireturn, 1), (96, .iinc 1 1, 3), (99, .goto (-61), 3), (102, .iconst 0, 1), (103, .ireturn, 1)]
theorem dtX7_drafts_58_1_ok : dcAll cX7_drafts dtX7_drafts_58_1 = true := by decide +kernel
theorem dX7_drafts_58 : decode cX7_drafts 58 = .ok (.invokevirtual 346, 3) := dc_of dtX7_drafts_58_1_ok (i := 0) rfl
theorem dX7_drafts_61 : decode cX7_drafts 61 = .ok (.istore_n 3, 1) := dc_of dtX7_drafts_58_1_ok (i := 1) rfl
theorem dX7_drafts_62 : decode cX7_drafts 62 = .ok (.iload_n 3, 1) := dc_of dtX7_drafts_58_1_ok (i := 2) rfl
theorem dX7_drafts_63 : decode cX7_drafts 63 = .ok (.ifCond .eq 8, 3) := dc_of dtX7_drafts_58_1_ok (i := 3) rfl
theorem dX7_drafts_66 : decode cX7_drafts 66 = .ok (.bipush (-2), 2) := dc_of dtX7_drafts_58_1_ok (i := 4) rfl
theorem dX7_drafts_68 : decode cX7_drafts 68 = .ok (.goto 10, 3) := dc_of dtX7_drafts_58_1_ok (i := 5) rfl
theorem dX7_drafts_71 : decode cX7_drafts 71 = .ok (.aload_n 0, 1) := dc_of dtX7_drafts_58_1_ok (i := 6) rfl
theorem dX7_drafts_72 : decode cX7_drafts 72 = .ok (.bipush 10, 2) := dc_of dtX7_drafts_58_1_ok (i := 7) rfl
theorem dX7_drafts_74 : decode cX7_drafts 74 = .ok (.iload_n 1, 1) := dc_of dtX7_drafts_58_1_ok (i := 8) rfl
theorem dX7_drafts_75 : decode cX7_drafts 75 = .ok (.invokevirtual 328, 3) := dc_of dtX7_drafts_58_1_ok (i := 9) rfl
theorem dX7_drafts_78 : decode cX7_drafts 78 = .ok (.istore_n 2, 1) := dc_of dtX7_drafts_58_1_ok (i := 10) rfl
theorem dX7_drafts_79 : decode cX7_drafts 79 = .ok (.goto 11, 3) := dc_of dtX7_drafts_58_1_ok (i := 11) rfl
theorem dX7_drafts_82 : decode cX7_drafts 82 = .ok (.aload_n 0, 1) := dc_of dtX7_drafts_58_1_ok (i := 12) rfl
theorem dX7_drafts_83 : decode cX7_drafts 83 = .ok (.bipush 10, 2) := dc_of dtX7_drafts_58_1_ok (i := 13) rfl
theorem dX7_drafts_85 : decode cX7_drafts 85 = .ok (.iload_n 1, 1) := dc_of dtX7_drafts_58_1_ok (i := 14) rfl
theorem dX7_drafts_86 : decode cX7_drafts 86 = .ok (.invokevirtual 349, 3) := dc_of dtX7_drafts_58_1_ok (i := 15) rfl
theorem dX7_drafts_89 : decode cX7_drafts 89 = .ok (.istore_n 2, 1) := dc_of dtX7_drafts_58_1_ok (i := 16) rfl
theorem dX7_drafts_90 : decode cX7_drafts 90 = .ok (.iload_n 2, 1) := dc_of dtX7_drafts_58_1_ok (i := 17) rfl
theorem dX7_drafts_91 : decode cX7_drafts 91 = .ok (.ifCond .ge 5, 3) := dc_of dtX7_drafts_58_1_ok (i := 18) rfl
theorem dX7_drafts_94 : decode cX7_drafts 94 = .ok (.iload_n 2, 1) := dc_of dtX7_drafts_58_1_ok (i := 19) rfl
theorem dX7_drafts_95 : decode cX7_drafts 95 = .ok (.ireturn, 1) := dc_of dtX7_drafts_58_1_ok (i := 20) rfl
theorem dX7_drafts_96 : decode cX7_drafts 96 = .ok (.iinc 1 1, 3) := dc_of dtX7_drafts_58_1_ok (i := 21) rfl
theorem dX7_drafts_99 : decode cX7_drafts 99 = .ok (.goto (-61), 3) := dc_of dtX7_drafts_58_1_ok (i := 22) rfl
theorem dX7_drafts_102 : decode cX7_drafts 102 = .ok (.iconst 0, 1) := dc_of dtX7_drafts_58_1_ok (i := 23) rfl
theorem dX7_drafts_103 : decode cX7_drafts 103 = .ok (.ireturn, 1) := dc_of dtX7_drafts_58_1_ok (i := 24) rfl
def dtX7_change_0_0 : List (Nat × Instr × Nat) := [(0, .aload_n 0, 1), (1, .iconst 0, 1), (2, .putfield 60, 3), (5, .aload_n 0, 1), (6, .iload_n 1, 1), (7, .invokevirtual 352, 3), (10, .ifCond .eq 28, 3), (13, .aload_n 0, 1), (14, .iload_n 1, 1), (15, .invokevirtual 322, 3), (18, .ifCond .ne 20, 3), (21, .iload 6, 2), (23, .bipush (-9), 2), (25, .bipush 9, 2), (27, .invokestatic 67, 3), (30, .ifCond .eq 8, 3), (33, .iload 6, 2), (35, .ifCond .ne 5, 3), (38, .iconst (-1), 1), (39, .ireturn, 1), (40, .aload_n 0, 1), (41, .iload_n 1, 1), (42, .invokevirtual 301, 3), (45, .istore 7, 2), (47, .aload_n 0, 1), (48, .getfield 45, 3), (51, .iconst 0, 1), (52, .iload_n 2, 1), (53, .iastore, 1), (54, .aload_n 0, 1), (55, .getfield 45, 3), (58, .iconst 1, 1)]
theorem dtX7_change_0_0_ok : dcAll cX7_change dtX7_change_0_0 = true := by decide +kernel
theorem dX7_change_0 : decode cX7_change 0 = .ok (.aload_n 0, 1) := dc_of dtX7_change_0_0_ok (i := 0) rfl
theorem dX7_change_1 : decode cX7_change 1 = .ok (.iconst 0, 1) := dc_of dtX7_change_0_0_ok (i := 1) rfl
theorem dX7_change_2 : decode cX7_change 2 = .ok (.putfield 60, 3) := dc_of dtX7_change_0_0_ok (i := 2) rfl
theorem dX7_change_5 : decode cX7_change 5 = .ok (.aload_n 0, 1) := dc_of dtX7_change_0_0_ok (i := 3) rfl
theorem dX7_change_6 : decode cX7_change 6 = .ok (.iload_n 1, 1) := dc_of dtX7_change_0_0_ok (i := 4) rfl
theorem dX7_change_7 : decode cX7_change 7 = .ok (.invokevirtual 352, 3) := dc_of dtX7_change_0_0_ok (i := 5) rfl
theorem dX7_change_10 : decode cX7_change 10 = .ok (.ifCond .eq 28, 3) := dc_of dtX7_change_0_0_ok (i := 6) rfl
theorem dX7_change_13 : decode cX7_change 13 = .ok (.aload_n 0, 1) := dc_of dtX7_change_0_0_ok (i := 7) rfl
theorem dX7_change_14 : decode cX7_change 14 = .ok (.iload_n 1, 1) := dc_of dtX7_change_0_0_ok (i := 8) rfl
theorem dX7_change_15 : decode cX7_change 15 = .ok (.invokevirtual 322, 3) := dc_of dtX7_change_0_0_ok (i := 9) rfl
theorem dX7_change_18 : decode cX7_change 18 = .ok (.ifCond .ne 20, 3) := dc_of dtX7_change_0_0_ok (i := 10) rfl
theorem dX7_change_21 : decode cX7_change 21 = .ok (.iload 6, 2) := dc_of dtX7_change_0_0_ok (i := 11) rfl
theorem dX7_change_23 : decode cX7_change 23 = .ok (.bipush (-9), 2) := dc_of dtX7_change_0_0_ok (i := 12) rfl
theorem dX7_change_25 : decode cX7_change 25 = .ok (.bipush 9, 2) := dc_of dtX7_change_0_0_ok (i := 13) rfl
theorem dX7_change_27 : decode cX7_change 27 = .ok (.invokestatic 67, 3) := dc_of dtX7_change_0_0_ok (i := 14) rfl
theorem dX7_change_30 : decode cX7_change 30 = .ok (.ifCond .eq 8, 3) := dc_of dtX7_change_0_0_ok (i := 15) rfl
theorem dX7_change_33 : decode cX7_change 33 = .ok (.iload 6, 2) := dc_of dtX7_change_0_0_ok (i := 16) rfl
theorem dX7_change_35 : decode cX7_change 35 = .ok (.ifCond .ne 5, 3) := dc_of dtX7_change_0_0_ok (i := 17) rfl
theorem dX7_change_38 : decode cX7_change 38 = .ok (.iconst (-1), 1) := dc_of dtX7_change_0_0_ok (i := 18) rfl
theorem dX7_change_39 : decode cX7_change 39 = .ok (.ireturn, 1) := dc_of dtX7_change_0_0_ok (i := 19) rfl
theorem dX7_change_40 : decode cX7_change 40 = .ok (.aload_n 0, 1) := dc_of dtX7_change_0_0_ok (i := 20) rfl
theorem dX7_change_41 : decode cX7_change 41 = .ok (.iload_n 1, 1) := dc_of dtX7_change_0_0_ok (i := 21) rfl
theorem dX7_change_42 : decode cX7_change 42 = .ok (.invokevirtual 301, 3) := dc_of dtX7_change_0_0_ok (i := 22) rfl
theorem dX7_change_45 : decode cX7_change 45 = .ok (.istore 7, 2) := dc_of dtX7_change_0_0_ok (i := 23) rfl
theorem dX7_change_47 : decode cX7_change 47 = .ok (.aload_n 0, 1) := dc_of dtX7_change_0_0_ok (i := 24) rfl
theorem dX7_change_48 : decode cX7_change 48 = .ok (.getfield 45, 3) := dc_of dtX7_change_0_0_ok (i := 25) rfl
theorem dX7_change_51 : decode cX7_change 51 = .ok (.iconst 0, 1) := dc_of dtX7_change_0_0_ok (i := 26) rfl
theorem dX7_change_52 : decode cX7_change 52 = .ok (.iload_n 2, 1) := dc_of dtX7_change_0_0_ok (i := 27) rfl
theorem dX7_change_53 : decode cX7_change 53 = .ok (.iastore, 1) := dc_of dtX7_change_0_0_ok (i := 28) rfl
theorem dX7_change_54 : decode cX7_change 54 = .ok (.aload_n 0, 1) := dc_of dtX7_change_0_0_ok (i := 29) rfl
theorem dX7_change_55 : decode cX7_change 55 = .ok (.getfield 45, 3) := dc_of dtX7_change_0_0_ok (i := 30) rfl
theorem dX7_change_58 : decode cX7_change 58 = .ok (.iconst 1, 1) := dc_of dtX7_change_0_0_ok (i := 31) rfl
def dtX7_change_59_1 : List (Nat × Instr × Nat) := [(59, .iload 7, 2), (61, .iconst 1, 1), (62, .if_icmp .le 7, 3), (65, .iload_n 3, 1), (66, .goto 4, 3), (69, .iconst 0, 1), (70, .iastore, 1), (71, .aload_n 0, 1), (72, .getfield 45, 3), (75, .iconst 2, 1), (76, .iload 7, 2), (78, .iconst 2, 1), (79, .if_icmp .le 8, 3), (82, .iload 4, 2), (84, .goto 4, 3), (87, .iconst 0, 1), (88, .iastore, 1), (89, .aload_n 0, 1), (90, .getfield 45, 3), (93, .iconst 3, 1), (94, .iload 7, 2), (96, .iconst 3, 1), (97, .if_icmp .le 8, 3), (100, .iload 5, 2), (102, .goto 4, 3), (105, .iconst 0, 1), (106, .iastore, 1), (107, .iconst 0, 1), (108, .istore 8, 2), (110, .iload 8, 2), (112, .aload_n 0, 1), (113, .getfield 266, 3)]
theorem dtX7_change_59_1_ok : dcAll cX7_change dtX7_change_59_1 = true := by decide +kernel
theorem dX7_change_59 : decode cX7_change 59 = .ok (.iload 7, 2) := dc_of dtX7_change_59_1_ok (i := 0) rfl
theorem dX7_change_61 : decode cX7_change 61 = .ok (.iconst 1, 1) := dc_of dtX7_change_59_1_ok (i := 1) rfl
theorem dX7_change_62 : decode cX7_change 62 = .ok (.if_icmp .le 7, 3) := dc_of dtX7_change_59_1_ok (i := 2) rfl
theorem dX7_change_65 : decode cX7_change 65 = .ok (.iload_n 3, 1) := dc_of dtX7_change_59_1_ok (i := 3) rfl
theorem dX7_change_66 : decode cX7_change 66 = .ok (.goto 4, 3) := dc_of dtX7_change_59_1_ok (i := 4) rfl
theorem dX7_change_69 : decode cX7_change 69 = .ok (.iconst 0, 1) := dc_of dtX7_change_59_1_ok (i := 5) rfl
theorem dX7_change_70 : decode cX7_change 70 = .ok (.iastore, 1) := dc_of dtX7_change_59_1_ok (i := 6) rfl
theorem dX7_change_71 : decode cX7_change 71 = .ok (.aload_n 0, 1) := dc_of dtX7_change_59_1_ok (i := 7) rfl
theorem dX7_change_72 : decode cX7_change 72 = .ok (.getfield 45, 3) := dc_of dtX7_change_59_1_ok (i := 8) rfl
theorem dX7_change_75 : decode cX7_change 75 = .ok (.iconst 2, 1) := dc_of dtX7_change_59_1_ok (i := 9) rfl
theorem dX7_change_76 : decode cX7_change 76 = .ok (.iload 7, 2) := dc_of dtX7_change_59_1_ok (i := 10) rfl
theorem dX7_change_78 : decode cX7_change 78 = .ok (.iconst 2, 1) := dc_of dtX7_change_59_1_ok (i := 11) rfl
theorem dX7_change_79 : decode cX7_change 79 = .ok (.if_icmp .le 8, 3) := dc_of dtX7_change_59_1_ok (i := 12) rfl
theorem dX7_change_82 : decode cX7_change 82 = .ok (.iload 4, 2) := dc_of dtX7_change_59_1_ok (i := 13) rfl
theorem dX7_change_84 : decode cX7_change 84 = .ok (.goto 4, 3) := dc_of dtX7_change_59_1_ok (i := 14) rfl
theorem dX7_change_87 : decode cX7_change 87 = .ok (.iconst 0, 1) := dc_of dtX7_change_59_1_ok (i := 15) rfl
theorem dX7_change_88 : decode cX7_change 88 = .ok (.iastore, 1) := dc_of dtX7_change_59_1_ok (i := 16) rfl
theorem dX7_change_89 : decode cX7_change 89 = .ok (.aload_n 0, 1) := dc_of dtX7_change_59_1_ok (i := 17) rfl
theorem dX7_change_90 : decode cX7_change 90 = .ok (.getfield 45, 3) := dc_of dtX7_change_59_1_ok (i := 18) rfl
theorem dX7_change_93 : decode cX7_change 93 = .ok (.iconst 3, 1) := dc_of dtX7_change_59_1_ok (i := 19) rfl
theorem dX7_change_94 : decode cX7_change 94 = .ok (.iload 7, 2) := dc_of dtX7_change_59_1_ok (i := 20) rfl
theorem dX7_change_96 : decode cX7_change 96 = .ok (.iconst 3, 1) := dc_of dtX7_change_59_1_ok (i := 21) rfl
theorem dX7_change_97 : decode cX7_change 97 = .ok (.if_icmp .le 8, 3) := dc_of dtX7_change_59_1_ok (i := 22) rfl
theorem dX7_change_100 : decode cX7_change 100 = .ok (.iload 5, 2) := dc_of dtX7_change_59_1_ok (i := 23) rfl
theorem dX7_change_102 : decode cX7_change 102 = .ok (.goto 4, 3) := dc_of dtX7_change_59_1_ok (i := 24) rfl
theorem dX7_change_105 : decode cX7_change 105 = .ok (.iconst 0, 1) := dc_of dtX7_change_59_1_ok (i := 25) rfl
theorem dX7_change_106 : decode cX7_change 106 = .ok (.iastore, 1) := dc_of dtX7_change_59_1_ok (i := 26) rfl
theorem dX7_change_107 : decode cX7_change 107 = .ok (.iconst 0, 1) := dc_of dtX7_change_59_1_ok (i := 27) rfl
theorem dX7_change_108 : decode cX7_change 108 = .ok (.istore 8, 2) := dc_of dtX7_change_59_1_ok (i := 28) rfl
theorem dX7_change_110 : decode cX7_change 110 = .ok (.iload 8, 2) := dc_of dtX7_change_59_1_ok (i := 29) rfl
theorem dX7_change_112 : decode cX7_change 112 = .ok (.aload_n 0, 1) := dc_of dtX7_change_59_1_ok (i := 30) rfl
theorem dX7_change_113 : decode cX7_change 113 = .ok (.getfield 266, 3) := dc_of dtX7_change_59_1_ok (i := 31) rfl
def dtX7_change_116_2 : List (Nat × Instr × Nat) := [(116, .if_icmp .ge 50, 3), (119, .aload_n 0, 1), (120, .getfield 30, 3), (123, .iload 8, 2), (125, .iaload, 1), (126, .iload_n 1, 1), (127, .if_icmp .lt 33, 3), (130, .aload_n 0, 1), (131, .getfield 30, 3), (134, .iload 8, 2), (136, .iaload, 1), (137, .iload_n 1, 1), (138, .if_icmp .ne 28, 3), (141, .aload_n 0, 1), (142, .getfield 33, 3), (145, .iconst 4, 1), (146, .iload 8, 2), (148, .imul, 1), (149, .aload_n 0, 1), (150, .getfield 45, 3), (153, .iconst 0, 1), (154, .invokestatic 272, 3), (157, .ifCond .ge 9, 3), (160, .iinc 8 1, 3), (163, .goto (-53), 3), (166, .iload 8, 2), (168, .aload_n 0, 1), (169, .getfield 266, 3), (172, .if_icmp .ge 37, 3), (175, .aload_n 0, 1), (176, .getfield 30, 3), (179, .iload 8, 2)]
theorem dtX7_change_116_2_ok : dcAll cX7_change dtX7_change_116_2 = true := by decide +kernel
theorem dX7_change_116 : decode cX7_change 116 = .ok (.if_icmp .ge 50, 3) := dc_of dtX7_change_116_2_ok (i := 0) rfl
theorem dX7_change_119 : decode cX7_change 119 = .ok (.aload_n 0, 1) := dc_of dtX7_change_116_2_ok (i := 1) rfl
theorem dX7_change_120 : decode cX7_change 120 = .ok (.getfield 30, 3) := dc_of dtX7_change_116_2_ok (i := 2) rfl
theorem dX7_change_123 : decode cX7_change 123 = .ok (.iload 8, 2) := dc_of dtX7_change_116_2_ok (i := 3) rfl
theorem dX7_change_125 : decode cX7_change 125 = .ok (.iaload, 1) := dc_of dtX7_change_116_2_ok (i := 4) rfl
theorem dX7_change_126 : decode cX7_change 126 = .ok (.iload_n 1, 1) := dc_of dtX7_change_116_2_ok (i := 5) rfl
theorem dX7_change_127 : decode cX7_change 127 = .ok (.if_icmp .lt 33, 3) := dc_of dtX7_change_116_2_ok (i := 6) rfl
theorem dX7_change_130 : decode cX7_change 130 = .ok (.aload_n 0, 1) := dc_of dtX7_change_116_2_ok (i := 7) rfl
theorem dX7_change_131 : decode cX7_change 131 = .ok (.getfield 30, 3) := dc_of dtX7_change_116_2_ok (i := 8) rfl
theorem dX7_change_134 : decode cX7_change 134 = .ok (.iload 8, 2) := dc_of dtX7_change_116_2_ok (i := 9) rfl
theorem dX7_change_136 : decode cX7_change 136 = .ok (.iaload, 1) := dc_of dtX7_change_116_2_ok (i := 10) rfl
theorem dX7_change_137 : decode cX7_change 137 = .ok (.iload_n 1, 1) := dc_of dtX7_change_116_2_ok (i := 11) rfl
theorem dX7_change_138 : decode cX7_change 138 = .ok (.if_icmp .ne 28, 3) := dc_of dtX7_change_116_2_ok (i := 12) rfl
theorem dX7_change_141 : decode cX7_change 141 = .ok (.aload_n 0, 1) := dc_of dtX7_change_116_2_ok (i := 13) rfl
theorem dX7_change_142 : decode cX7_change 142 = .ok (.getfield 33, 3) := dc_of dtX7_change_116_2_ok (i := 14) rfl
theorem dX7_change_145 : decode cX7_change 145 = .ok (.iconst 4, 1) := dc_of dtX7_change_116_2_ok (i := 15) rfl
theorem dX7_change_146 : decode cX7_change 146 = .ok (.iload 8, 2) := dc_of dtX7_change_116_2_ok (i := 16) rfl
theorem dX7_change_148 : decode cX7_change 148 = .ok (.imul, 1) := dc_of dtX7_change_116_2_ok (i := 17) rfl
theorem dX7_change_149 : decode cX7_change 149 = .ok (.aload_n 0, 1) := dc_of dtX7_change_116_2_ok (i := 18) rfl
theorem dX7_change_150 : decode cX7_change 150 = .ok (.getfield 45, 3) := dc_of dtX7_change_116_2_ok (i := 19) rfl
theorem dX7_change_153 : decode cX7_change 153 = .ok (.iconst 0, 1) := dc_of dtX7_change_116_2_ok (i := 20) rfl
theorem dX7_change_154 : decode cX7_change 154 = .ok (.invokestatic 272, 3) := dc_of dtX7_change_116_2_ok (i := 21) rfl
theorem dX7_change_157 : decode cX7_change 157 = .ok (.ifCond .ge 9, 3) := dc_of dtX7_change_116_2_ok (i := 22) rfl
theorem dX7_change_160 : decode cX7_change 160 = .ok (.iinc 8 1, 3) := dc_of dtX7_change_116_2_ok (i := 23) rfl
theorem dX7_change_163 : decode cX7_change 163 = .ok (.goto (-53), 3) := dc_of dtX7_change_116_2_ok (i := 24) rfl
theorem dX7_change_166 : decode cX7_change 166 = .ok (.iload 8, 2) := dc_of dtX7_change_116_2_ok (i := 25) rfl
theorem dX7_change_168 : decode cX7_change 168 = .ok (.aload_n 0, 1) := dc_of dtX7_change_116_2_ok (i := 26) rfl
theorem dX7_change_169 : decode cX7_change 169 = .ok (.getfield 266, 3) := dc_of dtX7_change_116_2_ok (i := 27) rfl
theorem dX7_change_172 : decode cX7_change 172 = .ok (.if_icmp .ge 37, 3) := dc_of dtX7_change_116_2_ok (i := 28) rfl
theorem dX7_change_175 : decode cX7_change 175 = .ok (.aload_n 0, 1) := dc_of dtX7_change_116_2_ok (i := 29) rfl
theorem dX7_change_176 : decode cX7_change 176 = .ok (.getfield 30, 3) := dc_of dtX7_change_116_2_ok (i := 30) rfl
theorem dX7_change_179 : decode cX7_change 179 = .ok (.iload 8, 2) := dc_of dtX7_change_116_2_ok (i := 31) rfl
def dtX7_change_181_3 : List (Nat × Instr × Nat) := [(181, .iaload, 1), (182, .iload_n 1, 1), (183, .if_icmp .ne 26, 3), (186, .aload_n 0, 1), (187, .getfield 33, 3), (190, .iconst 4, 1), (191, .iload 8, 2), (193, .imul, 1), (194, .aload_n 0, 1), (195, .getfield 45, 3), (198, .iconst 0, 1), (199, .invokestatic 272, 3), (202, .ifCond .ne 7, 3), (205, .iconst 1, 1), (206, .goto 4, 3), (209, .iconst 0, 1), (210, .istore 9, 2), (212, .iload 9, 2), (214, .ifCond .ne 14, 3), (217, .aload_n 0, 1), (218, .getfield 266, 3), (221, .bipush 40, 2), (223, .if_icmp .ne 5, 3), (226, .iconst (-1), 1), (227, .ireturn, 1), (228, .iload 9, 2), (230, .ifCond .ne 98, 3), (233, .aload_n 0, 1), (234, .getfield 266, 3), (237, .istore 10, 2), (239, .iload 10, 2), (241, .iload 8, 2)]
theorem dtX7_change_181_3_ok : dcAll cX7_change dtX7_change_181_3 = true := by decide +kernel
theorem dX7_change_181 : decode cX7_change 181 = .ok (.iaload, 1) := dc_of dtX7_change_181_3_ok (i := 0) rfl
theorem dX7_change_182 : decode cX7_change 182 = .ok (.iload_n 1, 1) := dc_of dtX7_change_181_3_ok (i := 1) rfl
theorem dX7_change_183 : decode cX7_change 183 = .ok (.if_icmp .ne 26, 3) := dc_of dtX7_change_181_3_ok (i := 2) rfl
theorem dX7_change_186 : decode cX7_change 186 = .ok (.aload_n 0, 1) := dc_of dtX7_change_181_3_ok (i := 3) rfl
theorem dX7_change_187 : decode cX7_change 187 = .ok (.getfield 33, 3) := dc_of dtX7_change_181_3_ok (i := 4) rfl
theorem dX7_change_190 : decode cX7_change 190 = .ok (.iconst 4, 1) := dc_of dtX7_change_181_3_ok (i := 5) rfl
theorem dX7_change_191 : decode cX7_change 191 = .ok (.iload 8, 2) := dc_of dtX7_change_181_3_ok (i := 6) rfl
theorem dX7_change_193 : decode cX7_change 193 = .ok (.imul, 1) := dc_of dtX7_change_181_3_ok (i := 7) rfl
theorem dX7_change_194 : decode cX7_change 194 = .ok (.aload_n 0, 1) := dc_of dtX7_change_181_3_ok (i := 8) rfl
theorem dX7_change_195 : decode cX7_change 195 = .ok (.getfield 45, 3) := dc_of dtX7_change_181_3_ok (i := 9) rfl
theorem dX7_change_198 : decode cX7_change 198 = .ok (.iconst 0, 1) := dc_of dtX7_change_181_3_ok (i := 10) rfl
theorem dX7_change_199 : decode cX7_change 199 = .ok (.invokestatic 272, 3) := dc_of dtX7_change_181_3_ok (i := 11) rfl
theorem dX7_change_202 : decode cX7_change 202 = .ok (.ifCond .ne 7, 3) := dc_of dtX7_change_181_3_ok (i := 12) rfl
theorem dX7_change_205 : decode cX7_change 205 = .ok (.iconst 1, 1) := dc_of dtX7_change_181_3_ok (i := 13) rfl
theorem dX7_change_206 : decode cX7_change 206 = .ok (.goto 4, 3) := dc_of dtX7_change_181_3_ok (i := 14) rfl
theorem dX7_change_209 : decode cX7_change 209 = .ok (.iconst 0, 1) := dc_of dtX7_change_181_3_ok (i := 15) rfl
theorem dX7_change_210 : decode cX7_change 210 = .ok (.istore 9, 2) := dc_of dtX7_change_181_3_ok (i := 16) rfl
theorem dX7_change_212 : decode cX7_change 212 = .ok (.iload 9, 2) := dc_of dtX7_change_181_3_ok (i := 17) rfl
theorem dX7_change_214 : decode cX7_change 214 = .ok (.ifCond .ne 14, 3) := dc_of dtX7_change_181_3_ok (i := 18) rfl
theorem dX7_change_217 : decode cX7_change 217 = .ok (.aload_n 0, 1) := dc_of dtX7_change_181_3_ok (i := 19) rfl
theorem dX7_change_218 : decode cX7_change 218 = .ok (.getfield 266, 3) := dc_of dtX7_change_181_3_ok (i := 20) rfl
theorem dX7_change_221 : decode cX7_change 221 = .ok (.bipush 40, 2) := dc_of dtX7_change_181_3_ok (i := 21) rfl
theorem dX7_change_223 : decode cX7_change 223 = .ok (.if_icmp .ne 5, 3) := dc_of dtX7_change_181_3_ok (i := 22) rfl
theorem dX7_change_226 : decode cX7_change 226 = .ok (.iconst (-1), 1) := dc_of dtX7_change_181_3_ok (i := 23) rfl
theorem dX7_change_227 : decode cX7_change 227 = .ok (.ireturn, 1) := dc_of dtX7_change_181_3_ok (i := 24) rfl
theorem dX7_change_228 : decode cX7_change 228 = .ok (.iload 9, 2) := dc_of dtX7_change_181_3_ok (i := 25) rfl
theorem dX7_change_230 : decode cX7_change 230 = .ok (.ifCond .ne 98, 3) := dc_of dtX7_change_181_3_ok (i := 26) rfl
theorem dX7_change_233 : decode cX7_change 233 = .ok (.aload_n 0, 1) := dc_of dtX7_change_181_3_ok (i := 27) rfl
theorem dX7_change_234 : decode cX7_change 234 = .ok (.getfield 266, 3) := dc_of dtX7_change_181_3_ok (i := 28) rfl
theorem dX7_change_237 : decode cX7_change 237 = .ok (.istore 10, 2) := dc_of dtX7_change_181_3_ok (i := 29) rfl
theorem dX7_change_239 : decode cX7_change 239 = .ok (.iload 10, 2) := dc_of dtX7_change_181_3_ok (i := 30) rfl
theorem dX7_change_241 : decode cX7_change 241 = .ok (.iload 8, 2) := dc_of dtX7_change_181_3_ok (i := 31) rfl
def dtX7_change_243_4 : List (Nat × Instr × Nat) := [(243, .if_icmp .le 19, 3), (246, .aload_n 0, 1), (247, .iload 10, 2), (249, .iconst 1, 1), (250, .isub, 1), (251, .iload 10, 2), (253, .invokevirtual 355, 3), (256, .iinc 10 (-1), 3), (259, .goto (-20), 3), (262, .aload_n 0, 1), (263, .dup, 1), (264, .getfield 266, 3), (267, .iconst 1, 1), (268, .iadd, 1), (269, .putfield 266, 3), (272, .aload_n 0, 1), (273, .getfield 30, 3), (276, .iload 8, 2), (278, .iload_n 1, 1), (279, .iastore, 1), (280, .iconst 0, 1), (281, .istore 10, 2), (283, .iload 10, 2), (285, .iconst 4, 1), (286, .if_icmp .ge 28, 3), (289, .aload_n 0, 1), (290, .getfield 33, 3), (293, .iconst 4, 1), (294, .iload 8, 2), (296, .imul, 1), (297, .iload 10, 2), (299, .iadd, 1)]
theorem dtX7_change_243_4_ok : dcAll cX7_change dtX7_change_243_4 = true := by decide +kernel
theorem dX7_change_243 : decode cX7_change 243 = .ok (.if_icmp .le 19, 3) := dc_of dtX7_change_243_4_ok (i := 0) rfl
theorem dX7_change_246 : decode cX7_change 246 = .ok (.aload_n 0, 1) := dc_of dtX7_change_243_4_ok (i := 1) rfl
theorem dX7_change_247 : decode cX7_change 247 = .ok (.iload 10, 2) := dc_of dtX7_change_243_4_ok (i := 2) rfl
theorem dX7_change_249 : decode cX7_change 249 = .ok (.iconst 1, 1) := dc_of dtX7_change_243_4_ok (i := 3) rfl
theorem dX7_change_250 : decode cX7_change 250 = .ok (.isub, 1) := dc_of dtX7_change_243_4_ok (i := 4) rfl
theorem dX7_change_251 : decode cX7_change 251 = .ok (.iload 10, 2) := dc_of dtX7_change_243_4_ok (i := 5) rfl
theorem dX7_change_253 : decode cX7_change 253 = .ok (.invokevirtual 355, 3) := dc_of dtX7_change_243_4_ok (i := 6) rfl
theorem dX7_change_256 : decode cX7_change 256 = .ok (.iinc 10 (-1), 3) := dc_of dtX7_change_243_4_ok (i := 7) rfl
theorem dX7_change_259 : decode cX7_change 259 = .ok (.goto (-20), 3) := dc_of dtX7_change_243_4_ok (i := 8) rfl
theorem dX7_change_262 : decode cX7_change 262 = .ok (.aload_n 0, 1) := dc_of dtX7_change_243_4_ok (i := 9) rfl
theorem dX7_change_263 : decode cX7_change 263 = .ok (.dup, 1) := dc_of dtX7_change_243_4_ok (i := 10) rfl
theorem dX7_change_264 : decode cX7_change 264 = .ok (.getfield 266, 3) := dc_of dtX7_change_243_4_ok (i := 11) rfl
theorem dX7_change_267 : decode cX7_change 267 = .ok (.iconst 1, 1) := dc_of dtX7_change_243_4_ok (i := 12) rfl
theorem dX7_change_268 : decode cX7_change 268 = .ok (.iadd, 1) := dc_of dtX7_change_243_4_ok (i := 13) rfl
theorem dX7_change_269 : decode cX7_change 269 = .ok (.putfield 266, 3) := dc_of dtX7_change_243_4_ok (i := 14) rfl
theorem dX7_change_272 : decode cX7_change 272 = .ok (.aload_n 0, 1) := dc_of dtX7_change_243_4_ok (i := 15) rfl
theorem dX7_change_273 : decode cX7_change 273 = .ok (.getfield 30, 3) := dc_of dtX7_change_243_4_ok (i := 16) rfl
theorem dX7_change_276 : decode cX7_change 276 = .ok (.iload 8, 2) := dc_of dtX7_change_243_4_ok (i := 17) rfl
theorem dX7_change_278 : decode cX7_change 278 = .ok (.iload_n 1, 1) := dc_of dtX7_change_243_4_ok (i := 18) rfl
theorem dX7_change_279 : decode cX7_change 279 = .ok (.iastore, 1) := dc_of dtX7_change_243_4_ok (i := 19) rfl
theorem dX7_change_280 : decode cX7_change 280 = .ok (.iconst 0, 1) := dc_of dtX7_change_243_4_ok (i := 20) rfl
theorem dX7_change_281 : decode cX7_change 281 = .ok (.istore 10, 2) := dc_of dtX7_change_243_4_ok (i := 21) rfl
theorem dX7_change_283 : decode cX7_change 283 = .ok (.iload 10, 2) := dc_of dtX7_change_243_4_ok (i := 22) rfl
theorem dX7_change_285 : decode cX7_change 285 = .ok (.iconst 4, 1) := dc_of dtX7_change_243_4_ok (i := 23) rfl
theorem dX7_change_286 : decode cX7_change 286 = .ok (.if_icmp .ge 28, 3) := dc_of dtX7_change_243_4_ok (i := 24) rfl
theorem dX7_change_289 : decode cX7_change 289 = .ok (.aload_n 0, 1) := dc_of dtX7_change_243_4_ok (i := 25) rfl
theorem dX7_change_290 : decode cX7_change 290 = .ok (.getfield 33, 3) := dc_of dtX7_change_243_4_ok (i := 26) rfl
theorem dX7_change_293 : decode cX7_change 293 = .ok (.iconst 4, 1) := dc_of dtX7_change_243_4_ok (i := 27) rfl
theorem dX7_change_294 : decode cX7_change 294 = .ok (.iload 8, 2) := dc_of dtX7_change_243_4_ok (i := 28) rfl
theorem dX7_change_296 : decode cX7_change 296 = .ok (.imul, 1) := dc_of dtX7_change_243_4_ok (i := 29) rfl
theorem dX7_change_297 : decode cX7_change 297 = .ok (.iload 10, 2) := dc_of dtX7_change_243_4_ok (i := 30) rfl
theorem dX7_change_299 : decode cX7_change 299 = .ok (.iadd, 1) := dc_of dtX7_change_243_4_ok (i := 31) rfl
def dtX7_change_300_5 : List (Nat × Instr × Nat) := [(300, .aload_n 0, 1), (301, .getfield 45, 3), (304, .iload 10, 2), (306, .iaload, 1), (307, .iastore, 1), (308, .iinc 10 1, 3), (311, .goto (-28), 3), (314, .aload_n 0, 1), (315, .getfield 36, 3), (318, .iload 8, 2), (320, .iload 6, 2), (322, .iastore, 1), (323, .aload_n 0, 1), (324, .getfield 266, 3), (327, .ireturn, 1), (328, .aload_n 0, 1), (329, .getfield 36, 3), (332, .iload 8, 2), (334, .dup2, 1), (335, .iaload, 1), (336, .iload 6, 2), (338, .iadd, 1), (339, .iastore, 1), (340, .aload_n 0, 1), (341, .getfield 36, 3), (344, .iload 8, 2), (346, .iaload, 1), (347, .ifCond .eq 8, 3), (350, .aload_n 0, 1), (351, .getfield 266, 3), (354, .ireturn, 1), (355, .aload_n 0, 1)]
theorem dtX7_change_300_5_ok : dcAll cX7_change dtX7_change_300_5 = true := by decide +kernel
theorem dX7_change_300 : decode cX7_change 300 = .ok (.aload_n 0, 1) := dc_of dtX7_change_300_5_ok (i := 0) rfl
theorem dX7_change_301 : decode cX7_change 301 = .ok (.getfield 45, 3) := dc_of dtX7_change_300_5_ok (i := 1) rfl
theorem dX7_change_304 : decode cX7_change 304 = .ok (.iload 10, 2) := dc_of dtX7_change_300_5_ok (i := 2) rfl
theorem dX7_change_306 : decode cX7_change 306 = .ok (.iaload, 1) := dc_of dtX7_change_300_5_ok (i := 3) rfl
theorem dX7_change_307 : decode cX7_change 307 = .ok (.iastore, 1) := dc_of dtX7_change_300_5_ok (i := 4) rfl
theorem dX7_change_308 : decode cX7_change 308 = .ok (.iinc 10 1, 3) := dc_of dtX7_change_300_5_ok (i := 5) rfl
theorem dX7_change_311 : decode cX7_change 311 = .ok (.goto (-28), 3) := dc_of dtX7_change_300_5_ok (i := 6) rfl
theorem dX7_change_314 : decode cX7_change 314 = .ok (.aload_n 0, 1) := dc_of dtX7_change_300_5_ok (i := 7) rfl
theorem dX7_change_315 : decode cX7_change 315 = .ok (.getfield 36, 3) := dc_of dtX7_change_300_5_ok (i := 8) rfl
theorem dX7_change_318 : decode cX7_change 318 = .ok (.iload 8, 2) := dc_of dtX7_change_300_5_ok (i := 9) rfl
theorem dX7_change_320 : decode cX7_change 320 = .ok (.iload 6, 2) := dc_of dtX7_change_300_5_ok (i := 10) rfl
theorem dX7_change_322 : decode cX7_change 322 = .ok (.iastore, 1) := dc_of dtX7_change_300_5_ok (i := 11) rfl
theorem dX7_change_323 : decode cX7_change 323 = .ok (.aload_n 0, 1) := dc_of dtX7_change_300_5_ok (i := 12) rfl
theorem dX7_change_324 : decode cX7_change 324 = .ok (.getfield 266, 3) := dc_of dtX7_change_300_5_ok (i := 13) rfl
theorem dX7_change_327 : decode cX7_change 327 = .ok (.ireturn, 1) := dc_of dtX7_change_300_5_ok (i := 14) rfl
theorem dX7_change_328 : decode cX7_change 328 = .ok (.aload_n 0, 1) := dc_of dtX7_change_300_5_ok (i := 15) rfl
theorem dX7_change_329 : decode cX7_change 329 = .ok (.getfield 36, 3) := dc_of dtX7_change_300_5_ok (i := 16) rfl
theorem dX7_change_332 : decode cX7_change 332 = .ok (.iload 8, 2) := dc_of dtX7_change_300_5_ok (i := 17) rfl
theorem dX7_change_334 : decode cX7_change 334 = .ok (.dup2, 1) := dc_of dtX7_change_300_5_ok (i := 18) rfl
theorem dX7_change_335 : decode cX7_change 335 = .ok (.iaload, 1) := dc_of dtX7_change_300_5_ok (i := 19) rfl
theorem dX7_change_336 : decode cX7_change 336 = .ok (.iload 6, 2) := dc_of dtX7_change_300_5_ok (i := 20) rfl
theorem dX7_change_338 : decode cX7_change 338 = .ok (.iadd, 1) := dc_of dtX7_change_300_5_ok (i := 21) rfl
theorem dX7_change_339 : decode cX7_change 339 = .ok (.iastore, 1) := dc_of dtX7_change_300_5_ok (i := 22) rfl
theorem dX7_change_340 : decode cX7_change 340 = .ok (.aload_n 0, 1) := dc_of dtX7_change_300_5_ok (i := 23) rfl
theorem dX7_change_341 : decode cX7_change 341 = .ok (.getfield 36, 3) := dc_of dtX7_change_300_5_ok (i := 24) rfl
theorem dX7_change_344 : decode cX7_change 344 = .ok (.iload 8, 2) := dc_of dtX7_change_300_5_ok (i := 25) rfl
theorem dX7_change_346 : decode cX7_change 346 = .ok (.iaload, 1) := dc_of dtX7_change_300_5_ok (i := 26) rfl
theorem dX7_change_347 : decode cX7_change 347 = .ok (.ifCond .eq 8, 3) := dc_of dtX7_change_300_5_ok (i := 27) rfl
theorem dX7_change_350 : decode cX7_change 350 = .ok (.aload_n 0, 1) := dc_of dtX7_change_300_5_ok (i := 28) rfl
theorem dX7_change_351 : decode cX7_change 351 = .ok (.getfield 266, 3) := dc_of dtX7_change_300_5_ok (i := 29) rfl
theorem dX7_change_354 : decode cX7_change 354 = .ok (.ireturn, 1) := dc_of dtX7_change_300_5_ok (i := 30) rfl
theorem dX7_change_355 : decode cX7_change 355 = .ok (.aload_n 0, 1) := dc_of dtX7_change_300_5_ok (i := 31) rfl
def dtX7_change_356_6 : List (Nat × Instr × Nat) := [(356, .dup, 1), (357, .getfield 266, 3), (360, .iconst 1, 1), (361, .isub, 1), (362, .putfield 266, 3), (365, .iload 8, 2), (367, .istore 10, 2), (369, .iload 10, 2), (371, .aload_n 0, 1), (372, .getfield 266, 3), (375, .if_icmp .ge 19, 3), (378, .aload_n 0, 1), (379, .iload 10, 2), (381, .iconst 1, 1), (382, .iadd, 1), (383, .iload 10, 2), (385, .invokevirtual 355, 3), (388, .iinc 10 1, 3), (391, .goto (-22), 3), (394, .aload_n 0, 1), (395, .getfield 266, 3), (398, .ireturn, 1)]
theorem dtX7_change_356_6_ok : dcAll cX7_change dtX7_change_356_6 = true := by decide +kernel
theorem dX7_change_356 : decode cX7_change 356 = .ok (.dup, 1) := dc_of dtX7_change_356_6_ok (i := 0) rfl
theorem dX7_change_357 : decode cX7_change 357 = .ok (.getfield 266, 3) := dc_of dtX7_change_356_6_ok (i := 1) rfl
theorem dX7_change_360 : decode cX7_change 360 = .ok (.iconst 1, 1) := dc_of dtX7_change_356_6_ok (i := 2) rfl
theorem dX7_change_361 : decode cX7_change 361 = .ok (.isub, 1) := dc_of dtX7_change_356_6_ok (i := 3) rfl
theorem dX7_change_362 : decode cX7_change 362 = .ok (.putfield 266, 3) := dc_of dtX7_change_356_6_ok (i := 4) rfl
theorem dX7_change_365 : decode cX7_change 365 = .ok (.iload 8, 2) := dc_of dtX7_change_356_6_ok (i := 5) rfl
theorem dX7_change_367 : decode cX7_change 367 = .ok (.istore 10, 2) := dc_of dtX7_change_356_6_ok (i := 6) rfl
theorem dX7_change_369 : decode cX7_change 369 = .ok (.iload 10, 2) := dc_of dtX7_change_356_6_ok (i := 7) rfl
theorem dX7_change_371 : decode cX7_change 371 = .ok (.aload_n 0, 1) := dc_of dtX7_change_356_6_ok (i := 8) rfl
theorem dX7_change_372 : decode cX7_change 372 = .ok (.getfield 266, 3) := dc_of dtX7_change_356_6_ok (i := 9) rfl
theorem dX7_change_375 : decode cX7_change 375 = .ok (.if_icmp .ge 19, 3) := dc_of dtX7_change_356_6_ok (i := 10) rfl
theorem dX7_change_378 : decode cX7_change 378 = .ok (.aload_n 0, 1) := dc_of dtX7_change_356_6_ok (i := 11) rfl
theorem dX7_change_379 : decode cX7_change 379 = .ok (.iload 10, 2) := dc_of dtX7_change_356_6_ok (i := 12) rfl
theorem dX7_change_381 : decode cX7_change 381 = .ok (.iconst 1, 1) := dc_of dtX7_change_356_6_ok (i := 13) rfl
theorem dX7_change_382 : decode cX7_change 382 = .ok (.iadd, 1) := dc_of dtX7_change_356_6_ok (i := 14) rfl
theorem dX7_change_383 : decode cX7_change 383 = .ok (.iload 10, 2) := dc_of dtX7_change_356_6_ok (i := 15) rfl
theorem dX7_change_385 : decode cX7_change 385 = .ok (.invokevirtual 355, 3) := dc_of dtX7_change_356_6_ok (i := 16) rfl
theorem dX7_change_388 : decode cX7_change 388 = .ok (.iinc 10 1, 3) := dc_of dtX7_change_356_6_ok (i := 17) rfl
theorem dX7_change_391 : decode cX7_change 391 = .ok (.goto (-22), 3) := dc_of dtX7_change_356_6_ok (i := 18) rfl
theorem dX7_change_394 : decode cX7_change 394 = .ok (.aload_n 0, 1) := dc_of dtX7_change_356_6_ok (i := 19) rfl
theorem dX7_change_395 : decode cX7_change 395 = .ok (.getfield 266, 3) := dc_of dtX7_change_356_6_ok (i := 20) rfl
theorem dX7_change_398 : decode cX7_change 398 = .ok (.ireturn, 1) := dc_of dtX7_change_356_6_ok (i := 21) rfl
def dtX7_moves_0_0 : List (Nat × Instr × Nat) := [(0, .aload_n 0, 1), (1, .getfield 30, 3), (4, .iload_n 2, 1), (5, .aload_n 0, 1), (6, .getfield 30, 3), (9, .iload_n 1, 1), (10, .iaload, 1), (11, .iastore, 1), (12, .aload_n 0, 1), (13, .getfield 36, 3), (16, .iload_n 2, 1), (17, .aload_n 0, 1), (18, .getfield 36, 3), (21, .iload_n 1, 1), (22, .iaload, 1), (23, .iastore, 1), (24, .iconst 0, 1), (25, .istore_n 3, 1), (26, .iload_n 3, 1), (27, .iconst 4, 1), (28, .if_icmp .ge 29, 3), (31, .aload_n 0, 1), (32, .getfield 33, 3), (35, .iconst 4, 1), (36, .iload_n 2, 1), (37, .imul, 1), (38, .iload_n 3, 1), (39, .iadd, 1), (40, .aload_n 0, 1), (41, .getfield 33, 3), (44, .iconst 4, 1), (45, .iload_n 1, 1)]
theorem dtX7_moves_0_0_ok : dcAll cX7_moves dtX7_moves_0_0 = true := by decide +kernel
theorem dX7_moves_0 : decode cX7_moves 0 = .ok (.aload_n 0, 1) := dc_of dtX7_moves_0_0_ok (i := 0) rfl
theorem dX7_moves_1 : decode cX7_moves 1 = .ok (.getfield 30, 3) := dc_of dtX7_moves_0_0_ok (i := 1) rfl
theorem dX7_moves_4 : decode cX7_moves 4 = .ok (.iload_n 2, 1) := dc_of dtX7_moves_0_0_ok (i := 2) rfl
theorem dX7_moves_5 : decode cX7_moves 5 = .ok (.aload_n 0, 1) := dc_of dtX7_moves_0_0_ok (i := 3) rfl
theorem dX7_moves_6 : decode cX7_moves 6 = .ok (.getfield 30, 3) := dc_of dtX7_moves_0_0_ok (i := 4) rfl
theorem dX7_moves_9 : decode cX7_moves 9 = .ok (.iload_n 1, 1) := dc_of dtX7_moves_0_0_ok (i := 5) rfl
theorem dX7_moves_10 : decode cX7_moves 10 = .ok (.iaload, 1) := dc_of dtX7_moves_0_0_ok (i := 6) rfl
theorem dX7_moves_11 : decode cX7_moves 11 = .ok (.iastore, 1) := dc_of dtX7_moves_0_0_ok (i := 7) rfl
theorem dX7_moves_12 : decode cX7_moves 12 = .ok (.aload_n 0, 1) := dc_of dtX7_moves_0_0_ok (i := 8) rfl
theorem dX7_moves_13 : decode cX7_moves 13 = .ok (.getfield 36, 3) := dc_of dtX7_moves_0_0_ok (i := 9) rfl
theorem dX7_moves_16 : decode cX7_moves 16 = .ok (.iload_n 2, 1) := dc_of dtX7_moves_0_0_ok (i := 10) rfl
theorem dX7_moves_17 : decode cX7_moves 17 = .ok (.aload_n 0, 1) := dc_of dtX7_moves_0_0_ok (i := 11) rfl
theorem dX7_moves_18 : decode cX7_moves 18 = .ok (.getfield 36, 3) := dc_of dtX7_moves_0_0_ok (i := 12) rfl
theorem dX7_moves_21 : decode cX7_moves 21 = .ok (.iload_n 1, 1) := dc_of dtX7_moves_0_0_ok (i := 13) rfl
theorem dX7_moves_22 : decode cX7_moves 22 = .ok (.iaload, 1) := dc_of dtX7_moves_0_0_ok (i := 14) rfl
theorem dX7_moves_23 : decode cX7_moves 23 = .ok (.iastore, 1) := dc_of dtX7_moves_0_0_ok (i := 15) rfl
theorem dX7_moves_24 : decode cX7_moves 24 = .ok (.iconst 0, 1) := dc_of dtX7_moves_0_0_ok (i := 16) rfl
theorem dX7_moves_25 : decode cX7_moves 25 = .ok (.istore_n 3, 1) := dc_of dtX7_moves_0_0_ok (i := 17) rfl
theorem dX7_moves_26 : decode cX7_moves 26 = .ok (.iload_n 3, 1) := dc_of dtX7_moves_0_0_ok (i := 18) rfl
theorem dX7_moves_27 : decode cX7_moves 27 = .ok (.iconst 4, 1) := dc_of dtX7_moves_0_0_ok (i := 19) rfl
theorem dX7_moves_28 : decode cX7_moves 28 = .ok (.if_icmp .ge 29, 3) := dc_of dtX7_moves_0_0_ok (i := 20) rfl
theorem dX7_moves_31 : decode cX7_moves 31 = .ok (.aload_n 0, 1) := dc_of dtX7_moves_0_0_ok (i := 21) rfl
theorem dX7_moves_32 : decode cX7_moves 32 = .ok (.getfield 33, 3) := dc_of dtX7_moves_0_0_ok (i := 22) rfl
theorem dX7_moves_35 : decode cX7_moves 35 = .ok (.iconst 4, 1) := dc_of dtX7_moves_0_0_ok (i := 23) rfl
theorem dX7_moves_36 : decode cX7_moves 36 = .ok (.iload_n 2, 1) := dc_of dtX7_moves_0_0_ok (i := 24) rfl
theorem dX7_moves_37 : decode cX7_moves 37 = .ok (.imul, 1) := dc_of dtX7_moves_0_0_ok (i := 25) rfl
theorem dX7_moves_38 : decode cX7_moves 38 = .ok (.iload_n 3, 1) := dc_of dtX7_moves_0_0_ok (i := 26) rfl
theorem dX7_moves_39 : decode cX7_moves 39 = .ok (.iadd, 1) := dc_of dtX7_moves_0_0_ok (i := 27) rfl
theorem dX7_moves_40 : decode cX7_moves 40 = .ok (.aload_n 0, 1) := dc_of dtX7_moves_0_0_ok (i := 28) rfl
theorem dX7_moves_41 : decode cX7_moves 41 = .ok (.getfield 33, 3) := dc_of dtX7_moves_0_0_ok (i := 29) rfl
theorem dX7_moves_44 : decode cX7_moves 44 = .ok (.iconst 4, 1) := dc_of dtX7_moves_0_0_ok (i := 30) rfl
theorem dX7_moves_45 : decode cX7_moves 45 = .ok (.iload_n 1, 1) := dc_of dtX7_moves_0_0_ok (i := 31) rfl
def dtX7_moves_46_1 : List (Nat × Instr × Nat) := [(46, .imul, 1), (47, .iload_n 3, 1), (48, .iadd, 1), (49, .iaload, 1), (50, .iastore, 1), (51, .iinc 3 1, 3), (54, .goto (-28), 3), (57, .return_, 1)]
theorem dtX7_moves_46_1_ok : dcAll cX7_moves dtX7_moves_46_1 = true := by decide +kernel
theorem dX7_moves_46 : decode cX7_moves 46 = .ok (.imul, 1) := dc_of dtX7_moves_46_1_ok (i := 0) rfl
theorem dX7_moves_47 : decode cX7_moves 47 = .ok (.iload_n 3, 1) := dc_of dtX7_moves_46_1_ok (i := 1) rfl
theorem dX7_moves_48 : decode cX7_moves 48 = .ok (.iadd, 1) := dc_of dtX7_moves_46_1_ok (i := 2) rfl
theorem dX7_moves_49 : decode cX7_moves 49 = .ok (.iaload, 1) := dc_of dtX7_moves_46_1_ok (i := 3) rfl
theorem dX7_moves_50 : decode cX7_moves 50 = .ok (.iastore, 1) := dc_of dtX7_moves_46_1_ok (i := 4) rfl
theorem dX7_moves_51 : decode cX7_moves 51 = .ok (.iinc 3 1, 3) := dc_of dtX7_moves_46_1_ok (i := 5) rfl
theorem dX7_moves_54 : decode cX7_moves 54 = .ok (.goto (-28), 3) := dc_of dtX7_moves_46_1_ok (i := 6) rfl
theorem dX7_moves_57 : decode cX7_moves 57 = .ok (.return_, 1) := dc_of dtX7_moves_46_1_ok (i := 7) rfl
def dtX7_pending_0_0 : List (Nat × Instr × Nat) := [(0, .aload_n 0, 1), (1, .iload_n 2, 1), (2, .iconst 0, 1), (3, .iconst 5, 1), (4, .invokestatic 67, 3), (7, .ifCond .eq 7, 3), (10, .iconst 0, 1), (11, .goto 4, 3), (14, .iconst 1, 1), (15, .putfield 60, 3), (18, .aload_n 0, 1), (19, .getfield 60, 3), (22, .ifCond .ne 13, 3), (25, .iload_n 1, 1), (26, .iconst (-1), 1), (27, .if_icmp .ne 8, 3), (30, .aload_n 0, 1), (31, .getfield 266, 3), (34, .ireturn, 1), (35, .aload_n 0, 1), (36, .getfield 60, 3), (39, .ifCond .ne 45, 3), (42, .iload_n 1, 1), (43, .iconst 0, 1), (44, .aload_n 0, 1), (45, .getfield 266, 3), (48, .iconst 1, 1), (49, .isub, 1), (50, .invokestatic 67, 3), (53, .ifCond .eq 26, 3), (56, .iload_n 2, 1), (57, .iconst 1, 1)]
theorem dtX7_pending_0_0_ok : dcAll cX7_pending dtX7_pending_0_0 = true := by decide +kernel
theorem dX7_pending_0 : decode cX7_pending 0 = .ok (.aload_n 0, 1) := dc_of dtX7_pending_0_0_ok (i := 0) rfl
theorem dX7_pending_1 : decode cX7_pending 1 = .ok (.iload_n 2, 1) := dc_of dtX7_pending_0_0_ok (i := 1) rfl
theorem dX7_pending_2 : decode cX7_pending 2 = .ok (.iconst 0, 1) := dc_of dtX7_pending_0_0_ok (i := 2) rfl
theorem dX7_pending_3 : decode cX7_pending 3 = .ok (.iconst 5, 1) := dc_of dtX7_pending_0_0_ok (i := 3) rfl
theorem dX7_pending_4 : decode cX7_pending 4 = .ok (.invokestatic 67, 3) := dc_of dtX7_pending_0_0_ok (i := 4) rfl
theorem dX7_pending_7 : decode cX7_pending 7 = .ok (.ifCond .eq 7, 3) := dc_of dtX7_pending_0_0_ok (i := 5) rfl
theorem dX7_pending_10 : decode cX7_pending 10 = .ok (.iconst 0, 1) := dc_of dtX7_pending_0_0_ok (i := 6) rfl
theorem dX7_pending_11 : decode cX7_pending 11 = .ok (.goto 4, 3) := dc_of dtX7_pending_0_0_ok (i := 7) rfl
theorem dX7_pending_14 : decode cX7_pending 14 = .ok (.iconst 1, 1) := dc_of dtX7_pending_0_0_ok (i := 8) rfl
theorem dX7_pending_15 : decode cX7_pending 15 = .ok (.putfield 60, 3) := dc_of dtX7_pending_0_0_ok (i := 9) rfl
theorem dX7_pending_18 : decode cX7_pending 18 = .ok (.aload_n 0, 1) := dc_of dtX7_pending_0_0_ok (i := 10) rfl
theorem dX7_pending_19 : decode cX7_pending 19 = .ok (.getfield 60, 3) := dc_of dtX7_pending_0_0_ok (i := 11) rfl
theorem dX7_pending_22 : decode cX7_pending 22 = .ok (.ifCond .ne 13, 3) := dc_of dtX7_pending_0_0_ok (i := 12) rfl
theorem dX7_pending_25 : decode cX7_pending 25 = .ok (.iload_n 1, 1) := dc_of dtX7_pending_0_0_ok (i := 13) rfl
theorem dX7_pending_26 : decode cX7_pending 26 = .ok (.iconst (-1), 1) := dc_of dtX7_pending_0_0_ok (i := 14) rfl
theorem dX7_pending_27 : decode cX7_pending 27 = .ok (.if_icmp .ne 8, 3) := dc_of dtX7_pending_0_0_ok (i := 15) rfl
theorem dX7_pending_30 : decode cX7_pending 30 = .ok (.aload_n 0, 1) := dc_of dtX7_pending_0_0_ok (i := 16) rfl
theorem dX7_pending_31 : decode cX7_pending 31 = .ok (.getfield 266, 3) := dc_of dtX7_pending_0_0_ok (i := 17) rfl
theorem dX7_pending_34 : decode cX7_pending 34 = .ok (.ireturn, 1) := dc_of dtX7_pending_0_0_ok (i := 18) rfl
theorem dX7_pending_35 : decode cX7_pending 35 = .ok (.aload_n 0, 1) := dc_of dtX7_pending_0_0_ok (i := 19) rfl
theorem dX7_pending_36 : decode cX7_pending 36 = .ok (.getfield 60, 3) := dc_of dtX7_pending_0_0_ok (i := 20) rfl
theorem dX7_pending_39 : decode cX7_pending 39 = .ok (.ifCond .ne 45, 3) := dc_of dtX7_pending_0_0_ok (i := 21) rfl
theorem dX7_pending_42 : decode cX7_pending 42 = .ok (.iload_n 1, 1) := dc_of dtX7_pending_0_0_ok (i := 22) rfl
theorem dX7_pending_43 : decode cX7_pending 43 = .ok (.iconst 0, 1) := dc_of dtX7_pending_0_0_ok (i := 23) rfl
theorem dX7_pending_44 : decode cX7_pending 44 = .ok (.aload_n 0, 1) := dc_of dtX7_pending_0_0_ok (i := 24) rfl
theorem dX7_pending_45 : decode cX7_pending 45 = .ok (.getfield 266, 3) := dc_of dtX7_pending_0_0_ok (i := 25) rfl
theorem dX7_pending_48 : decode cX7_pending 48 = .ok (.iconst 1, 1) := dc_of dtX7_pending_0_0_ok (i := 26) rfl
theorem dX7_pending_49 : decode cX7_pending 49 = .ok (.isub, 1) := dc_of dtX7_pending_0_0_ok (i := 27) rfl
theorem dX7_pending_50 : decode cX7_pending 50 = .ok (.invokestatic 67, 3) := dc_of dtX7_pending_0_0_ok (i := 28) rfl
theorem dX7_pending_53 : decode cX7_pending 53 = .ok (.ifCond .eq 26, 3) := dc_of dtX7_pending_0_0_ok (i := 29) rfl
theorem dX7_pending_56 : decode cX7_pending 56 = .ok (.iload_n 2, 1) := dc_of dtX7_pending_0_0_ok (i := 30) rfl
theorem dX7_pending_57 : decode cX7_pending 57 = .ok (.iconst 1, 1) := dc_of dtX7_pending_0_0_ok (i := 31) rfl
def dtX7_pending_58_1 : List (Nat × Instr × Nat) := [(58, .iconst 4, 1), (59, .invokestatic 67, 3), (62, .ifCond .eq 22, 3), (65, .iload_n 2, 1), (66, .aload_n 0, 1), (67, .aload_n 0, 1), (68, .getfield 30, 3), (71, .iload_n 1, 1), (72, .iaload, 1), (73, .invokevirtual 301, 3), (76, .if_icmp .le 8, 3), (79, .aload_n 0, 1), (80, .iconst 1, 1), (81, .putfield 60, 3), (84, .aload_n 0, 1), (85, .getfield 60, 3), (88, .iconst 1, 1), (89, .if_icmp .ne 5, 3), (92, .iconst 0, 1), (93, .ireturn, 1), (94, .iload_n 2, 1), (95, .ifCond .ne 12, 3), (98, .aload_n 0, 1), (99, .getfield 30, 3), (102, .iload_n 1, 1), (103, .iaload, 1), (104, .goto 29, 3), (107, .iload_n 2, 1), (108, .iconst 5, 1), (109, .if_icmp .ne 12, 3), (112, .aload_n 0, 1), (113, .getfield 36, 3)]
theorem dtX7_pending_58_1_ok : dcAll cX7_pending dtX7_pending_58_1 = true := by decide +kernel
theorem dX7_pending_58 : decode cX7_pending 58 = .ok (.iconst 4, 1) := dc_of dtX7_pending_58_1_ok (i := 0) rfl
theorem dX7_pending_59 : decode cX7_pending 59 = .ok (.invokestatic 67, 3) := dc_of dtX7_pending_58_1_ok (i := 1) rfl
theorem dX7_pending_62 : decode cX7_pending 62 = .ok (.ifCond .eq 22, 3) := dc_of dtX7_pending_58_1_ok (i := 2) rfl
theorem dX7_pending_65 : decode cX7_pending 65 = .ok (.iload_n 2, 1) := dc_of dtX7_pending_58_1_ok (i := 3) rfl
theorem dX7_pending_66 : decode cX7_pending 66 = .ok (.aload_n 0, 1) := dc_of dtX7_pending_58_1_ok (i := 4) rfl
theorem dX7_pending_67 : decode cX7_pending 67 = .ok (.aload_n 0, 1) := dc_of dtX7_pending_58_1_ok (i := 5) rfl
theorem dX7_pending_68 : decode cX7_pending 68 = .ok (.getfield 30, 3) := dc_of dtX7_pending_58_1_ok (i := 6) rfl
theorem dX7_pending_71 : decode cX7_pending 71 = .ok (.iload_n 1, 1) := dc_of dtX7_pending_58_1_ok (i := 7) rfl
theorem dX7_pending_72 : decode cX7_pending 72 = .ok (.iaload, 1) := dc_of dtX7_pending_58_1_ok (i := 8) rfl
theorem dX7_pending_73 : decode cX7_pending 73 = .ok (.invokevirtual 301, 3) := dc_of dtX7_pending_58_1_ok (i := 9) rfl
theorem dX7_pending_76 : decode cX7_pending 76 = .ok (.if_icmp .le 8, 3) := dc_of dtX7_pending_58_1_ok (i := 10) rfl
theorem dX7_pending_79 : decode cX7_pending 79 = .ok (.aload_n 0, 1) := dc_of dtX7_pending_58_1_ok (i := 11) rfl
theorem dX7_pending_80 : decode cX7_pending 80 = .ok (.iconst 1, 1) := dc_of dtX7_pending_58_1_ok (i := 12) rfl
theorem dX7_pending_81 : decode cX7_pending 81 = .ok (.putfield 60, 3) := dc_of dtX7_pending_58_1_ok (i := 13) rfl
theorem dX7_pending_84 : decode cX7_pending 84 = .ok (.aload_n 0, 1) := dc_of dtX7_pending_58_1_ok (i := 14) rfl
theorem dX7_pending_85 : decode cX7_pending 85 = .ok (.getfield 60, 3) := dc_of dtX7_pending_58_1_ok (i := 15) rfl
theorem dX7_pending_88 : decode cX7_pending 88 = .ok (.iconst 1, 1) := dc_of dtX7_pending_58_1_ok (i := 16) rfl
theorem dX7_pending_89 : decode cX7_pending 89 = .ok (.if_icmp .ne 5, 3) := dc_of dtX7_pending_58_1_ok (i := 17) rfl
theorem dX7_pending_92 : decode cX7_pending 92 = .ok (.iconst 0, 1) := dc_of dtX7_pending_58_1_ok (i := 18) rfl
theorem dX7_pending_93 : decode cX7_pending 93 = .ok (.ireturn, 1) := dc_of dtX7_pending_58_1_ok (i := 19) rfl
theorem dX7_pending_94 : decode cX7_pending 94 = .ok (.iload_n 2, 1) := dc_of dtX7_pending_58_1_ok (i := 20) rfl
theorem dX7_pending_95 : decode cX7_pending 95 = .ok (.ifCond .ne 12, 3) := dc_of dtX7_pending_58_1_ok (i := 21) rfl
theorem dX7_pending_98 : decode cX7_pending 98 = .ok (.aload_n 0, 1) := dc_of dtX7_pending_58_1_ok (i := 22) rfl
theorem dX7_pending_99 : decode cX7_pending 99 = .ok (.getfield 30, 3) := dc_of dtX7_pending_58_1_ok (i := 23) rfl
theorem dX7_pending_102 : decode cX7_pending 102 = .ok (.iload_n 1, 1) := dc_of dtX7_pending_58_1_ok (i := 24) rfl
theorem dX7_pending_103 : decode cX7_pending 103 = .ok (.iaload, 1) := dc_of dtX7_pending_58_1_ok (i := 25) rfl
theorem dX7_pending_104 : decode cX7_pending 104 = .ok (.goto 29, 3) := dc_of dtX7_pending_58_1_ok (i := 26) rfl
theorem dX7_pending_107 : decode cX7_pending 107 = .ok (.iload_n 2, 1) := dc_of dtX7_pending_58_1_ok (i := 27) rfl
theorem dX7_pending_108 : decode cX7_pending 108 = .ok (.iconst 5, 1) := dc_of dtX7_pending_58_1_ok (i := 28) rfl
theorem dX7_pending_109 : decode cX7_pending 109 = .ok (.if_icmp .ne 12, 3) := dc_of dtX7_pending_58_1_ok (i := 29) rfl
theorem dX7_pending_112 : decode cX7_pending 112 = .ok (.aload_n 0, 1) := dc_of dtX7_pending_58_1_ok (i := 30) rfl
theorem dX7_pending_113 : decode cX7_pending 113 = .ok (.getfield 36, 3) := dc_of dtX7_pending_58_1_ok (i := 31) rfl
def dtX7_pending_116_2 : List (Nat × Instr × Nat) := [(116, .iload_n 1, 1), (117, .iaload, 1), (118, .goto 15, 3), (121, .aload_n 0, 1), (122, .getfield 33, 3), (125, .iconst 4, 1), (126, .iload_n 1, 1), (127, .imul, 1), (128, .iload_n 2, 1), (129, .iadd, 1), (130, .iconst 1, 1), (131, .isub, 1), (132, .iaload, 1), (133, .ireturn, 1)]
theorem dtX7_pending_116_2_ok : dcAll cX7_pending dtX7_pending_116_2 = true := by decide +kernel
theorem dX7_pending_116 : decode cX7_pending 116 = .ok (.iload_n 1, 1) := dc_of dtX7_pending_116_2_ok (i := 0) rfl
theorem dX7_pending_117 : decode cX7_pending 117 = .ok (.iaload, 1) := dc_of dtX7_pending_116_2_ok (i := 1) rfl
theorem dX7_pending_118 : decode cX7_pending 118 = .ok (.goto 15, 3) := dc_of dtX7_pending_116_2_ok (i := 2) rfl
theorem dX7_pending_121 : decode cX7_pending 121 = .ok (.aload_n 0, 1) := dc_of dtX7_pending_116_2_ok (i := 3) rfl
theorem dX7_pending_122 : decode cX7_pending 122 = .ok (.getfield 33, 3) := dc_of dtX7_pending_116_2_ok (i := 4) rfl
theorem dX7_pending_125 : decode cX7_pending 125 = .ok (.iconst 4, 1) := dc_of dtX7_pending_116_2_ok (i := 5) rfl
theorem dX7_pending_126 : decode cX7_pending 126 = .ok (.iload_n 1, 1) := dc_of dtX7_pending_116_2_ok (i := 6) rfl
theorem dX7_pending_127 : decode cX7_pending 127 = .ok (.imul, 1) := dc_of dtX7_pending_116_2_ok (i := 7) rfl
theorem dX7_pending_128 : decode cX7_pending 128 = .ok (.iload_n 2, 1) := dc_of dtX7_pending_116_2_ok (i := 8) rfl
theorem dX7_pending_129 : decode cX7_pending 129 = .ok (.iadd, 1) := dc_of dtX7_pending_116_2_ok (i := 9) rfl
theorem dX7_pending_130 : decode cX7_pending 130 = .ok (.iconst 1, 1) := dc_of dtX7_pending_116_2_ok (i := 10) rfl
theorem dX7_pending_131 : decode cX7_pending 131 = .ok (.isub, 1) := dc_of dtX7_pending_116_2_ok (i := 11) rfl
theorem dX7_pending_132 : decode cX7_pending 132 = .ok (.iaload, 1) := dc_of dtX7_pending_116_2_ok (i := 12) rfl
theorem dX7_pending_133 : decode cX7_pending 133 = .ok (.ireturn, 1) := dc_of dtX7_pending_116_2_ok (i := 13) rfl
def dtX7_cancel_0_0 : List (Nat × Instr × Nat) := [(0, .aload_n 0, 1), (1, .iconst 0, 1), (2, .putfield 60, 3), (5, .aload_n 0, 1), (6, .getfield 266, 3), (9, .istore_n 1, 1), (10, .aload_n 0, 1), (11, .iconst 0, 1), (12, .putfield 266, 3), (15, .iload_n 1, 1), (16, .ireturn, 1)]
theorem dtX7_cancel_0_0_ok : dcAll cX7_cancel dtX7_cancel_0_0 = true := by decide +kernel
theorem dX7_cancel_0 : decode cX7_cancel 0 = .ok (.aload_n 0, 1) := dc_of dtX7_cancel_0_0_ok (i := 0) rfl
theorem dX7_cancel_1 : decode cX7_cancel 1 = .ok (.iconst 0, 1) := dc_of dtX7_cancel_0_0_ok (i := 1) rfl
theorem dX7_cancel_2 : decode cX7_cancel 2 = .ok (.putfield 60, 3) := dc_of dtX7_cancel_0_0_ok (i := 2) rfl
theorem dX7_cancel_5 : decode cX7_cancel 5 = .ok (.aload_n 0, 1) := dc_of dtX7_cancel_0_0_ok (i := 3) rfl
theorem dX7_cancel_6 : decode cX7_cancel 6 = .ok (.getfield 266, 3) := dc_of dtX7_cancel_0_0_ok (i := 4) rfl
theorem dX7_cancel_9 : decode cX7_cancel 9 = .ok (.istore_n 1, 1) := dc_of dtX7_cancel_0_0_ok (i := 5) rfl
theorem dX7_cancel_10 : decode cX7_cancel 10 = .ok (.aload_n 0, 1) := dc_of dtX7_cancel_0_0_ok (i := 6) rfl
theorem dX7_cancel_11 : decode cX7_cancel 11 = .ok (.iconst 0, 1) := dc_of dtX7_cancel_0_0_ok (i := 7) rfl
theorem dX7_cancel_12 : decode cX7_cancel 12 = .ok (.putfield 266, 3) := dc_of dtX7_cancel_0_0_ok (i := 8) rfl
theorem dX7_cancel_15 : decode cX7_cancel 15 = .ok (.iload_n 1, 1) := dc_of dtX7_cancel_0_0_ok (i := 9) rfl
theorem dX7_cancel_16 : decode cX7_cancel 16 = .ok (.ireturn, 1) := dc_of dtX7_cancel_0_0_ok (i := 10) rfl
def dtX7_commit_0_0 : List (Nat × Instr × Nat) := [(0, .aload_n 0, 1), (1, .iconst 0, 1), (2, .putfield 60, 3), (5, .aload_n 0, 1), (6, .invokevirtual 358, 3), (9, .istore_n 1, 1), (10, .aload_n 0, 1), (11, .iconst 0, 1), (12, .putfield 266, 3), (15, .iload_n 1, 1), (16, .ifCond .ge 15, 3), (19, .aload_n 0, 1), (20, .dup, 1), (21, .getfield 263, 3), (24, .iconst 1, 1), (25, .iadd, 1), (26, .putfield 263, 3), (29, .iload_n 1, 1), (30, .ireturn, 1), (31, .aload_n 0, 1), (32, .getfield 257, 3), (35, .bipush 8, 2), (37, .if_icmp .ne 39, 3), (40, .iconst 1, 1), (41, .istore_n 2, 1), (42, .iload_n 2, 1), (43, .bipush 8, 2), (45, .if_icmp .ge 21, 3), (48, .aload_n 0, 1), (49, .iconst 1, 1), (50, .iload_n 2, 1), (51, .iadd, 1)]
theorem dtX7_commit_0_0_ok : dcAll cX7_commit dtX7_commit_0_0 = true := by decide +kernel
theorem dX7_commit_0 : decode cX7_commit 0 = .ok (.aload_n 0, 1) := dc_of dtX7_commit_0_0_ok (i := 0) rfl
theorem dX7_commit_1 : decode cX7_commit 1 = .ok (.iconst 0, 1) := dc_of dtX7_commit_0_0_ok (i := 1) rfl
theorem dX7_commit_2 : decode cX7_commit 2 = .ok (.putfield 60, 3) := dc_of dtX7_commit_0_0_ok (i := 2) rfl
theorem dX7_commit_5 : decode cX7_commit 5 = .ok (.aload_n 0, 1) := dc_of dtX7_commit_0_0_ok (i := 3) rfl
theorem dX7_commit_6 : decode cX7_commit 6 = .ok (.invokevirtual 358, 3) := dc_of dtX7_commit_0_0_ok (i := 4) rfl
theorem dX7_commit_9 : decode cX7_commit 9 = .ok (.istore_n 1, 1) := dc_of dtX7_commit_0_0_ok (i := 5) rfl
theorem dX7_commit_10 : decode cX7_commit 10 = .ok (.aload_n 0, 1) := dc_of dtX7_commit_0_0_ok (i := 6) rfl
theorem dX7_commit_11 : decode cX7_commit 11 = .ok (.iconst 0, 1) := dc_of dtX7_commit_0_0_ok (i := 7) rfl
theorem dX7_commit_12 : decode cX7_commit 12 = .ok (.putfield 266, 3) := dc_of dtX7_commit_0_0_ok (i := 8) rfl
theorem dX7_commit_15 : decode cX7_commit 15 = .ok (.iload_n 1, 1) := dc_of dtX7_commit_0_0_ok (i := 9) rfl
theorem dX7_commit_16 : decode cX7_commit 16 = .ok (.ifCond .ge 15, 3) := dc_of dtX7_commit_0_0_ok (i := 10) rfl
theorem dX7_commit_19 : decode cX7_commit 19 = .ok (.aload_n 0, 1) := dc_of dtX7_commit_0_0_ok (i := 11) rfl
theorem dX7_commit_20 : decode cX7_commit 20 = .ok (.dup, 1) := dc_of dtX7_commit_0_0_ok (i := 12) rfl
theorem dX7_commit_21 : decode cX7_commit 21 = .ok (.getfield 263, 3) := dc_of dtX7_commit_0_0_ok (i := 13) rfl
theorem dX7_commit_24 : decode cX7_commit 24 = .ok (.iconst 1, 1) := dc_of dtX7_commit_0_0_ok (i := 14) rfl
theorem dX7_commit_25 : decode cX7_commit 25 = .ok (.iadd, 1) := dc_of dtX7_commit_0_0_ok (i := 15) rfl
theorem dX7_commit_26 : decode cX7_commit 26 = .ok (.putfield 263, 3) := dc_of dtX7_commit_0_0_ok (i := 16) rfl
theorem dX7_commit_29 : decode cX7_commit 29 = .ok (.iload_n 1, 1) := dc_of dtX7_commit_0_0_ok (i := 17) rfl
theorem dX7_commit_30 : decode cX7_commit 30 = .ok (.ireturn, 1) := dc_of dtX7_commit_0_0_ok (i := 18) rfl
theorem dX7_commit_31 : decode cX7_commit 31 = .ok (.aload_n 0, 1) := dc_of dtX7_commit_0_0_ok (i := 19) rfl
theorem dX7_commit_32 : decode cX7_commit 32 = .ok (.getfield 257, 3) := dc_of dtX7_commit_0_0_ok (i := 20) rfl
theorem dX7_commit_35 : decode cX7_commit 35 = .ok (.bipush 8, 2) := dc_of dtX7_commit_0_0_ok (i := 21) rfl
theorem dX7_commit_37 : decode cX7_commit 37 = .ok (.if_icmp .ne 39, 3) := dc_of dtX7_commit_0_0_ok (i := 22) rfl
theorem dX7_commit_40 : decode cX7_commit 40 = .ok (.iconst 1, 1) := dc_of dtX7_commit_0_0_ok (i := 23) rfl
theorem dX7_commit_41 : decode cX7_commit 41 = .ok (.istore_n 2, 1) := dc_of dtX7_commit_0_0_ok (i := 24) rfl
theorem dX7_commit_42 : decode cX7_commit 42 = .ok (.iload_n 2, 1) := dc_of dtX7_commit_0_0_ok (i := 25) rfl
theorem dX7_commit_43 : decode cX7_commit 43 = .ok (.bipush 8, 2) := dc_of dtX7_commit_0_0_ok (i := 26) rfl
theorem dX7_commit_45 : decode cX7_commit 45 = .ok (.if_icmp .ge 21, 3) := dc_of dtX7_commit_0_0_ok (i := 27) rfl
theorem dX7_commit_48 : decode cX7_commit 48 = .ok (.aload_n 0, 1) := dc_of dtX7_commit_0_0_ok (i := 28) rfl
theorem dX7_commit_49 : decode cX7_commit 49 = .ok (.iconst 1, 1) := dc_of dtX7_commit_0_0_ok (i := 29) rfl
theorem dX7_commit_50 : decode cX7_commit 50 = .ok (.iload_n 2, 1) := dc_of dtX7_commit_0_0_ok (i := 30) rfl
theorem dX7_commit_51 : decode cX7_commit 51 = .ok (.iadd, 1) := dc_of dtX7_commit_0_0_ok (i := 31) rfl
def dtX7_commit_52_1 : List (Nat × Instr × Nat) := [(52, .iconst 1, 1), (53, .iload_n 2, 1), (54, .iadd, 1), (55, .iconst 1, 1), (56, .isub, 1), (57, .invokevirtual 340, 3), (60, .iinc 2 1, 3), (63, .goto (-21), 3), (66, .aload_n 0, 1), (67, .dup, 1), (68, .getfield 257, 3), (71, .iconst 1, 1), (72, .isub, 1), (73, .putfield 257, 3), (76, .aload_n 0, 1), (77, .iconst 0, 1), (78, .iconst 1, 1), (79, .aload_n 0, 1), (80, .getfield 257, 3), (83, .iadd, 1), (84, .invokevirtual 340, 3), (87, .aload_n 0, 1), (88, .dup, 1), (89, .getfield 257, 3), (92, .iconst 1, 1), (93, .iadd, 1), (94, .putfield 257, 3), (97, .aload_n 0, 1), (98, .iconst 0, 1), (99, .bipush 9, 2), (101, .invokevirtual 340, 3), (104, .aload_n 0, 1)]
theorem dtX7_commit_52_1_ok : dcAll cX7_commit dtX7_commit_52_1 = true := by decide +kernel
theorem dX7_commit_52 : decode cX7_commit 52 = .ok (.iconst 1, 1) := dc_of dtX7_commit_52_1_ok (i := 0) rfl
theorem dX7_commit_53 : decode cX7_commit 53 = .ok (.iload_n 2, 1) := dc_of dtX7_commit_52_1_ok (i := 1) rfl
theorem dX7_commit_54 : decode cX7_commit 54 = .ok (.iadd, 1) := dc_of dtX7_commit_52_1_ok (i := 2) rfl
theorem dX7_commit_55 : decode cX7_commit 55 = .ok (.iconst 1, 1) := dc_of dtX7_commit_52_1_ok (i := 3) rfl
theorem dX7_commit_56 : decode cX7_commit 56 = .ok (.isub, 1) := dc_of dtX7_commit_52_1_ok (i := 4) rfl
theorem dX7_commit_57 : decode cX7_commit 57 = .ok (.invokevirtual 340, 3) := dc_of dtX7_commit_52_1_ok (i := 5) rfl
theorem dX7_commit_60 : decode cX7_commit 60 = .ok (.iinc 2 1, 3) := dc_of dtX7_commit_52_1_ok (i := 6) rfl
theorem dX7_commit_63 : decode cX7_commit 63 = .ok (.goto (-21), 3) := dc_of dtX7_commit_52_1_ok (i := 7) rfl
theorem dX7_commit_66 : decode cX7_commit 66 = .ok (.aload_n 0, 1) := dc_of dtX7_commit_52_1_ok (i := 8) rfl
theorem dX7_commit_67 : decode cX7_commit 67 = .ok (.dup, 1) := dc_of dtX7_commit_52_1_ok (i := 9) rfl
theorem dX7_commit_68 : decode cX7_commit 68 = .ok (.getfield 257, 3) := dc_of dtX7_commit_52_1_ok (i := 10) rfl
theorem dX7_commit_71 : decode cX7_commit 71 = .ok (.iconst 1, 1) := dc_of dtX7_commit_52_1_ok (i := 11) rfl
theorem dX7_commit_72 : decode cX7_commit 72 = .ok (.isub, 1) := dc_of dtX7_commit_52_1_ok (i := 12) rfl
theorem dX7_commit_73 : decode cX7_commit 73 = .ok (.putfield 257, 3) := dc_of dtX7_commit_52_1_ok (i := 13) rfl
theorem dX7_commit_76 : decode cX7_commit 76 = .ok (.aload_n 0, 1) := dc_of dtX7_commit_52_1_ok (i := 14) rfl
theorem dX7_commit_77 : decode cX7_commit 77 = .ok (.iconst 0, 1) := dc_of dtX7_commit_52_1_ok (i := 15) rfl
theorem dX7_commit_78 : decode cX7_commit 78 = .ok (.iconst 1, 1) := dc_of dtX7_commit_52_1_ok (i := 16) rfl
theorem dX7_commit_79 : decode cX7_commit 79 = .ok (.aload_n 0, 1) := dc_of dtX7_commit_52_1_ok (i := 17) rfl
theorem dX7_commit_80 : decode cX7_commit 80 = .ok (.getfield 257, 3) := dc_of dtX7_commit_52_1_ok (i := 18) rfl
theorem dX7_commit_83 : decode cX7_commit 83 = .ok (.iadd, 1) := dc_of dtX7_commit_52_1_ok (i := 19) rfl
theorem dX7_commit_84 : decode cX7_commit 84 = .ok (.invokevirtual 340, 3) := dc_of dtX7_commit_52_1_ok (i := 20) rfl
theorem dX7_commit_87 : decode cX7_commit 87 = .ok (.aload_n 0, 1) := dc_of dtX7_commit_52_1_ok (i := 21) rfl
theorem dX7_commit_88 : decode cX7_commit 88 = .ok (.dup, 1) := dc_of dtX7_commit_52_1_ok (i := 22) rfl
theorem dX7_commit_89 : decode cX7_commit 89 = .ok (.getfield 257, 3) := dc_of dtX7_commit_52_1_ok (i := 23) rfl
theorem dX7_commit_92 : decode cX7_commit 92 = .ok (.iconst 1, 1) := dc_of dtX7_commit_52_1_ok (i := 24) rfl
theorem dX7_commit_93 : decode cX7_commit 93 = .ok (.iadd, 1) := dc_of dtX7_commit_52_1_ok (i := 25) rfl
theorem dX7_commit_94 : decode cX7_commit 94 = .ok (.putfield 257, 3) := dc_of dtX7_commit_52_1_ok (i := 26) rfl
theorem dX7_commit_97 : decode cX7_commit 97 = .ok (.aload_n 0, 1) := dc_of dtX7_commit_52_1_ok (i := 27) rfl
theorem dX7_commit_98 : decode cX7_commit 98 = .ok (.iconst 0, 1) := dc_of dtX7_commit_52_1_ok (i := 28) rfl
theorem dX7_commit_99 : decode cX7_commit 99 = .ok (.bipush 9, 2) := dc_of dtX7_commit_52_1_ok (i := 29) rfl
theorem dX7_commit_101 : decode cX7_commit 101 = .ok (.invokevirtual 340, 3) := dc_of dtX7_commit_52_1_ok (i := 30) rfl
theorem dX7_commit_104 : decode cX7_commit 104 = .ok (.aload_n 0, 1) := dc_of dtX7_commit_52_1_ok (i := 31) rfl
def dtX7_commit_105_2 : List (Nat × Instr × Nat) := [(105, .bipush 10, 2), (107, .iconst 0, 1), (108, .invokevirtual 340, 3), (111, .aload_n 0, 1), (112, .dup, 1), (113, .getfield 260, 3), (116, .iconst 1, 1), (117, .iadd, 1), (118, .putfield 260, 3), (121, .aload_n 0, 1), (122, .invokevirtual 361, 3), (125, .ireturn, 1)]
theorem dtX7_commit_105_2_ok : dcAll cX7_commit dtX7_commit_105_2 = true := by decide +kernel
theorem dX7_commit_105 : decode cX7_commit 105 = .ok (.bipush 10, 2) := dc_of dtX7_commit_105_2_ok (i := 0) rfl
theorem dX7_commit_107 : decode cX7_commit 107 = .ok (.iconst 0, 1) := dc_of dtX7_commit_105_2_ok (i := 1) rfl
theorem dX7_commit_108 : decode cX7_commit 108 = .ok (.invokevirtual 340, 3) := dc_of dtX7_commit_105_2_ok (i := 2) rfl
theorem dX7_commit_111 : decode cX7_commit 111 = .ok (.aload_n 0, 1) := dc_of dtX7_commit_105_2_ok (i := 3) rfl
theorem dX7_commit_112 : decode cX7_commit 112 = .ok (.dup, 1) := dc_of dtX7_commit_105_2_ok (i := 4) rfl
theorem dX7_commit_113 : decode cX7_commit 113 = .ok (.getfield 260, 3) := dc_of dtX7_commit_105_2_ok (i := 5) rfl
theorem dX7_commit_116 : decode cX7_commit 116 = .ok (.iconst 1, 1) := dc_of dtX7_commit_105_2_ok (i := 6) rfl
theorem dX7_commit_117 : decode cX7_commit 117 = .ok (.iadd, 1) := dc_of dtX7_commit_105_2_ok (i := 7) rfl
theorem dX7_commit_118 : decode cX7_commit 118 = .ok (.putfield 260, 3) := dc_of dtX7_commit_105_2_ok (i := 8) rfl
theorem dX7_commit_121 : decode cX7_commit 121 = .ok (.aload_n 0, 1) := dc_of dtX7_commit_105_2_ok (i := 9) rfl
theorem dX7_commit_122 : decode cX7_commit 122 = .ok (.invokevirtual 361, 3) := dc_of dtX7_commit_105_2_ok (i := 10) rfl
theorem dX7_commit_125 : decode cX7_commit 125 = .ok (.ireturn, 1) := dc_of dtX7_commit_105_2_ok (i := 11) rfl
def dtX7_would_0_0 : List (Nat × Instr × Nat) := [(0, .aload_n 0, 1), (1, .iconst 0, 1), (2, .putfield 60, 3), (5, .aload_n 0, 1), (6, .iload_n 1, 1), (7, .invokevirtual 352, 3), (10, .ifCond .ne 5, 3), (13, .iconst (-1), 1), (14, .ireturn, 1), (15, .aload_n 0, 1), (16, .invokevirtual 358, 3), (19, .istore_n 2, 1), (20, .iload_n 2, 1), (21, .ifCond .ge 7, 3), (24, .iload_n 2, 1), (25, .goto 10, 3), (28, .aload_n 0, 1), (29, .bipush 10, 2), (31, .iload_n 1, 1), (32, .invokevirtual 295, 3), (35, .ireturn, 1)]
theorem dtX7_would_0_0_ok : dcAll cX7_would dtX7_would_0_0 = true := by decide +kernel
theorem dX7_would_0 : decode cX7_would 0 = .ok (.aload_n 0, 1) := dc_of dtX7_would_0_0_ok (i := 0) rfl
theorem dX7_would_1 : decode cX7_would 1 = .ok (.iconst 0, 1) := dc_of dtX7_would_0_0_ok (i := 1) rfl
theorem dX7_would_2 : decode cX7_would 2 = .ok (.putfield 60, 3) := dc_of dtX7_would_0_0_ok (i := 2) rfl
theorem dX7_would_5 : decode cX7_would 5 = .ok (.aload_n 0, 1) := dc_of dtX7_would_0_0_ok (i := 3) rfl
theorem dX7_would_6 : decode cX7_would 6 = .ok (.iload_n 1, 1) := dc_of dtX7_would_0_0_ok (i := 4) rfl
theorem dX7_would_7 : decode cX7_would 7 = .ok (.invokevirtual 352, 3) := dc_of dtX7_would_0_0_ok (i := 5) rfl
theorem dX7_would_10 : decode cX7_would 10 = .ok (.ifCond .ne 5, 3) := dc_of dtX7_would_0_0_ok (i := 6) rfl
theorem dX7_would_13 : decode cX7_would 13 = .ok (.iconst (-1), 1) := dc_of dtX7_would_0_0_ok (i := 7) rfl
theorem dX7_would_14 : decode cX7_would 14 = .ok (.ireturn, 1) := dc_of dtX7_would_0_0_ok (i := 8) rfl
theorem dX7_would_15 : decode cX7_would 15 = .ok (.aload_n 0, 1) := dc_of dtX7_would_0_0_ok (i := 9) rfl
theorem dX7_would_16 : decode cX7_would 16 = .ok (.invokevirtual 358, 3) := dc_of dtX7_would_0_0_ok (i := 10) rfl
theorem dX7_would_19 : decode cX7_would 19 = .ok (.istore_n 2, 1) := dc_of dtX7_would_0_0_ok (i := 11) rfl
theorem dX7_would_20 : decode cX7_would 20 = .ok (.iload_n 2, 1) := dc_of dtX7_would_0_0_ok (i := 12) rfl
theorem dX7_would_21 : decode cX7_would 21 = .ok (.ifCond .ge 7, 3) := dc_of dtX7_would_0_0_ok (i := 13) rfl
theorem dX7_would_24 : decode cX7_would 24 = .ok (.iload_n 2, 1) := dc_of dtX7_would_0_0_ok (i := 14) rfl
theorem dX7_would_25 : decode cX7_would 25 = .ok (.goto 10, 3) := dc_of dtX7_would_0_0_ok (i := 15) rfl
theorem dX7_would_28 : decode cX7_would 28 = .ok (.aload_n 0, 1) := dc_of dtX7_would_0_0_ok (i := 16) rfl
theorem dX7_would_29 : decode cX7_would 29 = .ok (.bipush 10, 2) := dc_of dtX7_would_0_0_ok (i := 17) rfl
theorem dX7_would_31 : decode cX7_would 31 = .ok (.iload_n 1, 1) := dc_of dtX7_would_0_0_ok (i := 18) rfl
theorem dX7_would_32 : decode cX7_would 32 = .ok (.invokevirtual 295, 3) := dc_of dtX7_would_0_0_ok (i := 19) rfl
theorem dX7_would_35 : decode cX7_would 35 = .ok (.ireturn, 1) := dc_of dtX7_would_0_0_ok (i := 20) rfl
def dtX7_undo_0_0 : List (Nat × Instr × Nat) := [(0, .aload_n 0, 1), (1, .iconst 0, 1), (2, .putfield 60, 3), (5, .aload_n 0, 1), (6, .getfield 257, 3), (9, .ifCond .ne 5, 3), (12, .iconst (-1), 1), (13, .ireturn, 1), (14, .aload_n 0, 1), (15, .dup, 1), (16, .getfield 257, 3), (19, .iconst 1, 1), (20, .isub, 1), (21, .putfield 257, 3), (24, .aload_n 0, 1), (25, .iconst 0, 1), (26, .bipush 9, 2), (28, .invokevirtual 340, 3), (31, .aload_n 0, 1), (32, .iconst 1, 1), (33, .aload_n 0, 1), (34, .getfield 257, 3), (37, .iadd, 1), (38, .iconst 0, 1), (39, .invokevirtual 340, 3), (42, .aload_n 0, 1), (43, .getfield 257, 3), (46, .ireturn, 1)]
theorem dtX7_undo_0_0_ok : dcAll cX7_undo dtX7_undo_0_0 = true := by decide +kernel
theorem dX7_undo_0 : decode cX7_undo 0 = .ok (.aload_n 0, 1) := dc_of dtX7_undo_0_0_ok (i := 0) rfl
theorem dX7_undo_1 : decode cX7_undo 1 = .ok (.iconst 0, 1) := dc_of dtX7_undo_0_0_ok (i := 1) rfl
theorem dX7_undo_2 : decode cX7_undo 2 = .ok (.putfield 60, 3) := dc_of dtX7_undo_0_0_ok (i := 2) rfl
theorem dX7_undo_5 : decode cX7_undo 5 = .ok (.aload_n 0, 1) := dc_of dtX7_undo_0_0_ok (i := 3) rfl
theorem dX7_undo_6 : decode cX7_undo 6 = .ok (.getfield 257, 3) := dc_of dtX7_undo_0_0_ok (i := 4) rfl
theorem dX7_undo_9 : decode cX7_undo 9 = .ok (.ifCond .ne 5, 3) := dc_of dtX7_undo_0_0_ok (i := 5) rfl
theorem dX7_undo_12 : decode cX7_undo 12 = .ok (.iconst (-1), 1) := dc_of dtX7_undo_0_0_ok (i := 6) rfl
theorem dX7_undo_13 : decode cX7_undo 13 = .ok (.ireturn, 1) := dc_of dtX7_undo_0_0_ok (i := 7) rfl
theorem dX7_undo_14 : decode cX7_undo 14 = .ok (.aload_n 0, 1) := dc_of dtX7_undo_0_0_ok (i := 8) rfl
theorem dX7_undo_15 : decode cX7_undo 15 = .ok (.dup, 1) := dc_of dtX7_undo_0_0_ok (i := 9) rfl
theorem dX7_undo_16 : decode cX7_undo 16 = .ok (.getfield 257, 3) := dc_of dtX7_undo_0_0_ok (i := 10) rfl
theorem dX7_undo_19 : decode cX7_undo 19 = .ok (.iconst 1, 1) := dc_of dtX7_undo_0_0_ok (i := 11) rfl
theorem dX7_undo_20 : decode cX7_undo 20 = .ok (.isub, 1) := dc_of dtX7_undo_0_0_ok (i := 12) rfl
theorem dX7_undo_21 : decode cX7_undo 21 = .ok (.putfield 257, 3) := dc_of dtX7_undo_0_0_ok (i := 13) rfl
theorem dX7_undo_24 : decode cX7_undo 24 = .ok (.aload_n 0, 1) := dc_of dtX7_undo_0_0_ok (i := 14) rfl
theorem dX7_undo_25 : decode cX7_undo 25 = .ok (.iconst 0, 1) := dc_of dtX7_undo_0_0_ok (i := 15) rfl
theorem dX7_undo_26 : decode cX7_undo 26 = .ok (.bipush 9, 2) := dc_of dtX7_undo_0_0_ok (i := 16) rfl
theorem dX7_undo_28 : decode cX7_undo 28 = .ok (.invokevirtual 340, 3) := dc_of dtX7_undo_0_0_ok (i := 17) rfl
theorem dX7_undo_31 : decode cX7_undo 31 = .ok (.aload_n 0, 1) := dc_of dtX7_undo_0_0_ok (i := 18) rfl
theorem dX7_undo_32 : decode cX7_undo 32 = .ok (.iconst 1, 1) := dc_of dtX7_undo_0_0_ok (i := 19) rfl
theorem dX7_undo_33 : decode cX7_undo 33 = .ok (.aload_n 0, 1) := dc_of dtX7_undo_0_0_ok (i := 20) rfl
theorem dX7_undo_34 : decode cX7_undo 34 = .ok (.getfield 257, 3) := dc_of dtX7_undo_0_0_ok (i := 21) rfl
theorem dX7_undo_37 : decode cX7_undo 37 = .ok (.iadd, 1) := dc_of dtX7_undo_0_0_ok (i := 22) rfl
theorem dX7_undo_38 : decode cX7_undo 38 = .ok (.iconst 0, 1) := dc_of dtX7_undo_0_0_ok (i := 23) rfl
theorem dX7_undo_39 : decode cX7_undo 39 = .ok (.invokevirtual 340, 3) := dc_of dtX7_undo_0_0_ok (i := 24) rfl
theorem dX7_undo_42 : decode cX7_undo 42 = .ok (.aload_n 0, 1) := dc_of dtX7_undo_0_0_ok (i := 25) rfl
theorem dX7_undo_43 : decode cX7_undo 43 = .ok (.getfield 257, 3) := dc_of dtX7_undo_0_0_ok (i := 26) rfl
theorem dX7_undo_46 : decode cX7_undo 46 = .ok (.ireturn, 1) := dc_of dtX7_undo_0_0_ok (i := 27) rfl
def dtX7_size_0_0 : List (Nat × Instr × Nat) := [(0, .aload_n 0, 1), (1, .iconst 0, 1), (2, .putfield 60, 3), (5, .aload_n 0, 1), (6, .iload_n 1, 1), (7, .invokevirtual 352, 3), (10, .ifCond .eq 12, 3), (13, .aload_n 0, 1), (14, .iconst 0, 1), (15, .iload_n 1, 1), (16, .invokevirtual 295, 3), (19, .goto 4, 3), (22, .iconst (-1), 1), (23, .ireturn, 1)]
theorem dtX7_size_0_0_ok : dcAll cX7_size dtX7_size_0_0 = true := by decide +kernel
theorem dX7_size_0 : decode cX7_size 0 = .ok (.aload_n 0, 1) := dc_of dtX7_size_0_0_ok (i := 0) rfl
theorem dX7_size_1 : decode cX7_size 1 = .ok (.iconst 0, 1) := dc_of dtX7_size_0_0_ok (i := 1) rfl
theorem dX7_size_2 : decode cX7_size 2 = .ok (.putfield 60, 3) := dc_of dtX7_size_0_0_ok (i := 2) rfl
theorem dX7_size_5 : decode cX7_size 5 = .ok (.aload_n 0, 1) := dc_of dtX7_size_0_0_ok (i := 3) rfl
theorem dX7_size_6 : decode cX7_size 6 = .ok (.iload_n 1, 1) := dc_of dtX7_size_0_0_ok (i := 4) rfl
theorem dX7_size_7 : decode cX7_size 7 = .ok (.invokevirtual 352, 3) := dc_of dtX7_size_0_0_ok (i := 5) rfl
theorem dX7_size_10 : decode cX7_size 10 = .ok (.ifCond .eq 12, 3) := dc_of dtX7_size_0_0_ok (i := 6) rfl
theorem dX7_size_13 : decode cX7_size 13 = .ok (.aload_n 0, 1) := dc_of dtX7_size_0_0_ok (i := 7) rfl
theorem dX7_size_14 : decode cX7_size 14 = .ok (.iconst 0, 1) := dc_of dtX7_size_0_0_ok (i := 8) rfl
theorem dX7_size_15 : decode cX7_size 15 = .ok (.iload_n 1, 1) := dc_of dtX7_size_0_0_ok (i := 9) rfl
theorem dX7_size_16 : decode cX7_size 16 = .ok (.invokevirtual 295, 3) := dc_of dtX7_size_0_0_ok (i := 10) rfl
theorem dX7_size_19 : decode cX7_size 19 = .ok (.goto 4, 3) := dc_of dtX7_size_0_0_ok (i := 11) rfl
theorem dX7_size_22 : decode cX7_size 22 = .ok (.iconst (-1), 1) := dc_of dtX7_size_0_0_ok (i := 12) rfl
theorem dX7_size_23 : decode cX7_size 23 = .ok (.ireturn, 1) := dc_of dtX7_size_0_0_ok (i := 13) rfl
def dtX7_isTold_0_0 : List (Nat × Instr × Nat) := [(0, .aload_n 0, 1), (1, .iload_n 1, 1), (2, .invokevirtual 352, 3), (5, .ifCond .eq 27, 3), (8, .iload_n 2, 1), (9, .iconst 4, 1), (10, .if_icmp .eq 18, 3), (13, .iload_n 2, 1), (14, .iconst 0, 1), (15, .aload_n 0, 1), (16, .iload_n 1, 1), (17, .invokevirtual 301, 3), (20, .iconst 1, 1), (21, .isub, 1), (22, .invokestatic 67, 3), (25, .ifCond .eq 7, 3), (28, .iconst 1, 1), (29, .goto 4, 3), (32, .iconst 0, 1), (33, .ireturn, 1)]
theorem dtX7_isTold_0_0_ok : dcAll cX7_isTold dtX7_isTold_0_0 = true := by decide +kernel
theorem dX7_isTold_0 : decode cX7_isTold 0 = .ok (.aload_n 0, 1) := dc_of dtX7_isTold_0_0_ok (i := 0) rfl
theorem dX7_isTold_1 : decode cX7_isTold 1 = .ok (.iload_n 1, 1) := dc_of dtX7_isTold_0_0_ok (i := 1) rfl
theorem dX7_isTold_2 : decode cX7_isTold 2 = .ok (.invokevirtual 352, 3) := dc_of dtX7_isTold_0_0_ok (i := 2) rfl
theorem dX7_isTold_5 : decode cX7_isTold 5 = .ok (.ifCond .eq 27, 3) := dc_of dtX7_isTold_0_0_ok (i := 3) rfl
theorem dX7_isTold_8 : decode cX7_isTold 8 = .ok (.iload_n 2, 1) := dc_of dtX7_isTold_0_0_ok (i := 4) rfl
theorem dX7_isTold_9 : decode cX7_isTold 9 = .ok (.iconst 4, 1) := dc_of dtX7_isTold_0_0_ok (i := 5) rfl
theorem dX7_isTold_10 : decode cX7_isTold 10 = .ok (.if_icmp .eq 18, 3) := dc_of dtX7_isTold_0_0_ok (i := 6) rfl
theorem dX7_isTold_13 : decode cX7_isTold 13 = .ok (.iload_n 2, 1) := dc_of dtX7_isTold_0_0_ok (i := 7) rfl
theorem dX7_isTold_14 : decode cX7_isTold 14 = .ok (.iconst 0, 1) := dc_of dtX7_isTold_0_0_ok (i := 8) rfl
theorem dX7_isTold_15 : decode cX7_isTold 15 = .ok (.aload_n 0, 1) := dc_of dtX7_isTold_0_0_ok (i := 9) rfl
theorem dX7_isTold_16 : decode cX7_isTold 16 = .ok (.iload_n 1, 1) := dc_of dtX7_isTold_0_0_ok (i := 10) rfl
theorem dX7_isTold_17 : decode cX7_isTold 17 = .ok (.invokevirtual 301, 3) := dc_of dtX7_isTold_0_0_ok (i := 11) rfl
theorem dX7_isTold_20 : decode cX7_isTold 20 = .ok (.iconst 1, 1) := dc_of dtX7_isTold_0_0_ok (i := 12) rfl
theorem dX7_isTold_21 : decode cX7_isTold 21 = .ok (.isub, 1) := dc_of dtX7_isTold_0_0_ok (i := 13) rfl
theorem dX7_isTold_22 : decode cX7_isTold 22 = .ok (.invokestatic 67, 3) := dc_of dtX7_isTold_0_0_ok (i := 14) rfl
theorem dX7_isTold_25 : decode cX7_isTold 25 = .ok (.ifCond .eq 7, 3) := dc_of dtX7_isTold_0_0_ok (i := 15) rfl
theorem dX7_isTold_28 : decode cX7_isTold 28 = .ok (.iconst 1, 1) := dc_of dtX7_isTold_0_0_ok (i := 16) rfl
theorem dX7_isTold_29 : decode cX7_isTold 29 = .ok (.goto 4, 3) := dc_of dtX7_isTold_0_0_ok (i := 17) rfl
theorem dX7_isTold_32 : decode cX7_isTold 32 = .ok (.iconst 0, 1) := dc_of dtX7_isTold_0_0_ok (i := 18) rfl
theorem dX7_isTold_33 : decode cX7_isTold 33 = .ok (.ireturn, 1) := dc_of dtX7_isTold_0_0_ok (i := 19) rfl
def dtX7_at_0_0 : List (Nat × Instr × Nat) := [(0, .aload_n 0, 1), (1, .aload_n 0, 1), (2, .iload_n 1, 1), (3, .iload_n 3, 1), (4, .invokevirtual 364, 3), (7, .ifCond .eq 23, 3), (10, .iload_n 2, 1), (11, .iconst 0, 1), (12, .aload_n 0, 1), (13, .iconst 0, 1), (14, .iload_n 1, 1), (15, .invokevirtual 295, 3), (18, .iconst 1, 1), (19, .isub, 1), (20, .invokestatic 67, 3), (23, .ifCond .eq 7, 3), (26, .iconst 0, 1), (27, .goto 4, 3), (30, .iconst 1, 1), (31, .putfield 60, 3), (34, .aload_n 0, 1), (35, .getfield 60, 3), (38, .ifCond .ne 19, 3), (41, .aload_n 0, 1), (42, .getfield 24, 3), (45, .iconst 0, 1), (46, .iload_n 1, 1), (47, .iload_n 2, 1), (48, .invokestatic 279, 3), (51, .iload_n 3, 1), (52, .iadd, 1), (53, .iaload, 1)]
theorem dtX7_at_0_0_ok : dcAll cX7_at dtX7_at_0_0 = true := by decide +kernel
theorem dX7_at_0 : decode cX7_at 0 = .ok (.aload_n 0, 1) := dc_of dtX7_at_0_0_ok (i := 0) rfl
theorem dX7_at_1 : decode cX7_at 1 = .ok (.aload_n 0, 1) := dc_of dtX7_at_0_0_ok (i := 1) rfl
theorem dX7_at_2 : decode cX7_at 2 = .ok (.iload_n 1, 1) := dc_of dtX7_at_0_0_ok (i := 2) rfl
theorem dX7_at_3 : decode cX7_at 3 = .ok (.iload_n 3, 1) := dc_of dtX7_at_0_0_ok (i := 3) rfl
theorem dX7_at_4 : decode cX7_at 4 = .ok (.invokevirtual 364, 3) := dc_of dtX7_at_0_0_ok (i := 4) rfl
theorem dX7_at_7 : decode cX7_at 7 = .ok (.ifCond .eq 23, 3) := dc_of dtX7_at_0_0_ok (i := 5) rfl
theorem dX7_at_10 : decode cX7_at 10 = .ok (.iload_n 2, 1) := dc_of dtX7_at_0_0_ok (i := 6) rfl
theorem dX7_at_11 : decode cX7_at 11 = .ok (.iconst 0, 1) := dc_of dtX7_at_0_0_ok (i := 7) rfl
theorem dX7_at_12 : decode cX7_at 12 = .ok (.aload_n 0, 1) := dc_of dtX7_at_0_0_ok (i := 8) rfl
theorem dX7_at_13 : decode cX7_at 13 = .ok (.iconst 0, 1) := dc_of dtX7_at_0_0_ok (i := 9) rfl
theorem dX7_at_14 : decode cX7_at 14 = .ok (.iload_n 1, 1) := dc_of dtX7_at_0_0_ok (i := 10) rfl
theorem dX7_at_15 : decode cX7_at 15 = .ok (.invokevirtual 295, 3) := dc_of dtX7_at_0_0_ok (i := 11) rfl
theorem dX7_at_18 : decode cX7_at 18 = .ok (.iconst 1, 1) := dc_of dtX7_at_0_0_ok (i := 12) rfl
theorem dX7_at_19 : decode cX7_at 19 = .ok (.isub, 1) := dc_of dtX7_at_0_0_ok (i := 13) rfl
theorem dX7_at_20 : decode cX7_at 20 = .ok (.invokestatic 67, 3) := dc_of dtX7_at_0_0_ok (i := 14) rfl
theorem dX7_at_23 : decode cX7_at 23 = .ok (.ifCond .eq 7, 3) := dc_of dtX7_at_0_0_ok (i := 15) rfl
theorem dX7_at_26 : decode cX7_at 26 = .ok (.iconst 0, 1) := dc_of dtX7_at_0_0_ok (i := 16) rfl
theorem dX7_at_27 : decode cX7_at 27 = .ok (.goto 4, 3) := dc_of dtX7_at_0_0_ok (i := 17) rfl
theorem dX7_at_30 : decode cX7_at 30 = .ok (.iconst 1, 1) := dc_of dtX7_at_0_0_ok (i := 18) rfl
theorem dX7_at_31 : decode cX7_at 31 = .ok (.putfield 60, 3) := dc_of dtX7_at_0_0_ok (i := 19) rfl
theorem dX7_at_34 : decode cX7_at 34 = .ok (.aload_n 0, 1) := dc_of dtX7_at_0_0_ok (i := 20) rfl
theorem dX7_at_35 : decode cX7_at 35 = .ok (.getfield 60, 3) := dc_of dtX7_at_0_0_ok (i := 21) rfl
theorem dX7_at_38 : decode cX7_at 38 = .ok (.ifCond .ne 19, 3) := dc_of dtX7_at_0_0_ok (i := 22) rfl
theorem dX7_at_41 : decode cX7_at 41 = .ok (.aload_n 0, 1) := dc_of dtX7_at_0_0_ok (i := 23) rfl
theorem dX7_at_42 : decode cX7_at 42 = .ok (.getfield 24, 3) := dc_of dtX7_at_0_0_ok (i := 24) rfl
theorem dX7_at_45 : decode cX7_at 45 = .ok (.iconst 0, 1) := dc_of dtX7_at_0_0_ok (i := 25) rfl
theorem dX7_at_46 : decode cX7_at 46 = .ok (.iload_n 1, 1) := dc_of dtX7_at_0_0_ok (i := 26) rfl
theorem dX7_at_47 : decode cX7_at 47 = .ok (.iload_n 2, 1) := dc_of dtX7_at_0_0_ok (i := 27) rfl
theorem dX7_at_48 : decode cX7_at 48 = .ok (.invokestatic 279, 3) := dc_of dtX7_at_0_0_ok (i := 28) rfl
theorem dX7_at_51 : decode cX7_at 51 = .ok (.iload_n 3, 1) := dc_of dtX7_at_0_0_ok (i := 29) rfl
theorem dX7_at_52 : decode cX7_at 52 = .ok (.iadd, 1) := dc_of dtX7_at_0_0_ok (i := 30) rfl
theorem dX7_at_53 : decode cX7_at 53 = .ok (.iaload, 1) := dc_of dtX7_at_0_0_ok (i := 31) rfl
def dtX7_at_54_1 : List (Nat × Instr × Nat) := [(54, .goto 4, 3), (57, .iconst 0, 1), (58, .ireturn, 1)]
theorem dtX7_at_54_1_ok : dcAll cX7_at dtX7_at_54_1 = true := by decide +kernel
theorem dX7_at_54 : decode cX7_at 54 = .ok (.goto 4, 3) := dc_of dtX7_at_54_1_ok (i := 0) rfl
theorem dX7_at_57 : decode cX7_at 57 = .ok (.iconst 0, 1) := dc_of dtX7_at_54_1_ok (i := 1) rfl
theorem dX7_at_58 : decode cX7_at 58 = .ok (.ireturn, 1) := dc_of dtX7_at_54_1_ok (i := 2) rfl
def dtX7_find_0_0 : List (Nat × Instr × Nat) := [(0, .aload_n 0, 1), (1, .iload_n 2, 1), (2, .invokevirtual 301, 3), (5, .istore 7, 2), (7, .aload_n 0, 1), (8, .getfield 45, 3)]
theorem dtX7_find_0_0_ok : dcAll cX7_find dtX7_find_0_0 = true := by decide +kernel
theorem dX7_find_0 : decode cX7_find 0 = .ok (.aload_n 0, 1) := dc_of dtX7_find_0_0_ok (i := 0) rfl
theorem dX7_find_1 : decode cX7_find 1 = .ok (.iload_n 2, 1) := dc_of dtX7_find_0_0_ok (i := 1) rfl
theorem dX7_find_2 : decode cX7_find 2 = .ok (.invokevirtual 301, 3) := dc_of dtX7_find_0_0_ok (i := 2) rfl
theorem dX7_find_5 : decode cX7_find 5 = .ok (.istore 7, 2) := dc_of dtX7_find_0_0_ok (i := 3) rfl
theorem dX7_find_7 : decode cX7_find 7 = .ok (.aload_n 0, 1) := dc_of dtX7_find_0_0_ok (i := 4) rfl
theorem dX7_find_8 : decode cX7_find 8 = .ok (.getfield 45, 3) := dc_of dtX7_find_0_0_ok (i := 5) rfl
